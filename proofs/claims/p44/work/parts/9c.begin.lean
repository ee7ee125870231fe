/-! the beginning on both sides -/
def zi0 : Nat → Nat := fun i => if 2566 ≤ i ∧ i < 2570 then 123 else 0
theorem zi0_at {i : Nat} (h : i < 2566 ∨ 2570 ≤ i) : zi0 i = 0 := if_neg (by omega)
theorem zi0_WF : zWF zi0 := by
  have hq : ∀ q, q < 4 → zqn zi0 q = 0 := fun q hq => zi0_at (by omega)
  have ho : ∀ q, q < 4 → zqo zi0 q = 123 := fun q hq => if_pos (by omega)
  have hf : ∀ t k, t < 5 → k < 512 → zfacts zi0 t k = false := fun t k ht hk => by
    unfold zfacts
    rw [zi0_at (by omega)]; rfl
  have hn : zrn zi0 = 0 := zi0_at (by omega)
  have h00 : zi0 0 = 0 := zi0_at (by omega)
  refine ⟨by omega, fun t ht => by omega, fun i hi => by rw [zi0_at (by omega)]; omega, fun t k ht hk h => absurd h (by rw [hf t k ht hk]; decide), ?_, ?_, ⟨by omega, fun r hr => by omega⟩, fun r hr => by omega, ⟨fun _ => 0, ?_⟩⟩
  · intro t ht
    have : zcnt (zfacts zi0 t) 512 = zcnt (zfacts zi0 t) 0 := zcnt_flat (by omega) (fun k _ hk => hf t k ht hk)
    rw [this, zcnt_0]; omega
  · intro q hq'
    refine ⟨⟨by rw [hq q hq']; omega, fun i hi => by rw [hq q hq'] at hi; omega⟩, by rw [ho q hq']; exact zOr_123, fun i hi => by rw [hq q hq'] at hi; omega⟩
  · rintro h u w ⟨r, i, h1, _⟩
    omega
/-- a fact more at the beginning -/
theorem zi_fact {wd : Nat → Int32} {fa : Nat → Int64} {od hd : Nat → Int32} {qc : Nat → Nat → Int32} {qs : Nat → Int32} {bc : Nat → Nat → Int32} {bs : Nat → Int32} {tt rt : Int32} {s : Nat → Nat} (hW : zWF s) (hS : zSR wd fa od hd qc qs bc bs tt rt s) {t k : Nat} (ht : t < s 0) (hk : k < 512) (hz : zin (s (1 + t)) k) (h60 : zcnt (zfacts s t) 512 < 60) {fa' : Nat → Int64} (hadd : ∀ t' k', t' < 5 → k' < 512 → zw fa' t' k' = (zw fa t' k' || (decide (t' = t) && decide (k' = k)))) :
    zWF (zup s (6 + 512 * t + k) 1) ∧ zSR wd fa' od hd qc qs bc bs tt rt (zup s (6 + 512 * t + k) 1) := by
  have h5 := hW.1
  obtain ⟨hW', hR, hQ, hT⟩ := zWF_fact (v := 1) hW ht hk (by omega) hz (fun _ => h60)
  have hfa := hS.2.2.1
  have hf' : zeqR (zw fa') (zfacts (zup s (6 + 512 * t + k) 1)) := by
    intro t' k' ht' hk'
    rw [hadd t' k' ht' hk', zfacts_up s (by omega) hk t' k' hk', hfa t' k' ht' hk']
    by_cases g : t' = t ∧ k' = k
    · rw [if_pos g, decide_eq_true g.1, decide_eq_true g.2]; simp
    · rw [if_neg g]
      by_cases g1 : t' = t
      · rw [decide_eq_false (fun g2 => g ⟨g1, g2⟩)]; simp
      · rw [decide_eq_false g1]; simp
  exact ⟨hW', zSR_facts hS (zup_ne s 1 (by omega)) hR hQ hT hf'⟩
theorem zX12_laysAtom {now : Nat → Int32} {s : Nat → Nat} (hm : zM now s) {k t x y z : Nat} (hk : k < 4) (hn : zqn s k < 5) (ht : t < 5) (hx : x < 4) (hy : y < 4) (hz : z < 4) :
    ∃ now', fX12_laysAtom (nI k) (nI t) (nI x) (nI y) (nI z) now = some now' ∧ zM now' (zup (zlay s (zqp k (zqn s k)) t x y z) (2570 + 21 * k) (zqn s k + 1)) := by
  have hzp : zqp k (zqn s k) + 3 < 2780 := by unfold zqp; omega
  obtain ⟨now1, el, hm1⟩ := zX12_laysHead hm (x := x) (y := y) (z := z) (t := t) hzp (by omega) (by omega) (by omega) (by omega)
  have hq1 : now1 (2570 + 21 * k) = nI (zqn s k) := by
    rw [(hm1 (2570 + 21 * k) (by omega)).1, zlay_ne s (Or.inl (by unfold zqp; omega))]
    rfl
  have e7 : (2570 : Int32) + ((21 : Int32) * nI k) = nI (2570 + 21 * k) := by rw [show (2570 : Int32) = nI 2570 from rfl, show (21 : Int32) = nI 21 from rfl, zi_mul, zi_add]
  refine ⟨_, ?_, zM_up (v := zqn s k + 1) hm1 (by omega)⟩
  unfold fX12_laysAtom
  rw [zX12_atoms hm hk, Option.bind_some, zX12_atomAt, Option.bind_some, el, Option.bind_some, e7, if_pos (by rw [zi_inB (by omega)]; omega), if_pos (by rw [zi_inB (by omega)]; omega), zi_clamp (by omega), hq1, ← nI_succ]
theorem zX12_laysRule {now : Nat → Int32} {s : Nat → Nat} (hm : zM now s) {t x y z : Nat} (hn : zrn s < 5) (ht : t < 5) (hx : x < 4) (hy : y < 4) (hz : z < 4) :
    ∃ now', fX12_laysRule (nI t) (nI x) (nI y) (nI z) now = some now' ∧ zM now' (zup (zup (zlay s (zhp (zrn s)) t x y z) (zhp (zrn s) + 4) 0) 2654 (zrn s + 1)) := by
  have c2 : (2654 : Int32).toNatClampNeg = 2654 := by decide
  have i2 : inB (2654 : Int32) 2780 = true := by decide
  have n2 : now 2654 = nI (zrn s) := (hm 2654 (by omega)).1
  have hp : zhp (zrn s) = 2655 + 25 * zrn s := rfl
  obtain ⟨now1, el, hm1⟩ := zX12_laysHead hm (p := zhp (zrn s)) (x := x) (y := y) (z := z) (t := t) (by omega) (by omega) (by omega) (by omega) (by omega)
  have hq1 : now1 2654 = nI (zrn s) := by
    rw [(hm1 2654 (by omega)).1, zlay_ne s (Or.inl (by omega))]
    rfl
  have e7 : nI (zhp (zrn s)) + (4 : Int32) = nI (zhp (zrn s) + 4) := by rw [show (4 : Int32) = nI 4 from rfl, zi_add]
  refine ⟨_, ?_, zM_up (v := zrn s + 1) (zM_up (i := zhp (zrn s) + 4) (v := 0) hm1 (by omega)) (by omega)⟩
  unfold fX12_laysRule
  rw [if_pos i2, c2, n2, zX12_headAt, Option.bind_some, el, Option.bind_some, if_pos i2, hq1, zX12_headAt, Option.bind_some, e7, if_pos (by rw [zi_inB (by omega)]; omega), if_pos i2, if_pos i2, zi_clamp (by omega)]
  have : upd now1 (zhp (zrn s) + 4) (0 : Int32) 2654 = nI (zrn s) := by rw [zu_ne now1 0 (by omega)]; exact hq1
  rw [this, ← nI_succ]
  rfl
theorem zX12_laysRA {now : Nat → Int32} {s : Nat → Nat} (hm : zM now s) {u t x y z v : Nat} (hu : u < 5) (hn : zbn s u < 4) (ht : t < 5) (hx : x < 4) (hy : y < 4) (hz : z < 4) (hv : v ≤ 1) :
    ∃ now', fX12_laysRuleAtom (nI u) (nI t) (nI x) (nI y) (nI z) (nI v) now = some now' ∧ zM now' (zrat s u t x y z v) := by
  have hp : zhp u = 2655 + 25 * u := rfl
  have hb : zbp u (zbn s u) = zhp u + 5 + 5 * zbn s u := rfl
  obtain ⟨now1, el, hm1⟩ := zX12_laysHead hm (p := zbp u (zbn s u)) (x := x) (y := y) (z := z) (t := t) (by omega) (by omega) (by omega) (by omega) (by omega)
  have e7 : nI (zbp u (zbn s u)) + (4 : Int32) = nI (zbp u (zbn s u) + 4) := by rw [show (4 : Int32) = nI 4 from rfl, zi_add]
  have e8 : nI (zhp u) + (4 : Int32) = nI (zhp u + 4) := by rw [show (4 : Int32) = nI 4 from rfl, zi_add]
  have hc : upd now1 (zbp u (zbn s u) + 4) (nI v) (zhp u + 4) = nI (zbn s u) := by
    rw [zu_ne now1 _ (by omega), (hm1 (zhp u + 4) (by omega)).1, zlay_ne s (Or.inl (by omega))]
    rfl
  refine ⟨upd (upd now1 (zbp u (zbn s u) + 4) (nI v)) (zhp u + 4) (nI (zbn s u + 1)), ?_, zM_up (zM_up hm1 (by omega)) (by omega)⟩
  unfold fX12_laysRuleAtom
  rw [zX12_ruleAtoms hm hu, Option.bind_some, zX12_ruleAtomAt, Option.bind_some, el, Option.bind_some, e7, if_pos (by rw [zi_inB (by omega)]; omega), zX12_headAt, Option.bind_some, e8, if_pos (by rw [zi_inB (by omega)]; omega), if_pos (by rw [zi_inB (by omega)]; omega), zi_clamp (by omega), zi_clamp (by omega), hc, ← nI_succ]
theorem zX12_tells {now : Nat → Int32} {s : Nat → Nat} (hm : zM now s) {t x y : Nat} (ht : t < 5) (hx : x < 8) (hy : y < 8) : ∃ now', fX12_tells (nI t) (nI x) (nI y) now = some now' ∧ zM now' (zup s (6 + 512 * t + (64 * x + 8 * y)) 1) := by
  refine ⟨_, ?_, zM_up (v := 1) hm (by omega)⟩
  unfold fX12_tells
  have e7 : ((6 : Int32) + ((512 : Int32) * nI t)) + nI (64 * x + 8 * y) = nI (6 + 512 * t + (64 * x + 8 * y)) := by rw [show (6 : Int32) = nI 6 from rfl, show (512 : Int32) = nI 512 from rfl, zi_mul, zi_add, zi_add]
  have ec : fX12_code (nI x) (nI y) (0 : Int32) = some (nI (64 * x + 8 * y)) := zX12_code x y 0
  rw [ec, Option.bind_some, e7, if_pos (by rw [zi_inB (by omega)]; omega), zi_clamp (by omega)]
  rfl
def zra : Nat → Nat := zup (zup (zup (zup (fun _ => 0) 0 3) 1 2) 2 2) 3 1
def zrf0 : Nat → Nat := zup zra (6 + 512 * 0 + (64 * 0 + 8 * 1)) 1
def zrf1 : Nat → Nat := zup zrf0 (6 + 512 * 0 + (64 * 0 + 8 * 2)) 1
def zrf2 : Nat → Nat := zup zrf1 (6 + 512 * 0 + (64 * 1 + 8 * 2)) 1
def zrf3 : Nat → Nat := zup zrf2 (6 + 512 * 0 + (64 * 2 + 8 * 0)) 1
def zrf4 : Nat → Nat := zup zrf3 (6 + 512 * 0 + (64 * 2 + 8 * 3)) 1
def zrf5 : Nat → Nat := zup zrf4 (6 + 512 * 0 + (64 * 3 + 8 * 4)) 1
def zrf6 : Nat → Nat := zup zrf5 (6 + 512 * 2 + (64 * 3 + 8 * 0)) 1
def zro4 : Nat → Nat := zup (zup (zup (zup zrf6 2566 123) 2567 123) 2568 123) 2569 123
def zrt0 : Nat → Nat := zup (zlay zro4 (zqp 0 0) 0 0 1 0) (2570 + 21 * 0) (0 + 1)
def zrt1 : Nat → Nat := zup (zlay zrt0 (zqp 0 1) 0 1 2 0) (2570 + 21 * 0) (1 + 1)
def zrt2 : Nat → Nat := zup (zlay zrt1 (zqp 0 2) 0 2 0 0) (2570 + 21 * 0) (2 + 1)
def zrt3 : Nat → Nat := zup (zlay zrt2 (zqp 1 0) 1 0 1 0) (2570 + 21 * 1) (0 + 1)
def zrt4 : Nat → Nat := zup (zlay zrt3 (zqp 1 1) 2 1 0 0) (2570 + 21 * 1) (1 + 1)
def zrr0 : Nat → Nat := zup (zup (zlay zrt4 (zhp 0) 1 0 1 0) (zhp 0 + 4) 0) 2654 (0 + 1)
def zrr1 : Nat → Nat := zup (zup (zlay zrr0 (zbp 0 0) 0 0 1 0) (zbp 0 0 + 4) 0) (zhp 0 + 4) (0 + 1)
def zrr2 : Nat → Nat := zup (zup (zlay zrr1 (zhp 1) 1 0 2 0) (zhp 1 + 4) 0) 2654 (1 + 1)
def zrr3 : Nat → Nat := zup (zup (zlay zrr2 (zbp 1 0) 1 0 1 0) (zbp 1 0 + 4) 0) (zhp 1 + 4) (0 + 1)
def zrr4 : Nat → Nat := zup (zup (zlay zrr3 (zbp 1 1) 0 1 2 0) (zbp 1 1 + 4) 0) (zhp 1 + 4) (1 + 1)
theorem zi_ref (K : Nat) : ∃ now, zM now zrr4 ∧ fX12_init K = (fX12_follows K now (fun _ => (0 : Int32)) (fun _ => (0 : Int32)) (fun _ => (0 : Int32)) (0 : Int32) (fun _ => (0 : Int32))).bind fun q278 => some (now, (fun _ => (0 : Int32)), (0 : Int32), (0 : Int32), q278.1, q278.2.1, q278.2.2.1, q278.2.2.2.1, q278.2.2.2.2, (fun _ => (0 : Int32)), (0 : Int32), (fun _ => (0 : Int32)), (0 : Int32), (fun _ => (0 : Int32)), (fun _ => (0 : Int32))) := by
  have m0 : zM (upd (upd (upd (upd (fun _ => (0 : Int32)) 0 (nI 3)) 1 (nI 2)) 2 (nI 2)) 3 (nI 1)) zra := zM_up (zM_up (zM_up (zM_up (fun i _ => ⟨rfl, by show 0 < 10000; omega⟩) (by omega)) (by omega)) (by omega)) (by omega)
  obtain ⟨nf0, ef0, mf0⟩ := zX12_tells m0 (t := 0) (x := 0) (y := 1) (by omega) (by omega) (by omega)
  obtain ⟨nf1, ef1, mf1⟩ := zX12_tells mf0 (t := 0) (x := 0) (y := 2) (by omega) (by omega) (by omega)
  obtain ⟨nf2, ef2, mf2⟩ := zX12_tells mf1 (t := 0) (x := 1) (y := 2) (by omega) (by omega) (by omega)
  obtain ⟨nf3, ef3, mf3⟩ := zX12_tells mf2 (t := 0) (x := 2) (y := 0) (by omega) (by omega) (by omega)
  obtain ⟨nf4, ef4, mf4⟩ := zX12_tells mf3 (t := 0) (x := 2) (y := 3) (by omega) (by omega) (by omega)
  obtain ⟨nf5, ef5, mf5⟩ := zX12_tells mf4 (t := 0) (x := 3) (y := 4) (by omega) (by omega) (by omega)
  obtain ⟨nf6, ef6, mf6⟩ := zX12_tells mf5 (t := 2) (x := 3) (y := 0) (by omega) (by omega) (by omega)
  have mo : zM (upd (upd (upd (upd nf6 2566 (nI 123)) 2567 (nI 123)) 2568 (nI 123)) 2569 (nI 123)) zro4 := zM_up (zM_up (zM_up (zM_up mf6 (by omega)) (by omega)) (by omega)) (by omega)
  obtain ⟨na0, ea0, ma0⟩ := zX12_laysAtom (s := zro4) mo (k := 0) (t := 0) (x := 0) (y := 1) (z := 0) (by omega) (by decide) (by omega) (by omega) (by omega) (by omega)
  have ma0 : zM na0 zrt0 := ma0
  obtain ⟨na1, ea1, ma1⟩ := zX12_laysAtom (s := zrt0) ma0 (k := 0) (t := 0) (x := 1) (y := 2) (z := 0) (by omega) (by decide) (by omega) (by omega) (by omega) (by omega)
  have ma1 : zM na1 zrt1 := ma1
  obtain ⟨na2, ea2, ma2⟩ := zX12_laysAtom (s := zrt1) ma1 (k := 0) (t := 0) (x := 2) (y := 0) (z := 0) (by omega) (by decide) (by omega) (by omega) (by omega) (by omega)
  have ma2 : zM na2 zrt2 := ma2
  obtain ⟨na3, ea3, ma3⟩ := zX12_laysAtom (s := zrt2) ma2 (k := 1) (t := 1) (x := 0) (y := 1) (z := 0) (by omega) (by decide) (by omega) (by omega) (by omega) (by omega)
  have ma3 : zM na3 zrt3 := ma3
  obtain ⟨na4, ea4, ma4⟩ := zX12_laysAtom (s := zrt3) ma3 (k := 1) (t := 2) (x := 1) (y := 0) (z := 0) (by omega) (by decide) (by omega) (by omega) (by omega) (by omega)
  have ma4 : zM na4 zrt4 := ma4
  obtain ⟨nr0, er0, mr0⟩ := zX12_laysRule (s := zrt4) ma4 (t := 1) (x := 0) (y := 1) (z := 0) (by decide) (by omega) (by omega) (by omega) (by omega)
  have mr0 : zM nr0 zrr0 := mr0
  obtain ⟨nr1, er1, mr1⟩ := zX12_laysRA (s := zrr0) mr0 (u := 0) (t := 0) (x := 0) (y := 1) (z := 0) (v := 0) (by omega) (by decide) (by omega) (by omega) (by omega) (by omega) (by omega)
  have mr1 : zM nr1 zrr1 := mr1
  obtain ⟨nr2, er2, mr2⟩ := zX12_laysRule (s := zrr1) mr1 (t := 1) (x := 0) (y := 2) (z := 0) (by decide) (by omega) (by omega) (by omega) (by omega)
  have mr2 : zM nr2 zrr2 := mr2
  obtain ⟨nr3, er3, mr3⟩ := zX12_laysRA (s := zrr2) mr2 (u := 1) (t := 1) (x := 0) (y := 1) (z := 0) (v := 0) (by omega) (by decide) (by omega) (by omega) (by omega) (by omega) (by omega)
  have mr3 : zM nr3 zrr3 := mr3
  obtain ⟨nr4, er4, mr4⟩ := zX12_laysRA (s := zrr3) mr3 (u := 1) (t := 0) (x := 1) (y := 2) (z := 0) (v := 0) (by omega) (by decide) (by omega) (by omega) (by omega) (by omega) (by omega)
  have mr4 : zM nr4 zrr4 := mr4
  refine ⟨nr4, mr4, ?_⟩
  have i0 : inB (0 : Int32) 2780 = true := by decide
  have i1 : inB (1 : Int32) 2780 = true := by decide
  have i2 : inB (2 : Int32) 2780 = true := by decide
  have i3 : inB (3 : Int32) 2780 = true := by decide
  have c0 : (0 : Int32).toNatClampNeg = 0 := by decide
  have c1 : (1 : Int32).toNatClampNeg = 1 := by decide
  have c2 : (2 : Int32).toNatClampNeg = 2 := by decide
  have c3 : (3 : Int32).toNatClampNeg = 3 := by decide
  have o0 : inB ((2566 : Int32) + (0 : Int32)) 2780 = true := by decide
  have o1 : inB ((2566 : Int32) + ((0 : Int32) + (1 : Int32))) 2780 = true := by decide
  have o2 : inB ((2566 : Int32) + (((0 : Int32) + (1 : Int32)) + (1 : Int32))) 2780 = true := by decide
  have o3 : inB ((2566 : Int32) + ((((0 : Int32) + (1 : Int32)) + (1 : Int32)) + (1 : Int32))) 2780 = true := by decide
  have p0 : ((2566 : Int32) + (0 : Int32)).toNatClampNeg = 2566 := by decide
  have p1 : ((2566 : Int32) + ((0 : Int32) + (1 : Int32))).toNatClampNeg = 2567 := by decide
  have p2 : ((2566 : Int32) + (((0 : Int32) + (1 : Int32)) + (1 : Int32))).toNatClampNeg = 2568 := by decide
  have p3 : ((2566 : Int32) + ((((0 : Int32) + (1 : Int32)) + (1 : Int32)) + (1 : Int32))).toNatClampNeg = 2569 := by decide
  have ef0 : fX12_tells (0 : Int32) (0 : Int32) (1 : Int32) (upd (upd (upd (upd (fun _ => (0 : Int32)) 0 (3 : Int32)) 1 (2 : Int32)) 2 (2 : Int32)) 3 (1 : Int32)) = some nf0 := ef0
  have ef1 : fX12_tells (0 : Int32) (0 : Int32) (2 : Int32) nf0 = some nf1 := ef1
  have ef2 : fX12_tells (0 : Int32) (1 : Int32) (2 : Int32) nf1 = some nf2 := ef2
  have ef3 : fX12_tells (0 : Int32) (2 : Int32) (0 : Int32) nf2 = some nf3 := ef3
  have ef4 : fX12_tells (0 : Int32) (2 : Int32) (3 : Int32) nf3 = some nf4 := ef4
  have ef5 : fX12_tells (0 : Int32) (3 : Int32) (4 : Int32) nf4 = some nf5 := ef5
  have ef6 : fX12_tells (2 : Int32) (3 : Int32) (0 : Int32) nf5 = some nf6 := ef6
  have ea0 : fX12_laysAtom (0 : Int32) (0 : Int32) (0 : Int32) (1 : Int32) (0 : Int32) (upd (upd (upd (upd nf6 2566 (123 : Int32)) 2567 (123 : Int32)) 2568 (123 : Int32)) 2569 (123 : Int32)) = some na0 := ea0
  have ea1 : fX12_laysAtom (0 : Int32) (0 : Int32) (1 : Int32) (2 : Int32) (0 : Int32) na0 = some na1 := ea1
  have ea2 : fX12_laysAtom (0 : Int32) (0 : Int32) (2 : Int32) (0 : Int32) (0 : Int32) na1 = some na2 := ea2
  have ea3 : fX12_laysAtom (1 : Int32) (1 : Int32) (0 : Int32) (1 : Int32) (0 : Int32) na2 = some na3 := ea3
  have ea4 : fX12_laysAtom (1 : Int32) (2 : Int32) (1 : Int32) (0 : Int32) (0 : Int32) na3 = some na4 := ea4
  have er0 : fX12_laysRule (1 : Int32) (0 : Int32) (1 : Int32) (0 : Int32) na4 = some nr0 := er0
  have er1 : fX12_laysRuleAtom (0 : Int32) (0 : Int32) (0 : Int32) (1 : Int32) (0 : Int32) (0 : Int32) nr0 = some nr1 := er1
  have er2 : fX12_laysRule (1 : Int32) (0 : Int32) (2 : Int32) (0 : Int32) nr1 = some nr2 := er2
  have er3 : fX12_laysRuleAtom (1 : Int32) (1 : Int32) (0 : Int32) (1 : Int32) (0 : Int32) (0 : Int32) nr2 = some nr3 := er3
  have er4 : fX12_laysRuleAtom (1 : Int32) (0 : Int32) (1 : Int32) (2 : Int32) (0 : Int32) (0 : Int32) nr3 = some nr4 := er4
  unfold fX12_init
  rw [if_pos i0, if_pos i1, if_pos i2, if_pos i3, c0, c1, c2, c3]
  rw [ef0, Option.bind_some]
  rw [ef1, Option.bind_some]
  rw [ef2, Option.bind_some]
  rw [ef3, Option.bind_some]
  rw [ef4, Option.bind_some]
  rw [ef5, Option.bind_some]
  rw [ef6, Option.bind_some]
  rw [if_pos o0, if_pos o1, if_pos o2, if_pos o3, p0, p1, p2, p3]
  rw [ea0, Option.bind_some]
  rw [ea1, Option.bind_some]
  rw [ea2, Option.bind_some]
  rw [ea3, Option.bind_some]
  rw [ea4, Option.bind_some]
  rw [er0, Option.bind_some]
  rw [er1, Option.bind_some]
  rw [er2, Option.bind_some]
  rw [er3, Option.bind_some]
  rw [er4, Option.bind_some]
