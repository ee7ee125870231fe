/-! the law's loop: what holds in it -/
/-- the worlds of class and reference beside each other, in the relation -/
def zWorld (G : va_G) (tt : Nat → ClassId) (a : Nat → Nat) (b : Nat → Nat → Nat) (d : Nat → Nat → Nat → Nat) (c : Nat → Nat) (ao : Nat) (A : Nat → Prop) (H0 : Heap) : Prop :=
  ∃ (wd : Nat → Int32) (fa : Nat → Int64) (od hd : Nat → Int32) (qc : Nat → Nat → Int32) (qs : Nat → Int32) (bc : Nat → Nat → Int32) (bs : Nat → Int32) (tl rl : Int32) (H : zH12) (q : zR13) (w fr : Nat → Int64) (tr g re fi : Nat → Int32) (ro im : Int32) (r : zR15) (pk : Int32) (cz : Nat → Int32) (lh : Int32) (lp : Int64) (se : Nat → Int32) (md : Nat → Int64) (ff : Int32) (now before : Nat → Int32) (chg th : Int32) (row comes layer : Nat → Int32) (rounds : Int32) (value place : Nat → Int32) (places : Int32) (made : Nat → Int32) (lq : Int32) (left gone : Nat → Int32) (vo : Nat → Int64), zIv wd fa od hd qc qs bc bs tl rl H w g re fi ro im r ff now before chg row layer rounds value ∧ va_P G vwCl ((ao, zoc tt vo) :: (wL tt a b d wd fa od hd qc qs bc bs tl rl H q w fr tr g re fi ro im r pk cz lh lp se md ff ++ wM tt c now before chg th row comes layer rounds value place places made lq left gone)) H0 ∧ va_D A ((ao, zoc tt vo) :: (wL tt a b d wd fa od hd qc qs bc bs tl rl H q w fr tr g re fi ro im r pk cz lh lp se md ff ++ wM tt c now before chg th row comes layer rounds value place places made lq left gone))
/-- what holds all through the law -/
def zCtx (p : Program) (l : Launch) (s : State) (m : MethodId) (meth : Method) (cd : Code) (sb L : Nat) (xs : Nat → Int32) (G : va_G) (tt : Nat → ClassId) (sa : Nat → Nat) : Prop :=
  l.stackTraces = false ∧ L ≤ 3584 ∧ lw_At p s m meth cd sb L xs ∧ va_K G vwCl (zTy tt) s ∧ zN s ∧ zX sa (fun q : Nat => s.heap.size ≤ q) s ∧ zNc s
theorem zout_at {V : Type} (cv : V → Int64) (vo : Nat → Int64) (v : V) : zout cv vo (.inr v) (0 : Int32).toNatClampNeg = cv v := by
  show vp_updL vo 0 (cv v) (0 : Int32).toNatClampNeg = cv v
  unfold vp_updL
  exact if_pos rfl
theorem zcd_ne (k : Nat) : ¬ nI (zcd k) = 0 := by
  unfold zcd
  split <;> decide
theorem z12_ne {k : Nat} (h : k = 1 ∨ k = 2) : ¬ nI k = 0 := by
  rcases h with rfl | rfl <;> decide
theorem zin_L {L i : Nat} {iI : Int32} (hi : i + 7 ≤ L) (hL : L ≤ 3584) (e : iI = nI i) (j : Nat) (hj : j < 7) (jI : Int32) (ej : jI = nI j) : vp_in (iI + jI) L := by
  rw [e, ej, zi_add]
  exact vp_in_nI (by omega) (by omega)
/-- a float that is a number, as a double -/
theorem zf2d_num {v : UInt32} (h : v &&& 0x7fffffff ≤ 0x7f800000) : vf_n64 (FP.f2d v) := by
  have h1 : v.toNat % 2 ^ 31 ≤ 2139095040 := by
    rw [UInt32.le_iff_toNat_le, UInt32.toNat_and] at h
    have h2 : v.toNat &&& 2147483647 ≤ 2139095040 := h
    rw [show (2147483647 : Nat) = 2 ^ 31 - 1 from rfl, Nat.and_two_pow_sub_one_eq_mod] at h2
    exact h2
  have h3 : Jvm.FP.Core.fIsNaN v = false := by
    cases e : Jvm.FP.Core.fIsNaN v with
    | false => rfl
    | true => exact absurd ((Jvm.FP.Core.isNaN_bits32 v).mp e) (by omega)
  have h4 : Jvm.FP.Core.dIsNaN (FP.f2d v) = false := (Jvm.FP.f2d_nan v).trans h3
  unfold vf_n64
  apply zd_and
  refine Nat.le_of_not_lt fun h5 => ?_
  rw [(Jvm.FP.Core.isNaN_bits _).mpr h5] at h4
  cases h4
