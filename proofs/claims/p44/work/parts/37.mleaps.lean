/-! the leaps, as the reference counts them -/
theorem zdd_up {pl : Nat → Nat} {j : Nat} (val : Nat → Nat) (r : Nat) : zdd pl (j + 1) (zup val (pl j) r) = zup (zdd pl j val) (pl j) (8 + r) := by
  funext v
  rw [zq_at]
  unfold zdd
  by_cases h : v = pl j
  · rw [if_pos h, zany, decide_eq_true h.symm, Bool.or_true, if_pos rfl, zq_at, if_pos h]
  · rw [if_neg h, zany, decide_eq_false (fun q => h q.symm), Bool.or_false, zq_at, if_neg h]
theorem zdd_val {pl : Nat → Nat} {j : Nat} {val val' : Nat → Nat} (h : ∀ i, i < j → val' (pl i) = val (pl i)) : zdd pl j val' = zdd pl j val := by
  funext v
  unfold zdd
  by_cases g : zany (fun m => decide (pl m = v)) j = true
  · rw [if_pos g, if_pos g]
    obtain ⟨m, hm, e⟩ := zany_iff.mp g
    have := of_decide_eq_true e
    rw [← this, h m hm]
  · rw [if_neg g, if_neg g]
def zg85 (K : Nat) (now row place : Nat → Int32) (places p1 p2 : Int32) (G : Int32 → Int32 → Int32 → Int32 → Int32 → (Nat → Int32) → Int32 → Option ((Nat → Int32) × Int32)) (SUB : (Nat → Int32) → Int32 → Option ((Nat → Int32) × Int32)) (x3 x4 x5 x8 t0 : Int32) (v : Nat → Int32) (l : Int32) : Option ((Nat → Int32) × Int32) :=
  if t0 = x4 then (if inB x3 4 = true then (if places ≤ p2 + 1 then (fX12_nextAtom K now p1 x5 x3).bind fun q => G x3 x4 q (x8 + 1) 0 (upd v x3.toNatClampNeg x8) l else (SUB (upd v x3.toNatClampNeg x8) l).bind fun q1 => (fX12_nextAtom K now p1 x5 x3).bind fun q => G x3 x4 q (x8 + 1) 0 q1.1 q1.2) else none) else (fX12_nextAtom K now p1 x5 x3).bind fun q => G x3 x4 q x8 t0 v l
def zgs (K : Nat) (now row place : Nat → Int32) (places p1 p2 : Int32) (G : Int32 → Int32 → Int32 → Int32 → Int32 → (Nat → Int32) → Int32 → Option ((Nat → Int32) × Int32)) (SUB : (Nat → Int32) → Int32 → Option ((Nat → Int32) × Int32)) (x3 x4 x5 x6 x7 : Int32) (v : Nat → Int32) (l : Int32) : Option ((Nat → Int32) × Int32) :=
  (fX12_atomAt p1 x5).bind fun q51 => (fX12_told K now row v place q51 x3 p2 x6).bind fun q58 => if q58 = (-1 : Int32) then some (v, l + 1) else if q58 ≤ x6 then zg85 K now row place places p1 p2 G SUB x3 x4 x5 q58 (x7 + 1) v (l + 1) else zg85 K now row place places p1 p2 G SUB x3 x4 x5 q58 1 v (l + 1)
/-- a level's loop -/
theorem zleap_in (K : Nat) (hK : 512 < K) {now : Nat → Int32} {s : Nat → Nat} (h : zM now s) {row : Nat → Int32} {R : Nat → Nat → Bool} (hR : zMr row R) {q : Nat} (hq : q < 4) (hQ : zQ s q) (ho : zOr (zqo s q)) {place : Nat → Int32} (hpl : zMp place (zqpl s q) (zqc s q)) {m j : Nat} (hjm : j + (m + 1) = zqc s q)
    (G : Nat → Int32 → Int32 → Int32 → Int32 → Int32 → (Nat → Int32) → Int32 → Option ((Nat → Int32) × Int32)) (SUB : (Nat → Int32) → Int32 → Option ((Nat → Int32) × Int32))
    (hG : ∀ k x3 x4 x5 x6 x7 v l, G (k + 1) x3 x4 x5 x6 x7 v l = zgs K now row place (nI (zqc s q)) (nI q) (nI j) (G k) SUB x3 x4 x5 x6 x7 v l)
    (hS : 1 ≤ m → ∀ v val key L, zMv v val → ∃ v' val', SUB v (nI L) = some (v', nI (L + (zS R (zqa s q) (zqn s q) (zqpl s q) m (j + 1) (zdd (zqpl s q) (j + 1) val) key).2)) ∧ zMv v' val' ∧ ∀ i, i < j + 1 → val' (zqpl s q i) = val (zqpl s q i))
    {i0 : Nat} (hi0 : i0 < zqn s q) (hp0 : zaH (zqa s q i0) (zqpl s q j) = true) (val0 : Nat → Nat) (key : Nat) :
    ∀ k kk t x like v val L, k ≤ kk → t < zqn s q → x ≤ 8 → like < zcnt (fun i => zaH (zqa s q i) (zqpl s q j)) (zqn s q) → 6 * (8 - x) + (zcnt (fun i => zaH (zqa s q i) (zqpl s q j)) (zqn s q) - like) < k → zMv v val → (∀ i, i < j → val (zqpl s q i) = val0 (zqpl s q i)) →
      ∃ v' val', G kk (nI (zqpl s q j)) (nI (zcnt (fun i => zaH (zqa s q i) (zqpl s q j)) (zqn s q))) (nI (znx (fun i => zaH (zqa s q i) (zqpl s q j)) (zqn s q) (zqn s q) t)) (nI x) (nI like) v (nI L) =
        some (v', nI (L + (zIn (fun r => zS R (zqa s q) (zqn s q) (zqpl s q) m (j + 1) (zup (zdd (zqpl s q) j val0) (zqpl s q j) (8 + r)) (8 * key + r)) (fun u x => zT R (zqa s q) (zdd (zqpl s q) j val0) (zqpl s q j) u x) (znx (fun i => zaH (zqa s q i) (zqpl s q j)) (zqn s q) (zqn s q)) (zcnt (fun i => zaH (zqa s q i) (zqpl s q j)) (zqn s q)) k t x like).2)) ∧ zMv v' val' ∧ ∀ i, i < j → val' (zqpl s q i) = val0 (zqpl s q i) := by
  have hc := zqc_le s q
  have hn := hQ.1
  have hcn := zcnt_le (fun i => zaH (zqa s q i) (zqpl s q j)) (zqn s q)
  have hpj := (hpl j (by omega)).2
  have hdist := zqD ho
  intro k
  induction k with
  | zero => intro kk t x like v val L _ _ _ _ hk; omega
  | succ k ih =>
    intro kk t x like v val L hkk ht hx hl hk hv hval
    obtain ⟨kk, rfl⟩ : ∃ z, kk = z + 1 := ⟨kk - 1, by omega⟩
    have hu := znx_le (fun i => zaH (zqa s q i) (zqpl s q j)) (zqn s q) (zqn s q) t ht
    have hpu : zaH (zqa s q (znx (fun i => zaH (zqa s q i) (zqpl s q j)) (zqn s q) (zqn s q) t)) (zqpl s q j) = true := znx_p (p := fun i => zaH (zqa s q i) (zqpl s q j)) hi0 hp0 ht
    have hnext := zX12_nextAtom K (by omega) h hq hQ hu hpj hi0 hp0
    rw [hG, zIn]
    unfold zgs
    generalize znx (fun i => zaH (zqa s q i) (zqpl s q j)) (zqn s q) (zqn s q) t = u at *
    have hb : zqp q u + 3 < 2780 := by unfold zqp; omega
    have htold : fX12_told K now row v place (nI (zqp q u)) (nI (zqpl s q j)) (nI j) (nI x) = some (zres (zT R (zqa s q) (zdd (zqpl s q) j val0) (zqpl s q j) u x)) := by
      rw [zX12_told K hK h hR hv (show j ≤ 4 by omega) (fun i hi => hpl i (by omega)) hb (hQ.2 u hu) hpj hx hpu, zdd_val hval]
      rfl
    rw [zX12_atomAt, Option.bind_some, htold, Option.bind_some]
    have hTl := zT_le R (zqa s q) (zdd (zqpl s q) j val0) (zqpl s q j) u hx
    generalize zT R (zqa s q) (zdd (zqpl s q) j val0) (zqpl s q j) u x = r at *
    by_cases hr : r = 8
    · rw [if_pos hr, hr, zres_8, if_pos rfl]
      refine ⟨v, val, ?_, hv, hval⟩
      rw [show (1 : Int32) = nI 1 from rfl, zi_add]
    · have hr8 : r < 8 := by omega
      rw [if_neg hr, zres_i hr8, if_neg (zi_m1 (by omega))]
      have hle : (nI r ≤ nI x) = (r ≤ x) := propext (zi_le (by omega) (by omega))
      have h85 : ∀ lk, lk < 1000 → zg85 K now row place (nI (zqc s q)) (nI q) (nI j) (G kk) SUB (nI (zqpl s q j)) (nI (zcnt (fun i => zaH (zqa s q i) (zqpl s q j)) (zqn s q))) (nI u) (nI r) (nI lk) v (nI L + 1) = if lk = zcnt (fun i => zaH (zqa s q i) (zqpl s q j)) (zqn s q) then (if zqc s q ≤ j + 1 then G kk (nI (zqpl s q j)) (nI (zcnt (fun i => zaH (zqa s q i) (zqpl s q j)) (zqn s q))) (nI (znx (fun i => zaH (zqa s q i) (zqpl s q j)) (zqn s q) (zqn s q) u)) (nI (r + 1)) (nI 0) (upd v (zqpl s q j) (nI r)) (nI (L + 1)) else (SUB (upd v (zqpl s q j) (nI r)) (nI (L + 1))).bind fun q1 => G kk (nI (zqpl s q j)) (nI (zcnt (fun i => zaH (zqa s q i) (zqpl s q j)) (zqn s q))) (nI (znx (fun i => zaH (zqa s q i) (zqpl s q j)) (zqn s q) (zqn s q) u)) (nI (r + 1)) (nI 0) q1.1 q1.2) else G kk (nI (zqpl s q j)) (nI (zcnt (fun i => zaH (zqa s q i) (zqpl s q j)) (zqn s q))) (nI (znx (fun i => zaH (zqa s q i) (zqpl s q j)) (zqn s q) (zqn s q) u)) (nI r) (nI lk) v (nI (L + 1)) := by
        intro lk hlk
        unfold zg85
        rw [hnext, show (1 : Int32) = nI 1 from rfl, zi_add, zi_add, zi_add, zi_clamp (by omega)]
        have c1 : (nI lk = nI (zcnt (fun i => zaH (zqa s q i) (zqpl s q j)) (zqn s q))) = (lk = zcnt (fun i => zaH (zqa s q i) (zqpl s q j)) (zqn s q)) := propext (zi_eq (by omega) (by omega))
        have c2 : (nI (zqc s q) ≤ nI (j + 1)) = (zqc s q ≤ j + 1) := propext (zi_le (by omega) (by omega))
        have c3 : inB (nI (zqpl s q j)) 4 = true := by rw [zi_inB (by omega)]; exact hpj
        by_cases g1 : lk = zcnt (fun i => zaH (zqa s q i) (zqpl s q j)) (zqn s q)
        · rw [if_pos (by rw [c1]; exact g1), if_pos c3, if_pos g1]
          by_cases g2 : zqc s q ≤ j + 1
          · rw [if_pos (by rw [c2]; exact g2), if_pos g2, Option.bind_some]; rfl
          · rw [if_neg (by rw [c2]; exact g2), if_neg g2]; rfl
        · rw [if_neg (by rw [c1]; exact g1), if_neg g1, Option.bind_some]
      have hboth : (if nI r ≤ nI x then zg85 K now row place (nI (zqc s q)) (nI q) (nI j) (G kk) SUB (nI (zqpl s q j)) (nI (zcnt (fun i => zaH (zqa s q i) (zqpl s q j)) (zqn s q))) (nI u) (nI r) (nI like + 1) v (nI L + 1) else zg85 K now row place (nI (zqc s q)) (nI q) (nI j) (G kk) SUB (nI (zqpl s q j)) (nI (zcnt (fun i => zaH (zqa s q i) (zqpl s q j)) (zqn s q))) (nI u) (nI r) 1 v (nI L + 1)) = zg85 K now row place (nI (zqc s q)) (nI q) (nI j) (G kk) SUB (nI (zqpl s q j)) (nI (zcnt (fun i => zaH (zqa s q i) (zqpl s q j)) (zqn s q))) (nI u) (nI r) (nI (if x < r then 1 else like + 1)) v (nI L + 1) := by
        by_cases g : x < r
        · rw [if_neg (by rw [hle]; omega), if_pos g]; rfl
        · rw [if_pos (by rw [hle]; omega), if_neg g, ← nI_succ]
      rw [hboth]
      have hlk : (if x < r then 1 else like + 1) < 1000 := by split <;> omega
      rw [h85 _ hlk]
      by_cases ha : (if x < r then 1 else like + 1) < zcnt (fun i => zaH (zqa s q i) (zqpl s q j)) (zqn s q)
      · rw [if_pos ha, if_neg (by omega)]
        obtain ⟨v', val', e, h1, h2⟩ := ih kk u r _ v val (L + 1) (by omega) hu (by omega) ha (by split <;> omega) hv hval
        refine ⟨v', val', ?_, h1, h2⟩
        rw [e]
        congr 3; omega
      · have hal : (if x < r then 1 else like + 1) = zcnt (fun i => zaH (zqa s q i) (zqpl s q j)) (zqn s q) := by
          have hc1 : 1 ≤ zcnt (fun i => zaH (zqa s q i) (zqpl s q j)) (zqn s q) := by omega
          by_cases g : x < r
          · rw [if_pos g] at ha ⊢; omega
          · rw [if_neg g] at ha ⊢; omega
        rw [if_neg ha, if_pos hal]
        have hv1 : zMv (upd v (zqpl s q j) (nI r)) (zup val (zqpl s q j) r) := by
          intro i hi
          rw [zu_at, zq_at]
          split
          · exact ⟨rfl, hr8⟩
          · exact hv i hi
        have hval1 : ∀ i, i < j → zup val (zqpl s q j) r (zqpl s q i) = val0 (zqpl s q i) := by
          intro i hi
          rw [zq_at, if_neg (hdist i j hi (by omega))]; exact hval i hi
        by_cases g2 : zqc s q ≤ j + 1
        · rw [if_pos g2]
          have hm0 : m = 0 := by omega
          subst hm0
          obtain ⟨v', val', e, h1, h2⟩ := ih kk u (r + 1) 0 _ _ (L + 1) (by omega) hu (by omega) (by omega) (by omega) hv1 hval1
          refine ⟨v', val', ?_, h1, h2⟩
          rw [e]
          show some (v', nI (L + 1 + _)) = some (v', nI (L + (0 + _ + 1)))
          congr 3; omega
        · rw [if_neg g2]
          obtain ⟨v2, val2, e2, h3, h4⟩ := hS (by omega) _ _ (8 * key + r) (L + 1) hv1
          rw [e2, Option.bind_some]
          have hzz : zdd (zqpl s q) (j + 1) (zup val (zqpl s q j) r) = zup (zdd (zqpl s q) j val0) (zqpl s q j) (8 + r) := by
            rw [zdd_up, zdd_val hval]
          obtain ⟨v', val', e, h1, h2⟩ := ih kk u (r + 1) 0 v2 val2 (L + 1 + (zS R (zqa s q) (zqn s q) (zqpl s q) m (j + 1) (zdd (zqpl s q) (j + 1) (zup val (zqpl s q j) r)) (8 * key + r)).2) (by omega) hu (by omega) (by omega) (by omega) h3 (fun i hi => (h4 i (by omega)).trans (hval1 i hi))
          refine ⟨v', val', ?_, h1, h2⟩
          dsimp only
          rw [e, hzz]
          congr 3; omega
theorem zq_some {s : Nat → Nat} {q : Nat} (hQ : zQ s q) (ho : zOr (zqo s q)) {j : Nat} (hj : j < zqc s q) : ∃ i, i < zqn s q ∧ zaH (zqa s q i) (zqpl s q j) = true := by
  obtain ⟨j', a1, a2, a3, a4⟩ := zpl_in (zqo s q) (zqv s q) 4 j hj
  have e : zqpl s q j = zod (zqo s q) j' := a2
  have hb : (zqv s q).testBit (zod (zqo s q) j') = true := a3
  unfold zqv at hb
  rw [zLV_bit (ho.2.1 j' a1) hQ.2, zany_iff] at hb
  obtain ⟨i, hi, g⟩ := hb
  exact ⟨i, hi, by rw [e]; simpa using g⟩
theorem zleap_L1 (K : Nat) (hK : 512 < K) {now : Nat → Int32} {s : Nat → Nat} (h : zM now s) {row : Nat → Int32} {R : Nat → Nat → Bool} (hR : zMr row R) {q : Nat} (hq : q < 4) (hQ : zQ s q) (ho : zOr (zqo s q)) {place : Nat → Int32} (hpl : zMp place (zqpl s q) (zqc s q)) {m j : Nat} (hjm : j + (m + 1) = zqc s q) (hm : m + 1 ≤ 1) (v : Nat → Int32) (val : Nat → Nat) (key L : Nat) (hv : zMv v val) :
    ∃ v' val', fX12_leapsL1 K now row place (nI (zqc s q)) (nI q) (nI j) v (nI L) = some (v', nI (L + (zS R (zqa s q) (zqn s q) (zqpl s q) (m + 1) j (zdd (zqpl s q) j val) key).2)) ∧ zMv v' val' ∧ ∀ i, i < j → val' (zqpl s q i) = val (zqpl s q i) := by
  have hc := zqc_le s q
  have hn := hQ.1
  obtain ⟨p1, p2⟩ := hpl j (by omega)
  obtain ⟨i0, hi0, hp0⟩ := zq_some hQ ho (show j < zqc s q by omega)
  have hcn := zcnt_le (fun i => zaH (zqa s q i) (zqpl s q j)) (zqn s q)
  have hall1 : 1 ≤ zcnt (fun i => zaH (zqa s q i) (zqpl s q j)) (zqn s q) := by
    have h1 := zcnt_mono (fun i => zaH (zqa s q i) (zqpl s q j)) (show i0 + 1 ≤ zqn s q by omega)
    rw [zcnt_s, hp0] at h1
    simp at h1; omega
  unfold fX12_leapsL1
  rw [if_pos (by rw [zi_inB (by omega)]; omega), zi_clamp (by omega), p1, zX12_atomsWith K (by omega) h hq hQ p2, Option.bind_some, zX12_atoms h hq, Option.bind_some, show (1 : Int32) = nI 1 from rfl, zi_sub (by omega), zX12_nextAtom K (by omega) h hq hQ (show zqn s q - 1 < zqn s q by omega) p2 hi0 hp0, Option.bind_some]
  exact zleap_in K hK h hR hq hQ ho hpl hjm (fX12_leapsL1_36 K now row place (nI (zqc s q)) (nI q) (nI j)) (fun _ _ => (fX12_leapsL0 (nI q) (nI j + 1)).bind fun _ => none) (fun k x3 x4 x5 x6 x7 v l => rfl)
    (fun hm1 => by omega) hi0 hp0 val key 60 K (zqn s q - 1) 0 0 v val L (by omega) (by omega) (by omega) (by omega) (by omega) hv (fun _ _ => rfl)
theorem zleap_L2 (K : Nat) (hK : 512 < K) {now : Nat → Int32} {s : Nat → Nat} (h : zM now s) {row : Nat → Int32} {R : Nat → Nat → Bool} (hR : zMr row R) {q : Nat} (hq : q < 4) (hQ : zQ s q) (ho : zOr (zqo s q)) {place : Nat → Int32} (hpl : zMp place (zqpl s q) (zqc s q)) {m j : Nat} (hjm : j + (m + 1) = zqc s q) (hm : m + 1 ≤ 2) (v : Nat → Int32) (val : Nat → Nat) (key L : Nat) (hv : zMv v val) :
    ∃ v' val', fX12_leapsL2 K now row place (nI (zqc s q)) (nI q) (nI j) v (nI L) = some (v', nI (L + (zS R (zqa s q) (zqn s q) (zqpl s q) (m + 1) j (zdd (zqpl s q) j val) key).2)) ∧ zMv v' val' ∧ ∀ i, i < j → val' (zqpl s q i) = val (zqpl s q i) := by
  have hc := zqc_le s q
  have hn := hQ.1
  obtain ⟨p1, p2⟩ := hpl j (by omega)
  obtain ⟨i0, hi0, hp0⟩ := zq_some hQ ho (show j < zqc s q by omega)
  have hcn := zcnt_le (fun i => zaH (zqa s q i) (zqpl s q j)) (zqn s q)
  have hall1 : 1 ≤ zcnt (fun i => zaH (zqa s q i) (zqpl s q j)) (zqn s q) := by
    have h1 := zcnt_mono (fun i => zaH (zqa s q i) (zqpl s q j)) (show i0 + 1 ≤ zqn s q by omega)
    rw [zcnt_s, hp0] at h1
    simp at h1; omega
  unfold fX12_leapsL2
  rw [if_pos (by rw [zi_inB (by omega)]; omega), zi_clamp (by omega), p1, zX12_atomsWith K (by omega) h hq hQ p2, Option.bind_some, zX12_atoms h hq, Option.bind_some, show (1 : Int32) = nI 1 from rfl, zi_sub (by omega), zX12_nextAtom K (by omega) h hq hQ (show zqn s q - 1 < zqn s q by omega) p2 hi0 hp0, Option.bind_some]
  exact zleap_in K hK h hR hq hQ ho hpl hjm (fX12_leapsL2_36 K now row place (nI (zqc s q)) (nI q) (nI j)) (fX12_leapsL1 K now row place (nI (zqc s q)) (nI q) (nI j + 1)) (fun k x3 x4 x5 x6 x7 v l => rfl)
    (fun hm1 v val key L hv => by
      obtain ⟨m, rfl⟩ : ∃ z, m = z + 1 := ⟨m - 1, by omega⟩
      rw [show (1 : Int32) = nI 1 from rfl, zi_add]
      exact zleap_L1 K hK h hR hq hQ ho hpl (by omega) (by omega) v val key L hv) hi0 hp0 val key 60 K (zqn s q - 1) 0 0 v val L (by omega) (by omega) (by omega) (by omega) (by omega) hv (fun _ _ => rfl)
theorem zleap_L3 (K : Nat) (hK : 512 < K) {now : Nat → Int32} {s : Nat → Nat} (h : zM now s) {row : Nat → Int32} {R : Nat → Nat → Bool} (hR : zMr row R) {q : Nat} (hq : q < 4) (hQ : zQ s q) (ho : zOr (zqo s q)) {place : Nat → Int32} (hpl : zMp place (zqpl s q) (zqc s q)) {m j : Nat} (hjm : j + (m + 1) = zqc s q) (hm : m + 1 ≤ 3) (v : Nat → Int32) (val : Nat → Nat) (key L : Nat) (hv : zMv v val) :
    ∃ v' val', fX12_leapsL3 K now row place (nI (zqc s q)) (nI q) (nI j) v (nI L) = some (v', nI (L + (zS R (zqa s q) (zqn s q) (zqpl s q) (m + 1) j (zdd (zqpl s q) j val) key).2)) ∧ zMv v' val' ∧ ∀ i, i < j → val' (zqpl s q i) = val (zqpl s q i) := by
  have hc := zqc_le s q
  have hn := hQ.1
  obtain ⟨p1, p2⟩ := hpl j (by omega)
  obtain ⟨i0, hi0, hp0⟩ := zq_some hQ ho (show j < zqc s q by omega)
  have hcn := zcnt_le (fun i => zaH (zqa s q i) (zqpl s q j)) (zqn s q)
  have hall1 : 1 ≤ zcnt (fun i => zaH (zqa s q i) (zqpl s q j)) (zqn s q) := by
    have h1 := zcnt_mono (fun i => zaH (zqa s q i) (zqpl s q j)) (show i0 + 1 ≤ zqn s q by omega)
    rw [zcnt_s, hp0] at h1
    simp at h1; omega
  unfold fX12_leapsL3
  rw [if_pos (by rw [zi_inB (by omega)]; omega), zi_clamp (by omega), p1, zX12_atomsWith K (by omega) h hq hQ p2, Option.bind_some, zX12_atoms h hq, Option.bind_some, show (1 : Int32) = nI 1 from rfl, zi_sub (by omega), zX12_nextAtom K (by omega) h hq hQ (show zqn s q - 1 < zqn s q by omega) p2 hi0 hp0, Option.bind_some]
  exact zleap_in K hK h hR hq hQ ho hpl hjm (fX12_leapsL3_36 K now row place (nI (zqc s q)) (nI q) (nI j)) (fX12_leapsL2 K now row place (nI (zqc s q)) (nI q) (nI j + 1)) (fun k x3 x4 x5 x6 x7 v l => rfl)
    (fun hm1 v val key L hv => by
      obtain ⟨m, rfl⟩ : ∃ z, m = z + 1 := ⟨m - 1, by omega⟩
      rw [show (1 : Int32) = nI 1 from rfl, zi_add]
      exact zleap_L2 K hK h hR hq hQ ho hpl (by omega) (by omega) v val key L hv) hi0 hp0 val key 60 K (zqn s q - 1) 0 0 v val L (by omega) (by omega) (by omega) (by omega) (by omega) hv (fun _ _ => rfl)
theorem zleap_L4 (K : Nat) (hK : 512 < K) {now : Nat → Int32} {s : Nat → Nat} (h : zM now s) {row : Nat → Int32} {R : Nat → Nat → Bool} (hR : zMr row R) {q : Nat} (hq : q < 4) (hQ : zQ s q) (ho : zOr (zqo s q)) {place : Nat → Int32} (hpl : zMp place (zqpl s q) (zqc s q)) {m j : Nat} (hjm : j + (m + 1) = zqc s q) (hm : m + 1 ≤ 4) (v : Nat → Int32) (val : Nat → Nat) (key L : Nat) (hv : zMv v val) :
    ∃ v' val', fX12_leapsL4 K now row place (nI (zqc s q)) (nI q) (nI j) v (nI L) = some (v', nI (L + (zS R (zqa s q) (zqn s q) (zqpl s q) (m + 1) j (zdd (zqpl s q) j val) key).2)) ∧ zMv v' val' ∧ ∀ i, i < j → val' (zqpl s q i) = val (zqpl s q i) := by
  have hc := zqc_le s q
  have hn := hQ.1
  obtain ⟨p1, p2⟩ := hpl j (by omega)
  obtain ⟨i0, hi0, hp0⟩ := zq_some hQ ho (show j < zqc s q by omega)
  have hcn := zcnt_le (fun i => zaH (zqa s q i) (zqpl s q j)) (zqn s q)
  have hall1 : 1 ≤ zcnt (fun i => zaH (zqa s q i) (zqpl s q j)) (zqn s q) := by
    have h1 := zcnt_mono (fun i => zaH (zqa s q i) (zqpl s q j)) (show i0 + 1 ≤ zqn s q by omega)
    rw [zcnt_s, hp0] at h1
    simp at h1; omega
  unfold fX12_leapsL4
  rw [if_pos (by rw [zi_inB (by omega)]; omega), zi_clamp (by omega), p1, zX12_atomsWith K (by omega) h hq hQ p2, Option.bind_some, zX12_atoms h hq, Option.bind_some, show (1 : Int32) = nI 1 from rfl, zi_sub (by omega), zX12_nextAtom K (by omega) h hq hQ (show zqn s q - 1 < zqn s q by omega) p2 hi0 hp0, Option.bind_some]
  exact zleap_in K hK h hR hq hQ ho hpl hjm (fX12_leapsL4_36 K now row place (nI (zqc s q)) (nI q) (nI j)) (fX12_leapsL3 K now row place (nI (zqc s q)) (nI q) (nI j + 1)) (fun k x3 x4 x5 x6 x7 v l => rfl)
    (fun hm1 v val key L hv => by
      obtain ⟨m, rfl⟩ : ∃ z, m = z + 1 := ⟨m - 1, by omega⟩
      rw [show (1 : Int32) = nI 1 from rfl, zi_add]
      exact zleap_L3 K hK h hR hq hQ ho hpl (by omega) (by omega) v val key L hv) hi0 hp0 val key 60 K (zqn s q - 1) 0 0 v val L (by omega) (by omega) (by omega) (by omega) (by omega) hv (fun _ _ => rfl)
