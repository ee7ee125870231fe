/-! the bound in the reference -/
theorem zlH_0 (A : Nat → zA) : zlH A 0 (3 ^ 0) = 0 := by
  show (if zkv A 0 0 = true ∧ zhs 0 0 < 10 then zhs 0 0 else 10) = 0
  rw [if_pos]; · rfl
  exact ⟨rfl, by decide⟩
theorem zfit_0 (a : zA) (pl val : Nat → Nat) (k : Nat) : zfit a (zdd pl 0 val) k = zaG a k := by
  have h : ∀ v y, zpin (zdd pl 0 val) v y = true := by intro v y; rfl
  unfold zfit
  rw [h, h, h]; simp
theorem zX12_sizeOf (K : Nat) (hK : 512 < K) {now : Nat → Int32} {s : Nat → Nat} (h : zM now s) {row : Nat → Int32} {R : Nat → Nat → Bool} (hR : zMr row R) {value : Nat → Int32} (hval : ∃ val, zMv value val) (place : Nat → Int32) {p : Nat} (hp : p + 3 < 2780) (ha : zaOK (zat s p)) : fX12_sizeOf K now row value place (nI p) = some (nI (zsz R (zat s p))) := by
  obtain ⟨val, hval⟩ := hval
  have hp1 := (h p (by omega)).1
  have ht : s p < 5 := ha.1
  have hd : (zat s p).1 = s p := rfl
  unfold fX12_sizeOf
  refine z_forE (F := fun k i (_ : Unit) => fX12_sizeOf_4 K now row value place (nI p) k (nI (zcnt (fun k => R (zat s p).1 k && zaG (zat s p) k) i)) (nI i)) (n := 512) (inv := fun _ _ => True) ?_ ?_ 512 K 0 () (by omega) trivial (by omega)
  · intro k i _ hi _
    left
    refine ⟨(), trivial, ?_⟩
    have hrf := zX12_isRowFor K (by omega) h hval (place := place) (pl := fun _ => 0) (c := 0) (by omega) (fun m hm => by omega) hp ha hi
    rw [zrow_fit ha (fun _ => 0) val (fun v hv => (hval v hv).2) 0 i, zfit_0] at hrf
    show fX12_sizeOf_4 K now row value place (nI p) (k + 1) (nI (zcnt (fun k => R (zat s p).1 k && zaG (zat s p) k) i)) (nI i) = fX12_sizeOf_4 K now row value place (nI p) k (nI (zcnt (fun k => R (zat s p).1 k && zaG (zat s p) k) i + (R (zat s p).1 i && zaG (zat s p) i).toNat)) (nI (i + 1))
    rw [fX12_sizeOf_4, if_neg (by rw [show (512 : Int32) = nI 512 from rfl, zi_le (by omega) (by omega)]; omega), if_pos (by rw [zi_inB (by omega)]; omega), zi_clamp (by omega), hp1, show (512 : Int32) = nI 512 from rfl, zi_mul, zi_add, if_pos (by rw [zi_inB (by omega)]; omega), zi_clamp (by omega), hR _ _ ht hi, hd, show (0 : Int32) = nI 0 from rfl, hrf, Option.bind_some]
    unfold fX12_sizeOf_46 fX12_sizeOf_47
    rw [show (1 : Int32) = nI 1 from rfl, show (0 : Int32) = nI 0 from rfl, zi_add, zi_add, zi_add]
    cases R (s p) i
    · rw [if_pos (show bI false = nI 0 from rfl)]; rfl
    · rw [if_neg (show ¬ bI true = nI 0 by decide)]
      cases zaG (zat s p) i
      · rw [if_pos (show bI false = nI 0 from rfl)]; rfl
      · rw [if_neg (show ¬ bI true = nI 0 by decide)]; rfl
  · intro k _ _
    show fX12_sizeOf_4 K now row value place (nI p) (k + 1) (nI (zcnt (fun k => R (zat s p).1 k && zaG (zat s p) k) 512)) (nI 512) = _
    rw [fX12_sizeOf_4, if_pos (show (512 : Int32) ≤ nI 512 by decide)]
    rfl
theorem zit_00 (z : Nat) : ∀ h, zit z 0 h = 0
  | 0 => rfl
  | h + 1 => by rw [zit, zit_00 z h, zsat_00]
theorem zpr_0 {sz : Nat → Nat} {n i : Nat} (h : zpr sz n i = 0) : ∀ d, zpr sz n (i + d) = 0
  | 0 => h
  | d + 1 => by
    show zit _ (zpr sz n (i + d)) _ = 0
    rw [zpr_0 h d, zit_00]
theorem zlg_0 {z : Nat} (hz : z < 2147483648) : ((lg_cmp (lN z) (0 : Int64)) = 0) = (z = 0) := by
  rw [zl_cmpE, show (0 : Int64) = lN 0 from rfl]
  exact propext (pk_lEQ (by omega) (by omega))
theorem zX12_product (K : Nat) (hK : 1000 < K) {now : Nat → Int32} {s : Nat → Nat} (h : zM now s) {row : Nat → Int32} {R : Nat → Nat → Bool} (hR : zMr row R) {value : Nat → Int32} (hval : ∃ val, zMv value val) (place : Nat → Int32) {q : Nat} (hq : q < 4) (hQ : zQ s q) {n : Nat} (hn : n < 1000) : fX12_product K now row value place (nI q) (nI n) = some (lN (zpr (fun i => zsz R (zqa s q i)) n (zqn s q))) := by
  have hm := hQ.1
  have e1 : (1 : Int32) = nI 1 := rfl
  have hM := zMAX_lt
  have inner : ∀ (r5 : Int64 → Int32 → Option Int64) {i p z : Nat}, i < 5 → p ≤ zMAX → z ≤ 512 → fX12_product_37 K now row value place (nI q) (nI n) r5 K (lN p) (nI i) (lN z) (nI (zh n i)) = if z = 0 ∧ 0 < zh n i then some (lN 0) else r5 (lN (zit z p (zh n i))) (nI (i + 1)) := by
    intro r5 i p z hi hp hz
    have hh := zh_lt n i
    refine z_forE (F := fun k j (_ : Unit) => fX12_product_37 K now row value place (nI q) (nI n) r5 k (lN (zit z p j)) (nI i) (lN z) (nI (zh n i - j))) (n := zh n i) (inv := fun _ _ => True) ?_ ?_ (zh n i) K 0 () (by omega) trivial (by omega)
    · intro k j _ hj _
      left
      refine ⟨(), trivial, ?_⟩
      have hzl := zit_le (z := z) hp j
      have hdec : nI (zh n i - j) + (-1) = nI (zh n i - (j + 1)) := by
        rw [show zh n i - j = (zh n i - (j + 1)) + 1 by omega, zi_dec]
      show fX12_product_37 K now row value place (nI q) (nI n) r5 (k + 1) (lN (zit z p j)) (nI i) (lN z) (nI (zh n i - j)) = fX12_product_37 K now row value place (nI q) (nI n) r5 k (lN (zsat (zit z p j) z)) (nI i) (lN z) (nI (zh n i - (j + 1)))
      rw [fX12_product_37, if_neg (show ¬ nI (zh n i - j) ≤ 0 by rw [show (0 : Int32) = nI 0 from rfl, zi_le (by omega) (by omega)]; omega)]
      unfold fX12_product_66 fX12_product_70
      rw [hdec, lN_mul]
      have h0 : (lg_cmp (lN z) (0 : Int64) ≤ 0) ↔ z = 0 := by
        rw [zlg_le, show (0 : Int64) = lN 0 from rfl, pk_lLE (by omega) (by omega)]; omega
      by_cases g : z = 0
      · rw [if_pos (h0.mpr g)]
        subst g
        rw [zsat_0, Nat.mul_zero]
      · rw [if_neg (fun w => g (h0.mp w)), if_neg (show ¬ lN z = 0 by rw [show (0 : Int64) = lN 0 from rfl, pk_lEQ (by omega) (by omega)]; exact g), zMAX_lit, pk_lDiv hM (by omega) (by omega)]
        have hd : zMAX / z < 2 ^ 63 := Nat.lt_of_le_of_lt (Nat.div_le_self _ _) hM
        have hiff : (lg_cmp (lN (zit z p j)) (lN (zMAX / z)) ≤ 0) ↔ zit z p j * z ≤ zMAX := by
          rw [zlg_le, pk_lLE (by omega) hd, Nat.le_div_iff_mul_le (by omega)]
        unfold zsat
        by_cases g2 : zit z p j * z ≤ zMAX
        · rw [if_pos (hiff.mpr g2), if_pos g2]
        · rw [if_neg (fun w => g2 (hiff.mp w)), if_neg g2]
    · intro k _ _
      show fX12_product_37 K now row value place (nI q) (nI n) r5 (k + 1) (lN (zit z p (zh n i))) (nI i) (lN z) (nI (zh n i - zh n i)) = _
      rw [fX12_product_37, Nat.sub_self, if_pos (show nI 0 ≤ 0 by decide)]
      unfold fX12_product_95
      rw [zX12_halves K hn (by omega) (by omega), Option.bind_some, e1, zi_add]
      by_cases g : z = 0
      · rw [if_pos (by rw [zlg_0 (by omega)]; exact g)]
        by_cases g2 : zh n i = 0
        · rw [if_pos (by rw [g2]; decide), if_neg (fun w => by have := w.2; omega)]
        · rw [if_neg (by rw [show (0 : Int32) = nI 0 from rfl, zi_le (by omega) (by omega)]; omega), if_pos ⟨g, by omega⟩]; rfl
      · rw [if_neg (by rw [zlg_0 (by omega)]; exact g), if_neg (fun w => g w.1)]
  unfold fX12_product
  refine z_forE (F := fun k i (_ : Unit) => fX12_product_5 K now row value place (nI q) (nI n) k (lN (zpr (fun i => zsz R (zqa s q i)) n i)) (nI i)) (n := zqn s q) (inv := fun _ _ => True) ?_ ?_ (zqn s q) K 0 () (by omega) trivial (by omega)
  · intro k i _ hi _
    have hbp : zqp q i + 3 < 2780 := by unfold zqp; omega
    have hsz : zsz R (zqa s q i) ≤ 512 := zcnt_le _ _
    have hs : fX12_sizeOf K now row value place (nI (zqp q i)) = some (nI (zsz R (zqa s q i))) := zX12_sizeOf K (by omega) h hR hval place hbp (hQ.2 i hi)
    have est : fX12_product_5 K now row value place (nI q) (nI n) (k + 1) (lN (zpr (fun i => zsz R (zqa s q i)) n i)) (nI i) = if zsz R (zqa s q i) = 0 ∧ 0 < zh n i then some (lN 0) else fX12_product_5 K now row value place (nI q) (nI n) k (lN (zit (zsz R (zqa s q i)) (zpr (fun i => zsz R (zqa s q i)) n i) (zh n i))) (nI (i + 1)) := by
      rw [fX12_product_5, zX12_atoms h hq, Option.bind_some, if_neg (by rw [zi_le (by omega) (by omega)]; omega), zX12_atomAt, Option.bind_some, hs, Option.bind_some, zX12_halves K hn (by omega) (by omega), Option.bind_some, nI_l (by omega)]
      exact inner _ (by omega) (zpr_le _ _ _) hsz
    by_cases g : zsz R (zqa s q i) = 0 ∧ 0 < zh n i
    · right
      show fX12_product_5 K now row value place (nI q) (nI n) (k + 1) (lN (zpr (fun i => zsz R (zqa s q i)) n i)) (nI i) = _
      rw [est, if_pos g]
      have h0 : zpr (fun i => zsz R (zqa s q i)) n (i + 1) = 0 := by
        show zit (zsz R (zqa s q i)) _ (zh n i) = 0
        obtain ⟨g1, g2⟩ := g
        rw [g1, show zh n i = (zh n i - 1) + 1 by omega, zit, zsat_0]
      have := zpr_0 h0 (zqn s q - (i + 1))
      rw [show i + 1 + (zqn s q - (i + 1)) = zqn s q by omega] at this
      rw [this]
    · left
      refine ⟨(), trivial, ?_⟩
      show fX12_product_5 K now row value place (nI q) (nI n) (k + 1) (lN (zpr (fun i => zsz R (zqa s q i)) n i)) (nI i) = _
      rw [est, if_neg g]
      rfl
  · intro k _ _
    show fX12_product_5 K now row value place (nI q) (nI n) (k + 1) (lN (zpr (fun i => zsz R (zqa s q i)) n (zqn s q))) (nI (zqn s q)) = _
    rw [fX12_product_5, zX12_atoms h hq, Option.bind_some, if_pos (by rw [zi_le (by omega) (by omega)]; omega)]
theorem zlg_ge (x y : Int64) : ((0 : Int32) ≤ lg_cmp x y) ↔ y ≤ x := by
  unfold lg_cmp
  by_cases h : x > y
  · rw [if_pos h]; exact ⟨fun _ => Int64.le_of_lt h, fun _ => by decide⟩
  · rw [if_neg h]
    have hle : x ≤ y := Int64.not_lt.mp h
    by_cases e : x = y
    · rw [if_pos e]; exact ⟨fun _ => e ▸ Int64.le_refl _, fun _ => by decide⟩
    · rw [if_neg e]
      constructor
      · intro q; exact absurd q (by decide)
      · intro q; exact absurd (Int64.le_antisymm hle q) e
theorem zX12_bound (K : Nat) (hK : 1000 < K) {now : Nat → Int32} {s : Nat → Nat} (h : zM now s) {row : Nat → Int32} {R : Nat → Nat → Bool} (hR : zMr row R) {value : Nat → Int32} (hval : ∃ val, zMv value val) (place : Nat → Int32) {q : Nat} (hq : q < 4) (hQ : zQ s q) (th : Int32) : fX12_bound K now row value place (nI q) th = some (lN (zlP (zqa s q) (fun i => zsz R (zqa s q i)) (zqn s q) (3 ^ zqn s q)), 0) := by
  have hm := hQ.1
  have e1 : (1 : Int32) = nI 1 := rfl
  have hM := zMAX_lt
  have h243 : 3 ^ zqn s q ≤ 243 := by
    rw [show (243 : Nat) = 3 ^ 5 from rfl]; exact Nat.pow_le_pow_right (by decide) hm
  unfold fX12_bound fX12_isQuery
  rw [zX12_in03 hq, Option.bind_some, Option.bind_some, if_neg (show ¬ bI true = 0 by decide)]
  refine z_forE (F := fun k n (_ : Unit) => fX12_bound_26 K now row value place (nI q) k (lN (zlP (zqa s q) (fun i => zsz R (zqa s q i)) (zqn s q) n)) (nI n) 0) (n := 3 ^ zqn s q) (inv := fun _ _ => True) ?_ ?_ (3 ^ zqn s q) K 0 () (by omega) trivial (by omega)
  · intro k n _ hn _
    left
    refine ⟨(), trivial, ?_⟩
    have h1 := zpr_le (fun i => zsz R (zqa s q i)) n (zqn s q)
    have h2 := zlP_le (zqa s q) (fun i => zsz R (zqa s q i)) (zqn s q) n
    show fX12_bound_26 K now row value place (nI q) (k + 1) (lN (zlP (zqa s q) (fun i => zsz R (zqa s q i)) (zqn s q) n)) (nI n) 0 = _
    rw [fX12_bound_26, zX12_allHalves K (by omega) h hq hQ, Option.bind_some, if_neg (by rw [zi_le (by omega) (by omega)]; omega), zX12_covers K (by omega) h hq hQ (by omega), Option.bind_some, zX12_product K hK h hR hval place hq hQ (by omega), Option.bind_some, zlP]
    unfold fX12_bound_71 fX12_bound_72
    rw [e1, zi_add]
    cases hk : zkv (zqa s q) (zqn s q) n
    · rw [if_pos (show bI false = 0 from rfl), if_neg (fun w => absurd w.1 (by decide))]
    · rw [if_neg (show ¬ bI true = 0 by decide)]
      by_cases g : zlP (zqa s q) (fun i => zsz R (zqa s q i)) (zqn s q) n ≤ zpr (fun i => zsz R (zqa s q i)) n (zqn s q)
      · rw [if_pos (by rw [zlg_ge, pk_lLE (by omega) (by omega)]; exact g), if_neg (fun w => by have := w.2; omega)]
      · rw [if_neg (by rw [zlg_ge, pk_lLE (by omega) (by omega)]; exact g), if_pos ⟨rfl, by omega⟩]
  · intro k _ _
    show fX12_bound_26 K now row value place (nI q) (k + 1) (lN (zlP (zqa s q) (fun i => zsz R (zqa s q i)) (zqn s q) (3 ^ zqn s q))) (nI (3 ^ zqn s q)) 0 = _
    rw [fX12_bound_26, zX12_allHalves K (by omega) h hq hQ, Option.bind_some, if_pos (by rw [zi_le (by omega) (by omega)]; omega)]
