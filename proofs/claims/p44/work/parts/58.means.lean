/-! the means -/
def zsR (R : Nat → Nat → Bool) (s : Nat → Nat) : Nat → Nat := zsum (fun t => zsum (fun k => zre R s t k) 512)
def zsW (R : Nat → Nat → Bool) : Nat → Nat := zsum (fun t => zcnt (R t) 512)
def zmean (r w : Nat) : UInt64 := if w = 0 then Jvm.FP.dconst0 else Jvm.FP.ddiv (Jvm.FP.i2d (nI r)) (Jvm.FP.i2d (nI w))
def zshare (f w : Nat) : UInt32 := if w = 0 then Jvm.FP.fconst0 else Jvm.FP.fdiv (Jvm.FP.i2f (nI f)) (Jvm.FP.i2f (nI w))
theorem zsW_le (R : Nat → Nat → Bool) : ∀ n, zsW R n ≤ 512 * n := by
  intro n
  induction n with
  | zero => exact Nat.le_refl 0
  | succ n ih =>
    show zsW R n + zcnt (R n) 512 ≤ _
    have := zcnt_le (R n) 512
    omega
theorem zsR_le {s : Nat → Nat} (hs : zRul s) (R : Nat → Nat → Bool) : ∀ n, zsR R s n ≤ 10486272 * n := by
  intro n
  have h : ∀ t m, zsum (fun k => zre R s t k) m ≤ 20481 * m := by
    intro t m
    induction m with
    | zero => exact Nat.le_refl 0
    | succ m ih =>
      show zsum (fun k => zre R s t k) m + zre R s t m ≤ _
      have := zre_le hs R t m
      omega
  induction n with
  | zero => exact Nat.le_refl 0
  | succ n ih =>
    show zsR R s n + zsum (fun k => zre R s n k) 512 ≤ _
    have := h n 512
    omega
theorem zi_int0 {w : Nat} (hw : w < 2147483648) (h : ¬ w = 0) : (nI w).toInt ≠ 0 := by
  rw [zi_toInt hw]; omega
theorem zi_nab {w : Nat} (hw : w ≤ 16777216) : (nI w).toInt.natAbs ≤ 2 ^ 24 := by
  rw [zi_toInt (by omega)]
  show w ≤ 2 ^ 24
  omega
theorem zX12_factShare (K : Nat) (hK : 512 < K) {now : Nat → Int32} {s : Nat → Nat} (h : zM now s) (hf : zf1 s) (h5 : s 0 ≤ 5) {row : Nat → Int32} {R : Nat → Nat → Bool} (hR : zMr row R) (th : Int32) :
    fX12_factShare K now row th = some (zshare (zsW (zfacts s) (s 0)) (zsW R (s 0)), 0) := by
  have h0 := h 0 (by omega)
  have c0 : (0 : Int32).toNatClampNeg = 0 := by decide
  have i0 : inB (0 : Int32) 2780 = true := by decide
  have e1 : (1 : Int32) = nI 1 := rfl
  unfold fX12_factShare
  refine z_forE (F := fun k t (_ : Unit) => fX12_factShare_11 K now row k (nI (zsW (zfacts s) t)) (nI (zsW R t)) (nI t) 0) (n := s 0) (inv := fun _ _ => True) ?_ ?_ (s 0) K 0 () (by omega) trivial (by omega)
  · intro k t _ ht _
    left
    refine ⟨(), trivial, ?_⟩
    show fX12_factShare_11 K now row (k + 1) (nI (zsW (zfacts s) t)) (nI (zsW R t)) (nI t) 0 = _
    rw [fX12_factShare_11, if_pos i0, c0, h0.1, if_neg (by rw [zi_le (by omega) (by omega)]; omega), zX12_factsOf K hK h hf (by omega), Option.bind_some, zX12_rowsOf K hK hR (by omega), Option.bind_some, zi_add, zi_add, e1, zi_add]
    rfl
  · intro k _ _
    have h1 := zsW_le R (s 0)
    have h2 := zsW_le (zfacts s) (s 0)
    show fX12_factShare_11 K now row (k + 1) (nI (zsW (zfacts s) (s 0))) (nI (zsW R (s 0))) (nI (s 0)) 0 = _
    rw [fX12_factShare_11, if_pos i0, c0, h0.1, if_pos (by rw [zi_le (by omega) (by omega)]; omega)]
    unfold zshare
    by_cases g : zsW R (s 0) = 0
    · rw [if_pos (show nI (zsW R (s 0)) = 0 by rw [g]; rfl), if_pos g]
    · rw [if_neg (show ¬ nI (zsW R (s 0)) = 0 by rw [show (0 : Int32) = nI 0 from rfl, zi_eq (by omega) (by omega)]; exact g), if_neg g, if_pos (zf_div _ _ (zi_nab (by omega)) (zi_nab (by omega)) (zi_int0 (by omega) g))]
theorem zX12_meanReasons (K : Nat) (hK : 5000 < K) {now : Nat → Int32} {s : Nat → Nat} (h : zM now s) (hs : zRul s) (h5 : s 0 ≤ 5) {row : Nat → Int32} {R : Nat → Nat → Bool} (hR : zMr row R) (th : Int32) {value : Nat → Int32} (hval : ∃ val, zMv value val) :
    ∃ value', fX12_meanReasons K now row th value = some (zmean (zsR R s (s 0)) (zsW R (s 0)), 0, value') ∧ ∃ val, zMv value' val := by
  have h0 := h 0 (by omega)
  have c0 : (0 : Int32).toNatClampNeg = 0 := by decide
  have i0 : inB (0 : Int32) 2780 = true := by decide
  have e1 : (1 : Int32) = nI 1 := rfl
  have inner : ∀ (r11 : Int32 → Int32 → Int32 → Int32 → (Nat → Int32) → Option (UInt64 × Int32 × (Nat → Int32))) {t : Nat}, t < 5 → ∀ (a : Nat) (x2 : Int32) (v : Nat → Int32), (∃ val, zMv v val) → ∃ v', (∃ val, zMv v' val) ∧ fX12_meanReasons_32 K now row r11 K (nI a) x2 (nI t) 0 0 v = r11 (nI (a + zsum (fun k => zre R s t k) 512)) x2 (nI (t + 1)) 0 v' := by
    intro r11 t ht a x2 v hv
    obtain ⟨v', h1, e⟩ := z_forD (F := fun k i (z : Nat → Int32) => fX12_meanReasons_32 K now row r11 k (nI (a + zsum (fun k => zre R s t k) i)) x2 (nI t) (nI i) 0 z) (n := 512) (inv := fun _ z => ∃ val, zMv z val) (D := fun z => r11 (nI (a + zsum (fun k => zre R s t k) 512)) x2 (nI (t + 1)) 0 z)
      (by
        intro k i z hi hz
        obtain ⟨v', ef, hv'⟩ := zX12_reasonsOf K hK h hs hR hz ht hi
        refine ⟨v', hv', ?_⟩
        show fX12_meanReasons_32 K now row r11 (k + 1) (nI (a + zsum (fun k => zre R s t k) i)) x2 (nI t) (nI i) 0 z = fX12_meanReasons_32 K now row r11 k (nI (a + (zsum (fun k => zre R s t k) i + zre R s t i))) x2 (nI t) (nI (i + 1)) 0 v'
        rw [fX12_meanReasons_32, if_neg (by rw [show (512 : Int32) = nI 512 from rfl, zi_le (by omega) (by omega)]; omega), ef, Option.bind_some]
        dsimp only
        rw [zi_add, e1, zi_add, Nat.add_assoc])
      (by
        intro k z hz
        show fX12_meanReasons_32 K now row r11 (k + 1) (nI (a + zsum (fun k => zre R s t k) 512)) x2 (nI t) (nI 512) 0 z = _
        rw [fX12_meanReasons_32, if_pos (show (512 : Int32) ≤ nI 512 by decide), e1, zi_add])
      512 K 0 v (by omega) hv (by omega)
    exact ⟨v', h1, e⟩
  obtain ⟨x, ⟨v', q1, q2⟩, e⟩ := z_for (F := fun k t (z : Nat → Int32) => fX12_meanReasons_11 K now row k (nI (zsR R s t)) (nI (zsW R t)) (nI t) 0 z) (n := s 0) (inv := fun _ z => ∃ val, zMv z val)
    (post := fun x => ∃ v', x = (zmean (zsR R s (s 0)) (zsW R (s 0)), 0, v') ∧ ∃ val, zMv v' val)
    (by
      intro k t z ht hz
      left
      obtain ⟨v', hv', ei⟩ := inner (fX12_meanReasons_11 K now row k) (show t < 5 by omega) (zsR R s t) (nI (zsW R (t + 1))) z hz
      refine ⟨v', hv', ?_⟩
      show fX12_meanReasons_11 K now row (k + 1) (nI (zsR R s t)) (nI (zsW R t)) (nI t) 0 z = _
      rw [fX12_meanReasons_11, if_pos i0, c0, h0.1, if_neg (by rw [zi_le (by omega) (by omega)]; omega), zX12_rowsOf K (by omega) hR (by omega), Option.bind_some, zi_add]
      exact ei)
    (by
      intro k z hz
      have h1 := zsW_le R (s 0)
      have h2 := zsR_le hs R (s 0)
      refine ⟨_, ⟨z, rfl, hz⟩, ?_⟩
      show fX12_meanReasons_11 K now row (k + 1) (nI (zsR R s (s 0))) (nI (zsW R (s 0))) (nI (s 0)) 0 z = _
      rw [fX12_meanReasons_11, if_pos i0, c0, h0.1, if_pos (by rw [zi_le (by omega) (by omega)]; omega)]
      unfold zmean
      by_cases g : zsW R (s 0) = 0
      · rw [if_pos (show nI (zsW R (s 0)) = 0 by rw [g]; rfl), if_pos g]
      · rw [if_neg (show ¬ nI (zsW R (s 0)) = 0 by rw [show (0 : Int32) = nI 0 from rfl, zi_eq (by omega) (by omega)]; exact g), if_neg g, if_pos (zd_div _ _ (zi_int0 (by omega) g))])
    (s 0) K 0 value (by omega) hval (by omega)
  refine ⟨v', ?_, q2⟩
  rw [q1] at e
  unfold fX12_meanReasons
  exact e
/-! the same in the class -/
theorem zX11_rowTotal (K : Nat) (hK : 8 < K) (w : Nat → Int64) {R : Nat → Nat → Bool} (hR : zeqR (zw w) R) {T : Nat} (hT : T ≤ 5) : fX11_rowTotal K (nI T) w = some (nI (zsW R T)) := by
  unfold fX11_rowTotal
  refine z_forE (F := fun k t (_ : Unit) => fX11_rowTotal_4 K (nI T) w k (nI (zsW R t)) (nI t)) (n := T) (inv := fun _ _ => True) ?_ ?_ T K 0 () (by omega) trivial (by omega)
  · intro k t _ ht _
    left
    refine ⟨(), trivial, ?_⟩
    show fX11_rowTotal_4 K (nI T) w (k + 1) (nI (zsW R t)) (nI t) = _
    rw [fX11_rowTotal_4, if_neg (by rw [zi_le (by omega) (by omega)]; omega), zX7_size K hK w (show t < 5 by omega), Option.bind_some, zi_add, show (1 : Int32) = nI 1 from rfl, zi_add, zcnt_cong (fun k hk => hR t k (by omega) hk)]
    rfl
  · intro k _ _
    show fX11_rowTotal_4 K (nI T) w (k + 1) (nI (zsW R T)) (nI T) = _
    rw [fX11_rowTotal_4, if_pos (by rw [zi_le (by omega) (by omega)]; omega)]
theorem zX11_rowsWithoutReason (K : Nat) (hK : 512 < K) {s : Nat → Nat} (hs : zRul s) {M : Nat → Nat} (hM : zLst (zE s) M) (hM4 : ∀ t, t < 5 → M t ≤ 4) {re : Nat → Int32} (hre : ∀ t k, t < 5 → k < 512 → re (512 * t + k) = nI (zttl (zly s M 5).1 s t k (zrn s))) {fa w : Nat → Int64} (hfa : zeqR (zw fa) (zfacts s)) (hw : zeqR (zw w) (zly s M 5).1) {t : Nat} (ht : t < 5) :
    fX11_rowsWithoutReason K fa w re (nI t) = some (nI (zwo (zly s M 5).1 s t 512)) := by
  have e1 : (1 : Int32) = nI 1 := rfl
  unfold fX11_rowsWithoutReason
  refine z_forE (F := fun k i (_ : Unit) => fX11_rowsWithoutReason_4 K fa w re (nI t) k (nI (zwo (zly s M 5).1 s t i)) (nI i)) (n := 512) (inv := fun _ _ => True) ?_ ?_ 512 K 0 () (by omega) trivial (by omega)
  · intro k i _ hi _
    left
    refine ⟨(), trivial, ?_⟩
    have hl := zre_le hs (zly s M 5).1 t i
    show fX11_rowsWithoutReason_4 K fa w re (nI t) (k + 1) (nI (zwo (zly s M 5).1 s t i)) (nI i) = fX11_rowsWithoutReason_4 K fa w re (nI t) k (nI (zwo (zly s M 5).1 s t i + ((zly s M 5).1 t i && decide (zre (zly s M 5).1 s t i = 0)).toNat)) (nI (i + 1))
    rw [fX11_rowsWithoutReason_4, if_neg (by rw [show (512 : Int32) = nI 512 from rfl, zi_le (by omega) (by omega)]; omega), zX7_has w ht hi, Option.bind_some, hw t i ht hi]
    unfold fX11_rowsWithoutReason_45
    rw [e1, zi_add, zi_add]
    cases hr : (zly s M 5).1 t i
    · rw [if_pos (show bI false = 0 from rfl)]; rfl
    · rw [if_neg (show ¬ bI true = 0 by decide), zX4_reasonsOf hs hM hM4 hre hfa ht hi, Option.bind_some]
      by_cases g : zre (zly s M 5).1 s t i = 0
      · rw [if_pos (by rw [g]; rfl), decide_eq_true g]; rfl
      · rw [if_neg (by rw [show (0 : Int32) = nI 0 from rfl, zi_eq (by omega) (by omega)]; exact g), decide_eq_false g]; rfl
  · intro k _ _
    show fX11_rowsWithoutReason_4 K fa w re (nI t) (k + 1) (nI (zwo (zly s M 5).1 s t 512)) (nI 512) = _
    rw [fX11_rowsWithoutReason_4, if_pos (show (512 : Int32) ≤ nI 512 by decide)]
