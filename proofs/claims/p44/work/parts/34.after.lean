/-! the class's answers, one behind another -/
theorem zkb_sh {w : Int64} {j : Nat} (hj : j < 64) : ((w.toUInt64 >>> ((nI j).toInt64.toUInt64 &&& Int64.toUInt64 63)).toInt64 &&& (1 : Int64) = (0 : Int64)) = (zb w j = false) := by
  have hs : ((nI j).toInt64.toUInt64 &&& Int64.toUInt64 63).toNat = j := by
    rw [zlN_cu j hj]; exact Nat.mod_eq_of_lt (by omega)
  generalize (nI j).toInt64.toUInt64 &&& Int64.toUInt64 63 = s at *
  have e : (w.toUInt64 >>> s).toInt64.toBitVec = w.toBitVec >>> j := by
    apply BitVec.eq_of_toNat_eq
    show (w.toUInt64 >>> s).toNat = _
    rw [UInt64.toNat_shiftRight, hs, Nat.mod_eq_of_lt hj, BitVec.toNat_ushiftRight]
    rfl
  apply propext
  rw [← Int64.toBitVec_inj, Int64.toBitVec_and, e]
  show w.toBitVec >>> j &&& 1#64 = 0#64 ↔ _
  unfold zb
  constructor
  · intro h
    have t := congrArg (fun x => x.getLsbD 0) h
    simpa using t
  · intro h
    apply BitVec.eq_of_getLsbD_eq
    intro i hi
    cases i with
    | zero => simp [h]
    | succ i => simp
theorem zkb_sh0 {w : Int64} {j : Nat} (hj : j < 64) : (w.toUInt64 >>> ((nI j).toInt64.toUInt64 &&& Int64.toUInt64 63)).toInt64 = (0 : Int64) ↔ ∀ i, j ≤ i → i < 64 → zb w i = false := by
  have hs : ((nI j).toInt64.toUInt64 &&& Int64.toUInt64 63).toNat = j := by
    rw [zlN_cu j hj]; exact Nat.mod_eq_of_lt (by omega)
  generalize (nI j).toInt64.toUInt64 &&& Int64.toUInt64 63 = s at *
  have e : (w.toUInt64 >>> s).toInt64.toBitVec = w.toBitVec >>> j := by
    apply BitVec.eq_of_toNat_eq
    show (w.toUInt64 >>> s).toNat = _
    rw [UInt64.toNat_shiftRight, hs, Nat.mod_eq_of_lt hj, BitVec.toNat_ushiftRight]
    rfl
  rw [zb_eq0]
  have hb : ∀ i, i < 64 → zb (w.toUInt64 >>> s).toInt64 i = zb w (j + i) := by
    intro i hi
    unfold zb; rw [e, BitVec.getLsbD_ushiftRight]
  constructor
  · intro h i h1 h2
    have := h (i - j) (by omega)
    rw [hb _ (by omega), show j + (i - j) = i by omega] at this; exact this
  · intro h i hi
    rw [hb i hi]
    by_cases g : j + i < 64
    · exact h _ (by omega) g
    · unfold zb; exact BitVec.getLsbD_of_ge _ _ (by omega)
/-- a key, or NONE -/
def zkr (r : Nat) : Int32 := if r < 4096 then nI r else -1
/-- the first key from k on -/
def znk (P : Nat → Bool) (k : Nat) : Nat := zlst P (4096 - k) k
theorem znk_b (P : Nat → Bool) {k : Nat} (hk : k ≤ 4096) : k ≤ znk P k ∧ znk P k ≤ 4096 := by
  have := zlst_le P (4096 - k) k
  unfold znk; omega
theorem znk_yes (P : Nat → Bool) {k : Nat} (h : znk P k < 4096) : P (znk P k) = true := by
  have := zlst_le P (4096 - k) k
  unfold znk at *
  exact zlst_yes P (4096 - k) k (by omega)
theorem znk_no (P : Nat → Bool) {k y : Nat} (h1 : k ≤ y) (h2 : y < znk P k) : P y = false := zlst_no P _ _ y h1 h2
theorem znk_skip {P : Nat → Bool} {k l : Nat} (hkl : k ≤ l) (hl : l ≤ 4096) (h : ∀ y, k ≤ y → y < l → P y = false) : znk P k = znk P l := by
  apply zlst_uniq
  · have := (znk_b P hl).1; omega
  · have := (znk_b P hl).2; omega
  · intro y h1 h2
    rcases Nat.lt_or_ge y l with g | g
    · exact h y h1 g
    · exact znk_no P g h2
  · intro g; exact znk_yes P (by omega)
theorem zX0_after0 (K : Nat) (hK : 4096 < K) (w : Nat → Int64) (p1 : Int32) {k : Nat} (hk : k ≤ 4096) : fX0_after_6 K w p1 K (nI k) (0 : Int32) = some (zkr (znk (zkb w) k)) := by
  refine z_forE (F := fun q i (x : Nat) => fX0_after_6 K w p1 q (nI x) (nI i)) (n := 4096) (inv := fun i x => i ≤ x ∧ x ≤ 4096 ∧ znk (zkb w) x = znk (zkb w) k) ?_ ?_ 4096 K 0 k (by omega) ⟨Nat.zero_le _, hk, rfl⟩ (by omega)
  · intro q i x hi hinv
    obtain ⟨h1, h2, h3⟩ := hinv
    have c1 : ¬ (4096 : Int32) ≤ nI i := by rw [show (4096 : Int32) = nI 4096 from rfl, zi_le (by omega) (by omega)]; omega
    have c2 : ¬ nI x < 0 := nI_pos (by omega)
    show _ ∨ fX0_after_6 K w p1 (q + 1) (nI x) (nI i) = _
    by_cases hx : x = 4096
    · right
      rw [fX0_after_6, if_neg c1, if_neg c2, if_pos (by rw [hx]; decide), ← h3, hx]
      have : znk (zkb w) 4096 = 4096 := by have := znk_b (zkb w) (Nat.le_refl 4096); omega
      rw [this]; rfl
    · have c3 : ¬ (4096 : Int32) ≤ nI x := by rw [show (4096 : Int32) = nI 4096 from rfl, zi_le (by omega) (by omega)]; omega
      have es : nI x >>> ((6 : Int32) &&& 31) = nI (x / 64) := by
        rw [show (6 : Int32) = nI 6 from rfl, show (31 : Int32) = nI 31 from rfl, zi_and, zn_and31, zi_shrP (by omega) (by omega)]
      have em : nI x &&& (63 : Int32) = nI (x % 64) := by
        rw [show (63 : Int32) = nI 63 from rfl, zi_and, zn_and63]
      have c4 : ¬ (64 : Int32) ≤ nI (x / 64) := by rw [show (64 : Int32) = nI 64 from rfl, zi_le (by omega) (by omega)]; omega
      have c5 : inB (nI (x / 64)) 64 = true := by rw [zi_inB (by omega)]; omega
      have main : ∀ V, ((zkb w x = false → (∀ j, x % 64 ≤ j → j < 64 → zb (w (x / 64)) j = false) → V = fX0_after_6 K w p1 q (nI ((x / 64 + 1) * 64)) (nI (i + 1))) ∧ (zkb w x = false → ¬ (∀ j, x % 64 ≤ j → j < 64 → zb (w (x / 64)) j = false) → V = fX0_after_6 K w p1 q (nI (x + 1)) (nI (i + 1))) ∧ (¬ zkb w x = false → V = some (nI x))) → fX0_after_6 K w p1 (q + 1) (nI x) (nI i) = V := by
        intro V hV
        obtain ⟨v1, v2, v3⟩ := hV
        rw [fX0_after_6, if_neg c1, if_neg c2, if_neg c3, es, if_neg c4, if_pos c5, zi_clamp (by omega), em]
        unfold fX0_after_56 fX0_after_89
        have a1 := zkb_sh (w := w (x / 64)) (show x % 64 < 64 by omega)
        have a2 := zkb_sh0 (w := w (x / 64)) (show x % 64 < 64 by omega)
        have e1 : (1 : Int32) = nI 1 := rfl
        have e64 : (64 : Int32) = nI 64 := rfl
        by_cases hb : zkb w x = false
        · rw [if_pos (by rw [zl_cmpE, a1]; exact hb)]
          by_cases h0 : ∀ j, x % 64 ≤ j → j < 64 → zb (w (x / 64)) j = false
          · rw [if_pos (by rw [zl_cmpE, a2]; exact h0), v1 hb h0, e1, e64, zi_add, zi_add, zi_mul]
          · rw [if_neg (by rw [zl_cmpE, a2]; exact h0), v2 hb h0, e1, zi_add, zi_add]
        · rw [if_neg (by rw [zl_cmpE, a1]; exact hb), v3 hb]
      by_cases hb : zkb w x = false
      · left
        by_cases h0 : ∀ j, x % 64 ≤ j → j < 64 → zb (w (x / 64)) j = false
        · refine ⟨(x / 64 + 1) * 64, ⟨by omega, by omega, ?_⟩, main _ ⟨fun _ _ => rfl, fun _ g => absurd h0 g, fun g => absurd hb g⟩⟩
          rw [← h3]
          symm
          apply znk_skip (by omega) (by omega)
          intro y hy1 hy2
          unfold zkb
          rw [show y / 64 = x / 64 by omega]
          exact h0 _ (by omega) (by omega)
        · refine ⟨x + 1, ⟨by omega, by omega, ?_⟩, main _ ⟨fun _ g => absurd g h0, fun _ _ => rfl, fun g => absurd hb g⟩⟩
          rw [← h3]
          symm
          apply znk_skip (by omega) (by omega)
          intro y hy1 hy2
          have : y = x := by omega
          rw [this]; exact hb
      · right
        rw [main (some (nI x)) ⟨fun g => absurd g hb, fun g => absurd g hb, fun _ => rfl⟩, ← h3]
        have : znk (zkb w) x = x := by
          apply zlst_uniq (Nat.le_refl x) (by omega)
          · intro y h4 h5; omega
          · intro _; simpa using hb
        rw [this]; unfold zkr; rw [if_pos (by omega)]
  · intro q x hinv
    obtain ⟨h1, h2, h3⟩ := hinv
    have hx : x = 4096 := by omega
    show fX0_after_6 K w p1 (q + 1) (nI x) (nI 4096) = _
    rw [fX0_after_6, if_pos (by decide), ← h3, hx]
    have : znk (zkb w) 4096 = 4096 := by have := znk_b (zkb w) (Nat.le_refl 4096); omega
    rw [this]; rfl
theorem zX0_after (K : Nat) (hK : 4096 < K) (w : Nat → Int64) {k : Nat} (hk : k < 4096) : fX0_after K w (nI k) = some (zkr (znk (zkb w) (k + 1))) := by
  unfold fX0_after
  rw [show (1 : Int32) = nI 1 from rfl, zi_add]; exact zX0_after0 K hK w _ (by omega)
theorem zX0_afterN (K : Nat) (hK : 4096 < K) (w : Nat → Int64) : fX0_after K w (-1) = some (zkr (znk (zkb w) 0)) := by
  unfold fX0_after
  have e : (-1 : Int32) + 1 = nI 0 := by decide
  rw [e]; exact zX0_after0 K hK w _ (by omega)
/-- the key reached when i answers lie behind: the place from which the next one is sought -/
theorem zcnt_znk (P : Nat → Bool) {k : Nat} (hk : k ≤ 4096) : zcnt P (znk P k) = zcnt P k := by
  have h := znk_b P hk
  exact zcnt_flat h.1 (fun y h1 h2 => znk_no P h1 h2)
theorem zcnt_lt_znk (P : Nat → Bool) {k : Nat} (hk : k ≤ 4096) (h : zcnt P k < zcnt P 4096) : znk P k < 4096 := by
  apply Classical.byContradiction
  intro g
  have h1 := znk_b P hk
  have : znk P k = 4096 := by omega
  have h2 := zcnt_znk P hk
  rw [this] at h2; omega
theorem zX0_countBelow (K : Nat) (hK : 4096 < K) (w : Nat → Int64) {P : Nat → Bool} (hP : ∀ y, y < 4096 → zkb w y = P y) {b : Nat} (hb : b ≤ 4096) : fX0_countBelow K w (nI (zcnt P 4096)) (nI b) = some (nI (zcnt P b)) := by
  unfold fX0_countBelow
  have hcl := zcnt_le P 4096
  have hnk : ∀ k, k ≤ 4096 → znk (zkb w) k = znk P k := fun k hk => zlst_cong (fun y h1 h2 => hP y (by omega))
  -- s: one more than the last key
  refine z_forE (F := fun q i (s : Nat) => fX0_countBelow_4 K w (nI (zcnt P 4096)) (nI b) q (if s = 0 then -1 else nI (s - 1)) (nI i)) (n := zcnt P 4096) (inv := fun i s => s ≤ 4096 ∧ zcnt P s = i ∧ s ≤ b) ?_ ?_ (zcnt P 4096) K 0 0 (by omega) ⟨by omega, rfl, by omega⟩ (by omega)
  · intro q i s hi hinv
    obtain ⟨h1, h2, h3⟩ := hinv
    have hlt := zcnt_lt_znk P h1 (by omega)
    have hge := (znk_b P h1).1
    have hyes := znk_yes P hlt
    have haf : fX0_after K w (if s = 0 then -1 else nI (s - 1)) = some (nI (znk P s)) := by
      by_cases h0 : s = 0
      · rw [if_pos h0, zX0_afterN K hK w, hnk 0 (by omega), h0]
        unfold zkr; rw [h0] at hlt; rw [if_pos hlt]
      · rw [if_neg h0, zX0_after K hK w (by omega), show s - 1 + 1 = s by omega, hnk s h1]
        unfold zkr; rw [if_pos hlt]
    show _ ∨ fX0_countBelow_4 K w (nI (zcnt P 4096)) (nI b) (q + 1) (if s = 0 then -1 else nI (s - 1)) (nI i) = _
    rw [fX0_countBelow_4, if_neg (by rw [zi_le (by omega) (by omega)]; omega), haf, Option.bind_some]
    by_cases hz : znk P s < b
    · left
      refine ⟨znk P s + 1, ⟨by omega, ?_, by omega⟩, ?_⟩
      · rw [zcnt_s, zcnt_znk P h1, h2, hyes]; rfl
      · rw [if_pos (by rw [zi_lt (by omega) (by omega)]; exact hz), show (1 : Int32) = nI 1 from rfl, zi_add]
        rfl
    · right
      rw [if_neg (by rw [zi_lt (by omega) (by omega)]; exact hz)]
      have : zcnt P b = i := by
        rw [← h2]
        exact zcnt_flat h3 (fun y g1 g2 => znk_no P g1 (by omega))
      rw [this]
  · intro q s hinv
    obtain ⟨h1, h2, h3⟩ := hinv
    show fX0_countBelow_4 K w (nI (zcnt P 4096)) (nI b) (q + 1) (if s = 0 then -1 else nI (s - 1)) (nI (zcnt P 4096)) = _
    rw [fX0_countBelow_4, if_pos (by rw [zi_le (by omega) (by omega)]; omega)]
    have m1 := zcnt_mono P h3
    have m2 := zcnt_mono P hb
    congr 2; omega
