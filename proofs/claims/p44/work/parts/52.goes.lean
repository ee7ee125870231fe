/-! the reference grown: a round -/
def zfl (R : Nat → Nat → Bool) (i : Nat) : Bool := R (i / 512) (i % 512)
theorem zMr_fl {row : Nat → Int32} {R : Nat → Nat → Bool} : zMr row R ↔ ∀ i, i < 2560 → row i = bI (zfl R i) := by
  constructor
  · intro h i hi
    have := h (i / 512) (i % 512) (by omega) (by omega)
    rw [show 512 * (i / 512) + i % 512 = i by omega] at this
    exact this
  · intro h t k ht hk
    have := h (512 * t + k) (by omega)
    unfold zfl at this
    rw [show (512 * t + k) / 512 = t by omega, show (512 * t + k) % 512 = k by omega] at this
    exact this
theorem zbE0 (b : Bool) : (bI b = (0 : Int32)) = (b = false) := by cases b <;> decide
theorem zi_b11 : (1 : Int32) &&& 1 = bI true := by decide
theorem zi_b00 : (0 : Int32) &&& 1 = bI false := by decide
theorem zX12_g78 (K : Nat) (now g : Nat → Int32) (p1 : Int32) {R C : Nat → Nat → Bool} {comes : Nat → Int32} (hC : zMr comes C) (ro : Int32) (value : Nat → Int32) {row : Nat → Int32} (hR : zMr row R) (hK : 2560 < K) :
    ∃ row', fX12_goesRound_78 K now g p1 K 0 0 row comes ro value = some (zany (fun i => zfl C i && !zfl R i) 2560, row', comes, ro + 1, value) ∧ zMr row' (fun t k => R t k || C t k) := by
  rw [zMr_fl] at hC hR
  have bi : ∀ (b : Bool) (z : (Nat → Int32) × (Nat → Int32) × Int32 × (Nat → Int32)), (if bI b = (0 : Int32) then some (false, z) else if bI b = 1 then some (true, z) else none) = some (b, z) := by intro b z; cases b <;> rfl
  obtain ⟨x, ⟨row', e, h⟩, e2⟩ := z_for (F := fun k i (z : Bool × (Nat → Int32)) => fX12_goesRound_78 K now g p1 k (bI z.1) (nI i) z.2 comes ro value) (n := 2560)
    (inv := fun i z => z.1 = zany (fun i => zfl C i && !zfl R i) i ∧ ∀ j, j < 2560 → z.2 j = if j < i then bI (zfl R j || zfl C j) else bI (zfl R j))
    (post := fun x => ∃ row', x = (zany (fun i => zfl C i && !zfl R i) 2560, row', comes, ro + 1, value) ∧ zMr row' (fun t k => R t k || C t k))
    (by
      intro k i z hi hinv
      obtain ⟨h1, h2⟩ := hinv
      left
      have hc := hC i hi
      have hr := h2 i hi
      rw [if_neg (by omega)] at hr
      refine ⟨(z.1 || (zfl C i && !zfl R i), upd z.2 i (bI (zfl R i || zfl C i))), ⟨?_, ?_⟩, ?_⟩
      · show _ = (zany _ i || _)
        rw [h1]
      · intro j hj
        show upd z.2 i _ j = _
        rw [zu_at]
        by_cases e : j = i
        · rw [if_pos e, e, if_pos (by omega)]
        · rw [if_neg e, h2 j hj]
          by_cases q : j < i
          · rw [if_pos q, if_pos (by omega)]
          · rw [if_neg q, if_neg (by omega)]
      · have i1 : inB (nI i) 2560 = true := by rw [zi_inB (by omega)]; exact hi
        have c1 := zi_clamp (show i < 2147483648 by omega)
        show fX12_goesRound_78 K now g p1 (k + 1) (bI z.1) (nI i) z.2 comes ro value = fX12_goesRound_78 K now g p1 k (bI (z.1 || (zfl C i && !zfl R i))) (nI (i + 1)) (upd z.2 i (bI (zfl R i || zfl C i))) comes ro value
        rw [fX12_goesRound_78, if_neg (by rw [show (2560 : Int32) = nI 2560 from rfl, zi_le (by omega) (by omega)]; omega), if_pos i1, c1, hc, if_pos i1, hr, nI_succ]
        unfold fX12_goesRound_111 fX12_goesRound_107 fX12_goesRound_112 fX12_goesRound_136 fX12_goesRound_141
        rw [if_pos i1, if_pos i1, if_pos i1, if_pos i1, c1, hc, hr, zi_b11, zi_b00]
        simp only [zbE0, i1, if_true]
        cases z.1 <;> cases zfl C i <;> cases zfl R i <;> rfl)
    (by
      intro k z hinv
      obtain ⟨h1, h2⟩ := hinv
      refine ⟨_, ⟨z.2, rfl, ?_⟩, ?_⟩
      · rw [zMr_fl]
        intro i hi
        rw [h2 i hi, if_pos hi]; rfl
      · show fX12_goesRound_78 K now g p1 (k + 1) (bI z.1) (nI 2560) z.2 comes ro value = _
        rw [fX12_goesRound_78, if_pos (show (2560 : Int32) ≤ nI 2560 by decide), bi, h1])
    2560 K 0 (false, row) (by omega) ⟨rfl, fun j hj => by rw [if_neg (by omega)]; exact hR j hj⟩ (by omega)
  exact ⟨row', by rw [e] at e2; exact e2, h⟩
theorem zX12_g2 (K : Nat) (now g : Nat → Int32) (p1 : Int32) (row : Nat → Int32) (ro : Int32) (value : Nat → Int32) (comes : Nat → Int32) (hK : 2560 < K) :
    ∃ comes', fX12_goesRound_2 K now g p1 K 0 row comes ro value = fX12_goesRound_24 K now g p1 K 0 row comes' ro value ∧ zMr comes' (fun _ _ => false) := by
  obtain ⟨c', h, e⟩ := z_forD (F := fun k i (z : Nat → Int32) => fX12_goesRound_2 K now g p1 k (nI i) row z ro value) (n := 2560)
    (inv := fun i z => ∀ j, j < i → z j = bI false) (D := fun z => fX12_goesRound_24 K now g p1 K 0 row z ro value)
    (by
      intro k i z hi hv
      refine ⟨upd z i (bI false), ?_, ?_⟩
      · intro j hj
        rw [zu_at]
        by_cases e : j = i
        · rw [if_pos e]
        · rw [if_neg e]; exact hv j (by omega)
      · show fX12_goesRound_2 K now g p1 (k + 1) (nI i) row z ro value = _
        rw [fX12_goesRound_2, if_neg (by rw [show (2560 : Int32) = nI 2560 from rfl, zi_le (by omega) (by omega)]; omega), if_pos (by rw [zi_inB (by omega)]; exact hi), zi_clamp (by omega), zi_b00, nI_succ])
    (by
      intro k z hv
      show fX12_goesRound_2 K now g p1 (k + 1) (nI 2560) row z ro value = _
      rw [fX12_goesRound_2, if_pos (show (2560 : Int32) ≤ nI 2560 by decide)])
    2560 K 0 comes (by omega) (fun j hj => by omega) (by omega)
  exact ⟨c', e, zMr_fl.mpr (fun i hi => h i hi)⟩
theorem zX12_goesRound (K : Nat) (hK : 5000 < K) {now : Nat → Int32} {s : Nat → Nat} (h : zM now s) (hs : zRul s) {row : Nat → Int32} {R : Nat → Nat → Bool} (hR : zMr row R) {g : Nat → Int32} {M : Nat → Nat} (hg : ∀ t, t < 5 → g t = nI (M t)) (hM : ∀ t, t < 5 → M t ≤ 4) {l : Nat} (hl : l < 1000) (ro : Int32) (comes : Nat → Int32) {value : Nat → Int32} (hval : ∃ val, zMv value val) :
    ∃ row' comes' value', fX12_goesRound K now g (nI l) row comes ro value = some (znw R s M l, row', comes', ro + 1, value') ∧ zMr row' (zstp R s M l) ∧ ∃ val, zMv value' val := by
  have hrn := hs.1
  have h2654 := h 2654 (by omega)
  have c2654 : (2654 : Int32).toNatClampNeg = 2654 := by decide
  have i2654 : inB (2654 : Int32) 2780 = true := by decide
  have s2654 : s 2654 = zrn s := rfl
  have e1 : (1 : Int32) = nI 1 := rfl
  obtain ⟨c0, e0, hc0⟩ := zX12_g2 K now g (nI l) row ro value comes (by omega)
  obtain ⟨⟨c1, v1⟩, ⟨hc1, hv1⟩, e2⟩ := z_forD (F := fun k r (z : (Nat → Int32) × (Nat → Int32)) => fX12_goesRound_24 K now g (nI l) k (nI r) row z.1 ro z.2) (n := zrn s)
    (inv := fun r z => zMr z.1 (fun t k => zgivs R s M l t k r) ∧ ∃ val, zMv z.2 val) (D := fun z => fX12_goesRound_78 K now g (nI l) K 0 0 row z.1 ro z.2)
    (by
      intro k r z hr hinv
      obtain ⟨hc, hv⟩ := hinv
      have hh := zhp_lt (show r < 5 by omega)
      have a1 := (hs.2 r hr).1
      have hh5 : s (zhp r) < 5 := a1.1
      have hd : (zrh s r).1 = s (zhp r) := rfl
      have hst : ∀ z : (Nat → Int32) × (Nat → Int32), fX12_goesRound_24 K now g (nI l) (k + 1) (nI r) row z.1 ro z.2 = _ := fun z => by
        rw [fX12_goesRound_24, if_pos i2654, c2654, h2654.1, if_neg (by rw [zi_le (by omega) (by omega)]; omega), zX12_isIdleRule K (by omega) h hs hr, Option.bind_some, zX12_headAt, Option.bind_some, if_pos (show inB (nI (zhp r)) 2780 = true by rw [zi_inB (by omega)]; omega), zi_clamp (by omega), (h _ (show zhp r < 2780 by omega)).1, if_pos (show inB (nI (s (zhp r))) 5 = true by rw [zi_inB (by omega)]; exact hh5), zi_clamp (by omega), hg _ hh5]
      by_cases hw : zwk s M l r = true
      · have hid : zidle s r = false := by
          unfold zwk at hw
          rw [Bool.and_eq_true, Bool.not_eq_true'] at hw
          exact hw.1
        have hm : M (s (zhp r)) = l := by
          unfold zwk at hw
          rw [Bool.and_eq_true, decide_eq_true_eq] at hw
          exact hw.2
        obtain ⟨c', v', ea, h1, h2⟩ := zX12_applies K hK h hs hR hr hid hc hv
        refine ⟨(c', v'), ⟨?_, h2⟩, ?_⟩
        · intro t k ht hk
          show c' _ = _
          rw [h1 t k ht hk]
          show _ = bI (zgivs R s M l t k (r + 1))
          unfold zgivs
          rw [zany, hw, Bool.true_and]
        · show fX12_goesRound_24 K now g (nI l) (k + 1) (nI r) row z.1 ro z.2 = _
          rw [hst, hid, if_pos (show bI false = 0 from rfl), hm, if_pos rfl, ea, Option.bind_some]
          unfold fX12_goesRound_68
          rw [e1, zi_add]
      · rw [Bool.not_eq_true] at hw
        refine ⟨z, ⟨?_, hv⟩, ?_⟩
        · intro t k ht hk
          rw [hc t k ht hk]
          show _ = bI (zgivs R s M l t k (r + 1))
          unfold zgivs
          rw [zany, hw, Bool.false_and, Bool.or_false]
        · show fX12_goesRound_24 K now g (nI l) (k + 1) (nI r) row z.1 ro z.2 = _
          rw [hst]
          unfold fX12_goesRound_68
          cases hid : zidle s r
          · unfold zwk at hw
            rw [hid, hd, Bool.not_false, Bool.true_and, decide_eq_false_iff_not] at hw
            have h4 := hM _ hh5
            rw [if_pos (show bI false = 0 from rfl), if_neg (by rw [zi_eq (by omega) (by omega)]; exact hw), e1, zi_add]
          · rw [if_neg (show ¬ bI true = 0 by decide), e1, zi_add])
    (by
      intro k z hinv
      show fX12_goesRound_24 K now g (nI l) (k + 1) (nI (zrn s)) row z.1 ro z.2 = _
      rw [fX12_goesRound_24, if_pos i2654, c2654, h2654.1, if_pos (by rw [zi_le (by omega) (by omega)]; omega)])
    (zrn s) K 0 (c0, value) (by omega) ⟨hc0, hval⟩ (by omega)
  obtain ⟨row', e3, h3⟩ := zX12_g78 K now g (nI l) hc1 ro v1 hR (by omega)
  refine ⟨row', c1, v1, ?_, ?_, hv1⟩
  · unfold fX12_goesRound
    have e2' : fX12_goesRound_24 K now g (nI l) K 0 row c0 ro value = fX12_goesRound_78 K now g (nI l) K 0 0 row c1 ro v1 := e2
    rw [e0, e2', e3]; rfl
  · intro t k ht hk
    rw [h3 t k ht hk]; rfl
