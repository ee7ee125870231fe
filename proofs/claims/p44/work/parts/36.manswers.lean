/-! the reference's answers -/
def zqo (s : Nat → Nat) (q : Nat) : Nat := s (2566 + q)
def zqpl (s : Nat → Nat) (q : Nat) : Nat → Nat := zpl (zqo s q) (zqv s q) 4
def zqc (s : Nat → Nat) (q : Nat) : Nat := zpc (zqo s q) (zqv s q) 4
theorem zqc_le (s : Nat → Nat) (q : Nat) : zqc s q ≤ 4 := zpc_le _ _ 4
theorem zX12_places (K : Nat) (hK : 5 < K) {now : Nat → Int32} {s : Nat → Nat} (h : zM now s) {q : Nat} (hq : q < 4) (hQ : zQ s q) (ho : zOr (zqo s q)) (place : Nat → Int32) (places : Int32) :
    ∃ place', fX12_findsPlaces K now (nI q) place places = some (place', nI (zqc s q)) ∧ zMp place' (zqpl s q) (zqc s q) := by
  obtain ⟨place', e, hp⟩ := zX12_findsPlaces K hK h hq hQ place places ho.2.1
  refine ⟨place', e, ?_⟩
  intro m hm
  obtain ⟨j, a1, a2, a3, a4⟩ := zpl_in (zqo s q) (zqv s q) 4 m hm
  refine ⟨hp m hm, ?_⟩
  show zpl (zqo s q) (zqv s q) 4 m < 4
  rw [a2]; exact ho.2.1 j a1
theorem zX12_choices (K : Nat) (hK : 5 < K) {now : Nat → Int32} {s : Nat → Nat} (h : zM now s) {q : Nat} (hq : q < 4) (hQ : zQ s q) (ho : zOr (zqo s q)) (place : Nat → Int32) (places : Int32) :
    ∃ place', fX12_choices K now (nI q) place places = some (nI (if zqc s q = 0 then 0 else 8 ^ zqc s q), place', nI (zqc s q)) ∧ zMp place' (zqpl s q) (zqc s q) := by
  obtain ⟨place', e, hp⟩ := zX12_places K hK h hq hQ ho place places
  have hc := zqc_le s q
  refine ⟨place', ?_, hp⟩
  unfold fX12_choices
  rw [e, Option.bind_some]
  dsimp only
  by_cases h0 : zqc s q = 0
  · rw [if_pos (by rw [h0]; decide), if_pos h0]; rfl
  · rw [if_neg (by rw [show (0 : Int32) = nI 0 from rfl, zi_eq (by omega) (by omega)]; exact h0), if_neg h0]
    have hs : 3 * zqc s q % 32 = 3 * zqc s q := by omega
    have e1 : (1 : Int32) <<< (((3 : Int32) * nI (zqc s q)) &&& 31) = nI (8 ^ zqc s q) := by
      rw [show (1 : Int32) = nI 1 from rfl, show (3 : Int32) = nI 3 from rfl, show (31 : Int32) = nI 31 from rfl, zi_mul, zi_and, zn_and31, hs, zi_shlP _ (by omega), Nat.one_mul, Nat.pow_mul]
    rw [e1]
theorem zX12_takes (K : Nat) (hK : 4 < K) {place : Nat → Int32} {pl : Nat → Nat} {c : Nat} (hc : c ≤ 4) (hpl : zMp place pl c) (hd : ∀ a b, a < b → b < c → pl a ≠ pl b) {y : Nat} (hy : y < 4096) {value : Nat → Int32} {val : Nat → Nat} (hval : zMv value val) :
    ∃ value' val', fX12_takes K place (nI c) (nI y) value = some value' ∧ zMv value' val' ∧ ∀ m, m < c → val' (pl m) = zdig c y m := by
  unfold fX12_takes
  obtain ⟨r, ⟨val', hr1, hr2⟩, e⟩ := z_for (F := fun k i (v : Nat → Int32) => fX12_takes_2 K place (nI c) (nI y) k (nI i) v) (n := c) (inv := fun i v => ∃ val', zMv v val' ∧ ∀ m, m < i → val' (pl m) = zdig c y m) (post := fun v => ∃ val', zMv v val' ∧ ∀ m, m < c → val' (pl m) = zdig c y m)
    (by
      intro k i v hi hinv
      obtain ⟨val', h1, h2⟩ := hinv
      obtain ⟨p1, p2⟩ := hpl i hi
      have hs : 3 * (c - 1 - i) % 32 = 3 * (c - 1 - i) := by omega
      have h8 : 2 ^ (3 * (c - 1 - i)) = 8 ^ (c - 1 - i) := by rw [Nat.pow_mul]
      have hd8 : y / 8 ^ (c - 1 - i) % 8 = zdig c y i := rfl
      left
      refine ⟨upd v (pl i) (nI (zdig c y i)), ⟨zup val' (pl i) (zdig c y i), ?_, ?_⟩, ?_⟩
      · intro u hu
        rw [zu_at, zq_at]
        split
        · exact ⟨rfl, by unfold zdig; omega⟩
        · exact h1 u hu
      · intro m hm
        rw [zq_at]
        by_cases e : m = i
        · rw [e, if_pos rfl]
        · rw [if_neg (fun q => hd m i (by omega) hi q)]; exact h2 m (by omega)
      · simp (disch := omega) only [fX12_takes_2, zi_lit, zi_le, zi_inB, zi_clamp, p1, zi_add, zi_sub, zi_mul, zi_and, zn_and31, zn_and7, hs, zi_shrP, h8, hd8]
        rw [if_neg (by omega), if_pos (by omega), if_pos (by omega)])
    (by
      intro k v hinv
      refine ⟨v, hinv, ?_⟩
      simp (disch := omega) only [fX12_takes_2, zi_le]
      rw [if_pos (by omega)])
    c K 0 value (by omega) ⟨val, hval, fun m hm => absurd hm (Nat.not_lt_zero _)⟩ (by omega)
  exact ⟨r, val', e, hr1, hr2⟩
theorem zfa_val {A : Nat → zA} {n : Nat} {pl : Nat → Nat} {c y : Nat} (hA : ∀ i, i < n → zaOK (A i)) (hV : zVp A n pl c) (hd : ∀ a b, a < b → b < c → pl a ≠ pl b) (hy : y < 8 ^ c) {val : Nat → Nat} (hval : ∀ m, m < c → val (pl m) = zdig c y m) {i : Nat} (hi : i < n) : zaR (A i) (fun v => zext pl c 0 z0 y v % 8) = zaR (A i) val := by
  apply zaR_cong (hA i hi)
  intro q hq
  obtain ⟨m, hm, e⟩ := hV i hi _ ((zaH_iff (hA i hi)).mpr ⟨q, hq, rfl⟩)
  rw [← e, hval m hm]
  have := zext_at pl c 0 z0 y m hm hy (fun a b h1 h2 => hd a b h1 (by omega))
  rw [Nat.zero_add] at this
  rw [this]; unfold zdig; omega
theorem zqV {s : Nat → Nat} {q : Nat} (hQ : zQ s q) (ho : zOr (zqo s q)) : zVp (zqa s q) (zqn s q) (zqpl s q) (zqc s q) := by
  have := zVp_of (A := zqa s q) (N := fun _ => false) (n := zqn s q) ho hQ.2
  obtain ⟨f1, f2⟩ := zfA_all (A := zqa s q) (N := fun _ => false) (zqn s q) (fun _ _ => rfl)
  rw [f1, f2] at this
  exact this
theorem zqD {s : Nat → Nat} {q : Nat} (ho : zOr (zqo s q)) : ∀ a b, a < b → b < zqc s q → zqpl s q a ≠ zqpl s q b := fun a b h1 h2 => zpl_dist ho h1 h2
/-- the answers of a query -/
def zqP (R : Nat → Nat → Bool) (s : Nat → Nat) (q : Nat) : Nat → Bool := zans R (zqa s q) (zqn s q) (zqpl s q) (zqc s q)
theorem zX12_isAnswer (K : Nat) (hK : 5 < K) {now : Nat → Int32} {s : Nat → Nat} (h : zM now s) {row : Nat → Int32} {R : Nat → Nat → Bool} (hR : zMr row R) {q : Nat} (hq : q < 4) (hQ : zQ s q) (ho : zOr (zqo s q)) {place : Nat → Int32} (hpl : zMp place (zqpl s q) (zqc s q)) {y : Nat} (hy : y < 8 ^ zqc s q) (hc0 : 0 < zqc s q) {value : Nat → Int32} {val : Nat → Nat} (hval : zMv value val) :
    ∃ value' val', fX12_isAnswer K now row place (nI (zqc s q)) (nI q) (nI y) value = some (zqP R s q y, value') ∧ zMv value' val' ∧ ∀ m, m < zqc s q → val' (zqpl s q m) = zdig (zqc s q) y m := by
  have hc := zqc_le s q
  have h8 := zp8 hc
  obtain ⟨value', val', e, h1, h2⟩ := zX12_takes K (by omega) hc hpl (zqD ho) (show y < 4096 by omega) hval
  refine ⟨value', val', ?_, h1, h2⟩
  have hn := hQ.1
  have hzq : zqP R s q y = zall (fun i => R (zqa s q i).1 (zaR (zqa s q i) val')) (zqn s q) := by
    unfold zqP zans
    rw [decide_eq_true hc0, decide_eq_true hy, Bool.true_and, Bool.true_and]
    unfold zfa
    apply zall_cong
    intro i hi
    rw [zfa_val hQ.2 (zqV hQ ho) (zqD ho) hy h2 hi]
  unfold fX12_isAnswer
  rw [e, Option.bind_some, hzq]
  have bi : ∀ b : Bool, (if bI b = (0 : Int32) then some (false, value') else if bI b = 1 then some (true, value') else none) = some (b, value') := by intro b; cases b <;> rfl
  refine z_forE (F := fun k i (b : Bool) => fX12_isAnswer_10 K now row place (nI (zqc s q)) (nI q) (nI y) k (bI b) (nI i) value') (n := zqn s q) (inv := fun i b => b = zall (fun i => R (zqa s q i).1 (zaR (zqa s q i) val')) i) ?_ ?_ (zqn s q) K 0 true (by omega) rfl (by omega)
  · intro k i b hi hb
    show _ ∨ fX12_isAnswer_10 K now row place (nI (zqc s q)) (nI q) (nI y) (k + 1) (bI b) (nI i) value' = _
    rw [fX12_isAnswer_10, zX12_atoms h hq, Option.bind_some, if_neg (by rw [zi_le (by omega) (by omega)]; omega)]
    cases hbb : b
    · right
      rw [if_pos (show bI false = 0 from rfl), if_pos (show bI false = 0 from rfl)]
      have : zall (fun i => R (zqa s q i).1 (zaR (zqa s q i) val')) (zqn s q) = false := by
        rw [← Bool.not_eq_true, zall_iff]
        intro g
        rw [hbb] at hb
        have : zall (fun i => R (zqa s q i).1 (zaR (zqa s q i) val')) i = true := zall_iff.mpr (fun j hj => g j (by omega))
        rw [← hb] at this; exact absurd this (by decide)
      rw [this]
    · left
      have hb2 : zqp q i + 3 < 2780 := by unfold zqp; omega
      refine ⟨zall (fun i => R (zqa s q i).1 (zaR (zqa s q i) val')) (i + 1), rfl, ?_⟩
      rw [if_neg (show ¬ bI true = 0 by decide), zX12_atomAt, Option.bind_some, zX12_fits K (by omega) h hR h1 hb2 (hQ.2 i hi), Option.bind_some, show (1 : Int32) = nI 1 from rfl, zi_add, zall, ← hb, hbb, Bool.true_and]
      rfl
  · intro k b hb
    show fX12_isAnswer_10 K now row place (nI (zqc s q)) (nI q) (nI y) (k + 1) (bI b) (nI (zqn s q)) value' = _
    rw [fX12_isAnswer_10, zX12_atoms h hq, Option.bind_some, if_pos (by rw [zi_le (by omega) (by omega)]; omega), bi, hb]
theorem zqP_cnt (R : Nat → Nat → Bool) (s : Nat → Nat) (q : Nat) : zcnt (zqP R s q) (if zqc s q = 0 then 0 else 8 ^ zqc s q) = zcnt (zqP R s q) 4096 := by
  have hc := zqc_le s q
  by_cases h0 : zqc s q = 0
  · rw [if_pos h0]
    symm
    apply zcnt_flat (by omega)
    intro i _ _
    unfold zqP zans
    rw [decide_eq_false (by omega)]; rfl
  · rw [if_neg h0]; exact (zans_4096 R _ _ _ hc).symm
theorem zX12_answersOf (K : Nat) (hK : 4096 < K) {now : Nat → Int32} {s : Nat → Nat} (h : zM now s) {row : Nat → Int32} {R : Nat → Nat → Bool} (hR : zMr row R) {q : Nat} (hq : q < 4) (hQ : zQ s q) (ho : zOr (zqo s q)) (place : Nat → Int32) (places : Int32) {value : Nat → Int32} {val : Nat → Nat} (hval : zMv value val) :
    ∃ value' val' place' places', fX12_answersOf K now row (nI q) value place places = some (nI (zcnt (zqP R s q) 4096), value', place', places') ∧ zMv value' val' := by
  have hc := zqc_le s q
  have h8 := zp8 hc
  obtain ⟨place', e, hp⟩ := zX12_choices K (by omega) h hq hQ ho place places
  unfold fX12_answersOf
  rw [e, Option.bind_some]
  dsimp only
  obtain ⟨r, ⟨v', val', hr, hr2⟩, e2⟩ := z_for (F := fun k i (v : Nat → Int32) => fX12_answersOf_11 K now row (nI q) k (nI (if zqc s q = 0 then 0 else 8 ^ zqc s q)) (nI (zcnt (zqP R s q) i)) (nI i) v place' (nI (zqc s q))) (n := if zqc s q = 0 then 0 else 8 ^ zqc s q) (inv := fun i v => ∃ val', zMv v val') (post := fun r => ∃ v' val', r = (nI (zcnt (zqP R s q) 4096), v', place', nI (zqc s q)) ∧ zMv v' val')
    (by
      intro k i v hi hinv
      obtain ⟨val', h1⟩ := hinv
      have hc0 : 0 < zqc s q := by
        apply Classical.byContradiction; intro g
        rw [if_pos (by omega)] at hi; omega
      rw [if_neg (by omega)] at hi
      obtain ⟨v2, val2, e3, h3, _⟩ := zX12_isAnswer K (by omega) h hR hq hQ ho hp hi hc0 h1
      left
      refine ⟨v2, ⟨val2, h3⟩, ?_⟩
      show fX12_answersOf_11 K now row (nI q) (k + 1) (nI (if zqc s q = 0 then 0 else 8 ^ zqc s q)) (nI (zcnt (zqP R s q) i)) (nI i) v place' (nI (zqc s q)) = _
      rw [if_neg (by omega), fX12_answersOf_11, if_neg (by rw [zi_le (by omega) (by omega)]; omega), e3, Option.bind_some]
      unfold fX12_answersOf_33
      rw [zcnt_s]
      cases zqP R s q i
      · rw [if_pos (show bI false = 0 from rfl), show (1 : Int32) = nI 1 from rfl, show (0 : Int32) = nI 0 from rfl, zi_add, zi_add]; rfl
      · rw [if_neg (show ¬ bI true = 0 by decide), show (1 : Int32) = nI 1 from rfl, zi_add, zi_add]; rfl)
    (by
      intro k v hinv
      obtain ⟨val', h1⟩ := hinv
      refine ⟨_, ⟨v, val', rfl, h1⟩, ?_⟩
      have hlt : (if zqc s q = 0 then 0 else 8 ^ zqc s q) ≤ 4096 := by split <;> omega
      have heq := zqP_cnt R s q
      show fX12_answersOf_11 K now row (nI q) (k + 1) (nI (if zqc s q = 0 then 0 else 8 ^ zqc s q)) (nI (zcnt (zqP R s q) (if zqc s q = 0 then 0 else 8 ^ zqc s q))) (nI (if zqc s q = 0 then 0 else 8 ^ zqc s q)) v place' (nI (zqc s q)) = _
      rw [heq]
      generalize (if zqc s q = 0 then 0 else 8 ^ zqc s q) = M at *
      rw [fX12_answersOf_11, if_pos (by rw [zi_le (by omega) (by omega)]; omega)])
    _ K 0 value (Nat.zero_add _) ⟨val, hval⟩ (by split <;> omega)
  refine ⟨v', val', place', nI (zqc s q), ?_, hr2⟩
  rw [hr] at e2; exact e2
