abbrev zR13 := (Nat → Int32) × Int32 × (Nat → Int32) × (Nat → Int32) × (Nat → Int32) × (Nat → Int32) × (Nat → Int32) × (Nat → Int32) × Int32 × Int32 × Int32 × Int32 × Int32
def zst (r : zR13) : zSt := (r.2.2.2.2.1, r.2.2.2.2.2.1, r.2.2.2.2.2.2.1, r.2.2.2.2.2.2.2.1, r.2.2.2.2.2.2.2.2.2.1, r.2.2.2.2.2.2.2.2.2.2.1, r.2.2.2.2.2.2.2.2.2.2.2.1, r.2.2.2.2.2.2.2.2.2.2.2.2)
/-- a search that has been started -/
def zSta (n : Nat) (A : Nat → zA) (pl : Nat → Nat) (tot : Nat) (r : zR13) : Prop :=
  r.2.1 = nI n ∧ zC r.1 n A (fun _ => false) r.2.2.1 r.2.2.2.1 pl tot ∧ r.2.2.2.2.2.2.2.2.1 = nI tot ∧ (zst r).2.2.2.2.2.1 = nI 0 ∧ (tot = 0 → (zst r).2.2.2.2.1 = -1) ∧ (0 < tot → zD n pl (zst r) 0 (fun _ => 0) 0 0 0 (n - 1))
theorem zch_0 : zch (fun _ => 0) = 0 := by rw [zch_def]
theorem zX8_start63 (K : Nat) (hK : 5 < K) (g1 : Nat → Int32) (g2 : Int32) {o : Nat} (ho : zOr o) {c0 : Nat → Int32} {n0 : Nat} {B : Nat → zA} (hL : zL c0 n0 B (fun _ => false)) (seq ask re te tu ke : Nat → Int32) (dep leap ch ky : Int32) :
    ∃ r, zSta n0 B (zpl o (zLV B (fun _ => false) false n0) 4) (zpc o (zLV B (fun _ => false) false n0) 4) r ∧ fX8_start_63 K g1 g2 (nI o) K (nI (zLV B (fun _ => false) false n0)) (nI 0) c0 (nI n0) seq ask re te tu ke (nI 0) dep leap ch ky = some r := by
  have hn := hL.1
  have hok : ∀ i, i < n0 → zaOK (B i) := fun i hi => (hL.2 i hi).1
  have hbits := zLV_lt (N := fun _ => false) (b := false) hok
  have hbit : ∀ v, v < 4 → (zLV B (fun _ => false) false n0).testBit v = true → ∃ i, i < n0 ∧ zaH (B i) v = true := by
    intro v hv hb
    rw [zLV_bit hv hok, zany_iff] at hb
    obtain ⟨i, hi, h⟩ := hb
    exact ⟨i, hi, by simpa using h⟩
  generalize zLV B (fun _ => false) false n0 = bits at *
  obtain ⟨r, hr, e⟩ := z_for (F := fun k j (s : (Nat → Int32) × (Nat → Int32) × Nat) => fX8_start_63 K g1 g2 (nI o) k (nI bits) (nI j) c0 (nI n0) s.1 s.2.1 re te tu ke (nI s.2.2) dep leap ch ky) (n := 4)
    (inv := fun j s => s.2.2 = zpc o bits j ∧ ∀ m, m < zpc o bits j → s.1 m = nI (zpl o bits j m) ∧ s.2.1 m = nI (zcnt (fun i => zaH (B i) (zpl o bits j m)) n0))
    (post := fun r => zSta n0 B (zpl o bits 4) (zpc o bits 4) r)
    (by
      intro k j s hj hinv
      obtain ⟨h1, h2⟩ := hinv
      left
      have hz := ho.2.1 j hj
      have hle := zpc_le o bits j
      have hz32 : zod o j % 32 = zod o j := by omega
      have ecnd : (nI bits &&& ((1 : Int32) <<< (nI (zod o j) &&& 31)) = 0) ↔ bits.testBit (zod o j) = false := by
        have e1 : (1 : Int32) <<< (nI (zod o j) &&& 31) = nI (2 ^ zod o j) := by
          rw [show (1 : Int32) = nI 1 from rfl, show (31 : Int32) = nI 31 from rfl, zi_and, zn_and31, hz32, zi_shlP _ (by omega), Nat.one_mul]
        rw [e1, zi_and, show (0 : Int32) = nI 0 from rfl, zi_eq (Nat.lt_of_le_of_lt Nat.and_le_left (by omega)) (by omega)]
        have : ∀ b : Fin 16, ∀ v : Fin 4, (b.val &&& 2 ^ v.val = 0 ↔ b.val.testBit v.val = false) := by decide +kernel
        exact this ⟨bits, hbits⟩ ⟨zod o j, hz⟩
      by_cases hb : bits.testBit (zod o j) = true
      · refine ⟨(upd s.1 (zpc o bits j) (nI (zod o j)), upd s.2.1 (zpc o bits j) (nI (zcnt (fun i => zaH (B i) (zod o j)) n0)), zpc o bits j + 1), ⟨?_, ?_⟩, ?_⟩
        · rw [zpc, hb]; rfl
        · intro m hm
          rw [zpc, hb] at hm
          simp only [Bool.toNat_true] at hm
          rw [zpl, if_pos hb, zq_at]
          show upd s.1 _ _ m = _ ∧ upd s.2.1 _ _ m = _
          rw [zu_at, zu_at]
          by_cases e : m = zpc o bits j
          · simp only [if_pos e]; exact ⟨trivial, trivial⟩
          · simp only [if_neg e]; exact h2 m (by omega)
        · show fX8_start_63 K g1 g2 (nI o) (k + 1) (nI bits) (nI j) c0 (nI n0) s.1 s.2.1 re te tu ke (nI s.2.2) dep leap ch ky = _
          have c4 : ¬ (4 : Int32) ≤ nI j := by rw [show (4 : Int32) = nI 4 from rfl, zi_le (by omega) (by omega)]; omega
          rw [fX8_start_63, if_neg c4, zX11_digitOf ho.1 hj, Option.bind_some, if_neg (fun q => by rw [ecnd.mp q] at hb; exact absurd hb (by decide)), h1, zX6_put _ _ (show zpc o bits j < 4 by omega) (by omega), Option.bind_some, zX2_standing K (by omega) hL hz, Option.bind_some, zX6_put _ _ (show zpc o bits j < 4 by omega) (by omega), Option.bind_some]
          unfold fX8_start_129
          rw [show (1 : Int32) = nI 1 from rfl, zi_add, zi_add]
      · refine ⟨s, ⟨?_, ?_⟩, ?_⟩
        · rw [zpc]
          rw [Bool.not_eq_true] at hb
          rw [hb]; exact h1
        · intro m hm
          rw [zpc] at hm
          rw [zpl, if_neg hb]
          rw [Bool.not_eq_true] at hb
          rw [hb] at hm
          exact h2 m (by simpa using hm)
        · show fX8_start_63 K g1 g2 (nI o) (k + 1) (nI bits) (nI j) c0 (nI n0) s.1 s.2.1 re te tu ke (nI s.2.2) dep leap ch ky = _
          have c4 : ¬ (4 : Int32) ≤ nI j := by rw [show (4 : Int32) = nI 4 from rfl, zi_le (by omega) (by omega)]; omega
          rw [Bool.not_eq_true] at hb
          rw [fX8_start_63, if_neg c4, zX11_digitOf ho.1 hj, Option.bind_some, if_pos (ecnd.mpr hb)]
          unfold fX8_start_129
          rw [show (1 : Int32) = nI 1 from rfl, zi_add])
    (by
      intro k s hinv
      obtain ⟨h1, h2⟩ := hinv
      have hle := zpc_le o bits 4
      have hzC : zC c0 n0 B (fun _ => false) s.1 s.2.1 (zpl o bits 4) (zpc o bits 4) := by
        refine ⟨hL, hle, ?_, fun i j hij hj => zpl_dist ho hij hj⟩
        intro m hm
        obtain ⟨q, a1, a2, a3, a4⟩ := zpl_in o bits 4 m hm
        have hz := ho.2.1 q a1
        refine ⟨(h2 m hm).1, by rw [a2]; exact hz, (h2 m hm).2, ?_⟩
        rw [a2]; exact hbit _ hz a3
      have c4 : (4 : Int32) ≤ nI 4 := by decide
      show ∃ r, _ ∧ fX8_start_63 K g1 g2 (nI o) (k + 1) (nI bits) (nI 4) c0 (nI n0) s.1 s.2.1 re te tu ke (nI s.2.2) dep leap ch ky = some r
      rw [fX8_start_63, if_pos c4, h1]
      by_cases h0 : zpc o bits 4 = 0
      · rw [if_pos (by rw [h0]; decide)]
        refine ⟨_, ⟨rfl, hzC, rfl, rfl, fun _ => rfl, fun h => by omega⟩, rfl⟩
      · rw [if_neg (by rw [show (0 : Int32) = nI 0 from rfl, zi_le (by omega) (by omega)]; omega)]
        have hbeg : fX8_beginVariable (0 : Int32) re te tu ke (-1) = some (upd re 0 (nI 0), upd te 0 (nI 0), upd tu 0 (-1), upd ke 0 (nI 0), nI 0) := by
          unfold fX8_beginVariable
          have e1 : (-1 : Int32) + (1 : Int32) = nI 0 := by decide
          rw [e1, zX6_put _ _ (show 0 < 4 by omega) (by omega), Option.bind_some, zX6_put _ _ (show 0 < 4 by omega) (by omega), Option.bind_some, zX6_put _ _ (show 0 < 4 by omega) (by omega), Option.bind_some, zX6_put _ _ (show 0 < 4 by omega) (by omega), Option.bind_some]
          rfl
        rw [hbeg, Option.bind_some]
        obtain ⟨q, a1, a2, a3, a4⟩ := zpl_in o bits 4 0 (by omega)
        obtain ⟨i0, hi0, _⟩ := hbit _ (ho.2.1 q a1) a3
        refine ⟨_, ⟨rfl, hzC, rfl, rfl, fun h => absurd h h0, fun _ => ?_⟩, rfl⟩
        refine ⟨rfl, (show upd re 0 (nI 0) 0 = nI 0 from zu_same _ _ _), (show upd te 0 (nI 0) 0 = nI 0 from zu_same _ _ _), Or.inr ⟨(show upd tu 0 (-1) 0 = -1 from zu_same _ _ _), rfl⟩, by omega, (show upd ke 0 (nI 0) 0 = nI 0 from zu_same _ _ _), fun _ => 0, fun v _ => Or.inl rfl, ?_, ?_⟩
        · rw [zch_0]; rfl
        · intro v _; show (if v = _ then 0 else 0) = 0; split <;> rfl)
    4 K 0 (seq, ask, 0) (by omega) ⟨rfl, fun m hm => absurd hm (Nat.not_lt_zero _)⟩ (by omega)
  exact ⟨r, hr, e⟩
theorem zX8_start (K : Nat) (hK : 5 < K) {o : Nat} (ho : zOr o) {c1 : Nat → Int32} {n : Nat} {A : Nat → zA} {N : Nat → Bool} (hL : zL c1 n A N) (c0 : Nat → Int32) (n0 : Int32) (seq ask re te tu ke : Nat → Int32) (tot dep leap ch ky : Int32) :
    ∃ r, zSta (zcnt (fun q => !N q) n) (zfA A N n) (zpl o (zLV A N false n) 4) (zpc o (zLV A N false n) 4) r ∧ fX8_start K c1 (nI n) (nI o) c0 n0 seq ask re te tu ke tot dep leap ch ky = some r := by
  have hn := hL.1
  obtain ⟨r, hr, e⟩ := z_for (F := fun k i (s : (Nat → Int32) × Nat) => fX8_start_9 K c1 (nI n) (nI o) k (nI i) s.1 (nI s.2) seq ask re te tu ke tot dep leap ch ky) (n := n)
    (inv := fun i s => s.2 = zcnt (fun q => !N q) i ∧ zL s.1 s.2 (zfA A N i) (fun _ => false))
    (post := fun r => zSta (zcnt (fun q => !N q) n) (zfA A N n) (zpl o (zLV A N false n) 4) (zpc o (zLV A N false n) 4) r)
    (by
      intro k i s hi hinv
      obtain ⟨h1, h2⟩ := hinv
      left
      have ha := (hL.2 i hi).1
      have hcl := zcnt_le (fun q => !N q) i
      have c4 : ¬ nI n ≤ nI i := by rw [zi_le (by omega) (by omega)]; omega
      cases hN : N i
      · obtain ⟨e1, e2⟩ := zX2_add h2 (show s.2 < 5 by omega) (a := A i) (b := false) ha
        refine ⟨(upd s.1 s.2 (nI (zaC (A i) false)), s.2 + 1), ⟨?_, ?_⟩, ?_⟩
        · show s.2 + 1 = _
          rw [zcnt_s, hN, h1]; rfl
        · show zL _ (s.2 + 1) _ _
          have ez : zfA A N (i + 1) = zup (zfA A N i) s.2 (A i) := by rw [zfA, hN, if_neg (by decide), h1]
          have ef : zup (fun _ : Nat => false) s.2 false = fun _ => false := by funext q; rw [zq_at]; split <;> rfl
          rw [ez, ← ef]; exact e2
        · show fX8_start_9 K c1 (nI n) (nI o) (k + 1) (nI i) s.1 (nI s.2) seq ask re te tu ke tot dep leap ch ky = _
          rw [fX8_start_9, if_neg c4, zX2_at hL hi, Option.bind_some, zX1_isNot ha, Option.bind_some, hN, if_pos (show bI false = 0 from rfl), Option.bind_some, e1, Option.bind_some]
          unfold fX8_start_40
          rw [show (1 : Int32) = nI 1 from rfl, zi_add]
      · refine ⟨s, ⟨?_, ?_⟩, ?_⟩
        · rw [zcnt_s, hN, h1]; rfl
        · rw [zfA, hN, if_pos rfl]; exact h2
        · show fX8_start_9 K c1 (nI n) (nI o) (k + 1) (nI i) s.1 (nI s.2) seq ask re te tu ke tot dep leap ch ky = _
          rw [fX8_start_9, if_neg c4, zX2_at hL hi, Option.bind_some, zX1_isNot ha, Option.bind_some, hN, if_neg (show ¬ bI true = 0 by decide)]
          unfold fX8_start_40
          rw [show (1 : Int32) = nI 1 from rfl, zi_add])
    (by
      intro k s hinv
      obtain ⟨h1, h2⟩ := hinv
      show ∃ r, _ ∧ fX8_start_9 K c1 (nI n) (nI o) (k + 1) (nI n) s.1 (nI s.2) seq ask re te tu ke tot dep leap ch ky = some r
      rw [fX8_start_9, if_pos (by rw [zi_le (by omega) (by omega)]; omega), show (0 : Int32) = bI false from rfl, zX2_variables K (by omega) h2 false, Option.bind_some]
      have := zX8_start63 K hK c1 (nI n) ho h2 seq ask re te tu ke dep leap ch ky
      rw [h1, zfA_V A N n] at this
      rw [h1, zfA_V A N n]
      exact this)
    n K 0 (c0, 0) (by omega) ⟨rfl, by omega, fun i hi => absurd hi (Nat.not_lt_zero _)⟩ (by omega)
  refine ⟨r, hr, ?_⟩
  unfold fX8_start fX2_clear
  rw [Option.bind_some]
  exact e
