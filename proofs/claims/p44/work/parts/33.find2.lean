def z0 : Nat → Nat := fun _ => 0
/-- the answers of atoms whose variables have c places -/
def zans (R : Nat → Nat → Bool) (A : Nat → zA) (n : Nat) (pl : Nat → Nat) (c y : Nat) : Bool := decide (0 < c) && decide (y < 8 ^ c) && zfa R A n (zext pl c 0 z0 y)
def zlq (R : Nat → Nat → Bool) (A : Nat → zA) (n : Nat) (pl : Nat → Nat) (c : Nat) : List (Nat × (Nat → Nat)) := if c = 0 then [] else zgen (fun y => zfa R A n (zext pl c 0 z0 y)) (fun y => (0 + y, zcut (zext pl c 0 z0 y))) (8 ^ c)
def zlp (R : Nat → Nat → Bool) (A : Nat → zA) (n : Nat) (pl : Nat → Nat) (c : Nat) : Nat := if c = 0 then 0 else (zS R A n pl c 0 z0 0).2
/-- rows have nothing where their table has no column -/
def zRin (R : Nat → Nat → Bool) (A : Nat → zA) (n : Nat) : Prop := ∀ i, i < n → ∀ k, k < 512 → R (A i).1 k = true → zin (A i).2.1 k
/-- all variables have places -/
def zVp (A : Nat → zA) (n : Nat) (pl : Nat → Nat) (c : Nat) : Prop := ∀ i, i < n → ∀ v, zaH (A i) v = true → ∃ j, j < c ∧ pl j = v
theorem zVp_of {A : Nat → zA} {N : Nat → Bool} {n o : Nat} (ho : zOr o) (hA : ∀ i, i < n → zaOK (A i)) : zVp (zfA A N n) (zcnt (fun q => !N q) n) (zpl o (zLV A N false n) 4) (zpc o (zLV A N false n) 4) := by
  intro k hk v hv
  obtain ⟨i, h1, h2, h3⟩ := zfA_of n k hk
  rw [h3] at hv
  have ha := hA i h1
  have hv4 : v < 4 := by
    obtain ⟨c, hc, e⟩ := (zaH_iff ha).mp hv
    rw [← e]; exact zaV_lt ha (by have := ha.2.2.1; omega)
  have hb : (zLV A N false n).testBit v = true := by
    rw [zLV_bit hv4 hA, zany_iff]
    exact ⟨i, h1, by rw [h2, hv]; rfl⟩
  obtain ⟨q, hq, e⟩ := zOr_onto ho hv4
  have := zpl_to o (zLV A N false n) 4 q hq (by rw [e]; exact hb)
  exact ⟨_, this.1, by rw [this.2, e]⟩
theorem zsearch (K : Nat) (hK : 8 < K) (w : Nat → Int64) {n : Nat} {A : Nat → zA} {pl : Nat → Nat} {c : Nat} {r : zR13} (hs : zSta n A pl c r) (hR : zRin (zw w) A n) (hV : zVp A n pl c) :
    ∃ T m, zreach (zstep K r.1 (nI n) r.2.2.1 r.2.2.2.1 (nI c) w) m (zlq (zw w) A n pl c) (zst r) T ∧ T.2.2.2.2.1 < 0 ∧ m < 100000 ∧ T.2.2.2.2.2.1 = nI (zlp (zw w) A n pl c) := by
  obtain ⟨h1, h2, h3, h4, h5, h6⟩ := hs
  by_cases hc : c = 0
  · refine ⟨zst r, 0, ⟨if_pos hc, rfl⟩, by rw [h5 hc]; decide, by omega, ?_⟩
    rw [h4]; unfold zlp; rw [if_pos hc]
  · have hD := h6 (by omega)
    obtain ⟨T, hz, p1, p2, p3, p4⟩ := zrun K hK h2 w c 0 (by omega) (by omega) (fun _ => 0) 0 (zst r) hD (fun _ _ _ => rfl)
    have hn := h2.1.1
    have hA : ∀ i, i < n → zaOK (A i) := fun i hi => (h2.1.2 i hi).1
    have hl := zS_list (zw w) A n pl c hn hA hR (fun j hj => ⟨(h2.2.2.1 j hj).2.1, (h2.2.2.1 j hj).2.2.2⟩) h2.2.2.2 hV c 0 (fun _ => 0) 0 (by omega) (fun i hi => by omega) (fun _ _ _ => rfl) (by
      intro i hi hv
      exfalso
      have ha := hA i hi
      have := hv (zaV (A i) 0) ((zaH_iff ha).mpr ⟨0, ha.2.1, rfl⟩)
      simp at this)
    have hcnt := zS_cnt (zw w) A n hn pl c (fun j hj => (h2.2.2.1 j hj).2.2.2) c 0 (fun _ => 0) 0 (by omega)
    have hb := zSb_le c h2.2.1
    rw [hl] at hz
    refine ⟨T, (zS (zw w) A n pl c 0 (fun _ => 0) 0).2, ?_, ?_, ?_, ?_⟩
    · unfold zlq; rw [if_neg hc]
      have : (fun y => (0 * 8 ^ c + y, zcut (zext pl c 0 (fun _ => 0) y))) = fun y => (0 + y, zcut (zext pl c 0 z0 y)) := by funext y; rw [Nat.zero_mul]; rfl
      rw [this] at hz
      exact hz
    · rw [p1]; decide
    · omega
    · rw [p4, h4, nI_add, Nat.zero_add]; unfold zlp; rw [if_neg hc]; rfl
theorem zlq_len (R : Nat → Nat → Bool) (A : Nat → zA) (n : Nat) (pl : Nat → Nat) (c : Nat) : (zlq R A n pl c).length = zcnt (zans R A n pl c) (8 ^ c) := by
  unfold zlq
  by_cases hc : c = 0
  · rw [if_pos hc, hc]
    show 0 = zcnt _ 1
    rw [zcnt_s, zcnt_0]; rfl
  · rw [if_neg hc, zgen_len]
    apply zcnt_cong
    intro y hy
    unfold zans
    rw [decide_eq_true (by omega), decide_eq_true hy]; rfl
theorem zlq_mem (R : Nat → Nat → Bool) (A : Nat → zA) (n : Nat) (pl : Nat → Nat) (c y : Nat) : zmem (zlq R A n pl c) y = zans R A n pl c y := by
  unfold zlq zans
  by_cases hc : c = 0
  · rw [if_pos hc, decide_eq_false (by omega)]; rfl
  · rw [if_neg hc, zmem_gen, decide_eq_true (by omega), Bool.true_and]
    rw [Bool.eq_iff_iff, zany_iff]
    constructor
    · rintro ⟨i, hi, h⟩
      simp only [Bool.and_eq_true, decide_eq_true_eq] at h
      have : i = y := by omega
      subst this
      rw [decide_eq_true hi, h.1]; rfl
    · intro h
      simp only [Bool.and_eq_true, decide_eq_true_eq] at h
      exact ⟨y, h.1, by rw [h.2]; simp⟩
theorem zp8 {c : Nat} (hc : c ≤ 4) : 8 ^ c ≤ 4096 := by
  have : 8 ^ c ≤ 8 ^ 4 := Nat.pow_le_pow_right (by decide) hc
  simpa using this
/-- the answers that were found -/
def zFd (R : Nat → Nat → Bool) (A : Nat → zA) (n : Nat) (pl : Nat → Nat) (c : Nat) (r : zR15) : Prop :=
  c ≤ 4 ∧ (∀ m, m < c → r.2.2.1 m = nI (pl m) ∧ pl m < 4) ∧ r.2.2.2.2.2.2.2.2.1 = nI c ∧ r.2.2.2.2.2.2.2.2.2.2.1 = nI (zlp R A n pl c) ∧ (∀ y, y < 4096 → zkb r.2.2.2.2.2.2.2.2.2.2.2.2.2.1 y = zans R A n pl c y) ∧ r.2.2.2.2.2.2.2.2.2.2.2.2.2.2 = nI (zcnt (zans R A n pl c) 4096)
theorem zans_4096 (R : Nat → Nat → Bool) (A : Nat → zA) (n : Nat) (pl : Nat → Nat) {c : Nat} (hc : c ≤ 4) : zcnt (zans R A n pl c) 4096 = zcnt (zans R A n pl c) (8 ^ c) := by
  apply zcnt_flat (zp8 hc)
  intro i h1 h2
  unfold zans
  rw [decide_eq_false (by omega : ¬ i < 8 ^ c)]; simp
theorem zX0_find (K : Nat) (hK : 1000000 < K) {o : Nat} (ho : zOr o) {c1 : Nat → Int32} {n : Nat} {A : Nat → zA} {N : Nat → Bool} (hL : zL c1 n A N) (hN : ∀ i, i < n → N i = false) (w : Nat → Int64) (hR : zRin (zw w) A n)
    (c0 : Nat → Int32) (n0 : Int32) (seq ask re te tu ke : Nat → Int32) (tot dep leap ch ky : Int32) (W : Nat → Int64) (t : Int32) :
    ∃ r : zR15, fX0_find K c1 (nI n) (nI o) w c0 n0 seq ask re te tu ke tot dep leap ch ky W t = some r ∧ zFd (zw w) A n (zpl o (zLV A N false n) 4) (zpc o (zLV A N false n) 4) r := by
  obtain ⟨W0, eW, hW⟩ := zJ7_fillL K 64 (by omega) (by omega) 0 W
  obtain ⟨r, hr, er⟩ := zX8_start K (by omega) ho hL c0 n0 seq ask re te tu ke tot dep leap ch ky
  obtain ⟨f1, f2⟩ := zfA_all (A := A) n hN
  have hV := zVp_of (N := N) ho (fun i hi => (hL.2 i hi).1)
  rw [f1, f2] at hr hV
  generalize zpl o (zLV A N false n) 4 = pl at *
  have hc4 : zpc o (zLV A N false n) 4 ≤ 4 := hr.2.1.2.1
  generalize zpc o (zLV A N false n) 4 = c at *
  obtain ⟨T, m, hz, hT, hm, hl⟩ := zsearch K (by omega) w hr hR hV
  have hlen := zlq_len (zw w) A n pl c
  have hle := zcnt_le (zans (zw w) A n pl c) (8 ^ c)
  have h8 := zp8 hc4
  obtain ⟨W', q1, q2⟩ := zfind_run K hK c1 (nI n) (nI o) w r.1 (nI n) r.2.2.1 r.2.2.2.1 (nI c) T hT (zlq (zw w) A n pl c) K 0 (zst r) W0 0 m hz hm (by omega) (by omega) (by
    intro e he
    unfold zlq at he
    by_cases hc : c = 0
    · rw [if_pos hc] at he; exact absurd he (by simp)
    · rw [if_neg hc] at he
      obtain ⟨q, a1, a2, a3⟩ := zgen_mem he
      rw [a3]; show 0 + q < 4096; omega)
  refine ⟨(r.1, nI n, r.2.2.1, r.2.2.2.1, T.1, T.2.1, T.2.2.1, T.2.2.2.1, nI c, T.2.2.2.2.1, T.2.2.2.2.2.1, T.2.2.2.2.2.2.1, T.2.2.2.2.2.2.2, W', nI (0 + (zlq (zw w) A n pl c).length)), ?_, hc4, ?_, ?_, ?_, ?_, ?_⟩
  · unfold fX0_find
    rw [eW, Option.bind_some, er, Option.bind_some, hr.1, hr.2.2.1]
    exact q1
  · intro m hm
    exact ⟨(hr.2.1.2.2.1 m hm).1, (hr.2.1.2.2.1 m hm).2.1⟩
  · rfl
  · exact hl
  · intro y hy
    show zkb W' y = _
    rw [q2 y hy, zlq_mem]
    have : zkb W0 y = false := by unfold zkb; rw [hW, if_pos (by omega), zb_0]
    rw [this]; rfl
  · show nI (0 + (zlq (zw w) A n pl c).length) = _
    rw [Nat.zero_add, hlen, zans_4096 _ _ _ _ hc4]
