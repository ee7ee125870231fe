/-! the reference's small functions -/
theorem z_forE {σ ρ : Type} {F : Nat → Nat → σ → Option ρ} {n : Nat} {inv : Nat → σ → Prop} {V : Option ρ}
    (step : ∀ k i s, i < n → inv i s → (∃ s', inv (i + 1) s' ∧ F (k + 1) i s = F k (i + 1) s') ∨ F (k + 1) i s = V)
    (done : ∀ k s, inv n s → F (k + 1) n s = V) :
    ∀ d K i s, i + d = n → inv i s → n < K + i → F K i s = V := by
  intro d
  induction d with
  | zero =>
    intro K i s hi hv hK
    obtain ⟨k, rfl⟩ : ∃ k, K = k + 1 := ⟨K - 1, by omega⟩
    have : i = n := by omega
    subst this
    exact done k s hv
  | succ d ih =>
    intro K i s hi hv hK
    obtain ⟨k, rfl⟩ : ∃ k, K = k + 1 := ⟨K - 1, by omega⟩
    rcases step k i s (by omega) hv with ⟨s', hs, e⟩ | h
    · exact e.trans (ih k (i + 1) s' (by omega) hs (by omega))
    · exact h
def zall (p : Nat → Bool) : Nat → Bool
  | 0 => true
  | n + 1 => zall p n && p n
theorem zall_iff {p : Nat → Bool} : ∀ {n : Nat}, zall p n = true ↔ ∀ i, i < n → p i = true
  | 0 => by simp [zall]
  | n + 1 => by
    rw [zall, Bool.and_eq_true, zall_iff]
    constructor
    · rintro ⟨h1, h2⟩ i hi
      rcases Nat.lt_or_ge i n with h | h
      · exact h1 i h
      · have : i = n := by omega
        subst this; exact h2
    · intro h; exact ⟨fun i hi => h i (by omega), h n (by omega)⟩
theorem zall_cong {p q : Nat → Bool} {n : Nat} (h : ∀ i, i < n → p i = q i) : zall p n = zall q n := by
  rw [Bool.eq_iff_iff, zall_iff, zall_iff]
  exact ⟨fun g i hi => by rw [← h i hi]; exact g i hi, fun g i hi => by rw [h i hi]; exact g i hi⟩
theorem zany_cong {p q : Nat → Bool} {n : Nat} (h : ∀ i, i < n → p i = q i) : zany p n = zany q n := by
  rw [Bool.eq_iff_iff, zany_iff, zany_iff]
  exact ⟨fun ⟨i, hi, g⟩ => ⟨i, hi, by rw [← h i hi]; exact g⟩, fun ⟨i, hi, g⟩ => ⟨i, hi, by rw [h i hi]; exact g⟩⟩
/-- what is told, as numbers -/
def zM (now : Nat → Int32) (s : Nat → Nat) : Prop := ∀ i, i < 2780 → now i = nI (s i) ∧ s i < 10000
/-- the rows -/
def zMr (row : Nat → Int32) (R : Nat → Nat → Bool) : Prop := ∀ t k, t < 5 → k < 512 → row (512 * t + k) = bI (R t k)
/-- values of the variables -/
def zMv (value : Nat → Int32) (val : Nat → Nat) : Prop := ∀ v, v < 4 → value v = nI (val v) ∧ val v < 8
def zat (s : Nat → Nat) (p : Nat) : zA := (s p, s (1 + s p), s (p + 1), s (p + 2), s (p + 3))
theorem zat_V (s : Nat → Nat) (p k : Nat) (hk : k < 3) : zaV (zat s p) k = s (p + 1 + k) := by
  have : k = 0 ∨ k = 1 ∨ k = 2 := by omega
  rcases this with e | e | e <;> subst e <;> rfl
theorem zX12_columnsOf {now : Nat → Int32} {s : Nat → Nat} (h : zM now s) {t : Nat} (ht : t < 5) : fX12_columnsOf now (nI t) = some (nI (s (1 + t))) := by
  simp (disch := omega) only [fX12_columnsOf, zi_lit, zi_add, zi_inB, zi_clamp, (h (1 + t) (by omega)).1]
  rw [if_pos (by omega)]
theorem zX12_variables (K : Nat) (hK : 3 < K) {now : Nat → Int32} {s : Nat → Nat} (h : zM now s) {p : Nat} (hp : p + 3 < 2780) (ha : zaOK (zat s p)) : fX12_variables K now (nI p) = some (nI (zaS (zat s p))) := by
  unfold fX12_variables
  have ht : s p < 5 := ha.1
  have hw : s (1 + s p) ≤ 3 := ha.2.2.1
  have hw1 : 1 ≤ s (1 + s p) := ha.2.1
  refine z_forE (F := fun k i (q : Nat) => fX12_variables_4 K now (nI p) k (nI q) (nI i)) (n := s (1 + s p)) (inv := fun i q => q = zsum (fun _ => 0) i + (if 0 < i then 2 ^ s (p + 1) else 0) ||| (if 1 < i then 2 ^ s (p + 2) else 0) ||| (if 2 < i then 2 ^ s (p + 3) else 0)) (V := some (nI (zaS (zat s p)))) ?_ ?_ (s (1 + s p)) K 0 0 (by omega) (by simp [zsum]) (by omega)
  · intro k i q hi hq
    left
    refine ⟨_, rfl, ?_⟩
    have hv : s (p + 1 + i) < 4 := by rw [← zat_V s p i (by omega)]; exact zaV_lt ha (by omega)
    have hs : s (p + 1 + i) % 32 = s (p + 1 + i) := by omega
    simp (disch := omega) only [fX12_variables_4, zi_lit, zi_add, zi_inB, zi_clamp, (h p (by omega)).1, zX12_columnsOf h ht, Option.bind_some, zi_le, (h (p + 1 + i) (by omega)).1, zi_and, zn_and31, hs, zi_shlP, zi_or, Nat.one_mul]
    rw [if_pos (by omega), if_neg (by omega), if_pos (by omega), hq]
    congr 1
    have : i = 0 ∨ i = 1 ∨ i = 2 := by omega
    rcases this with e | e | e <;> subst e <;> simp [zsum]
  · intro k q hq
    simp (disch := omega) only [fX12_variables_4, zi_lit, zi_add, zi_inB, zi_clamp, (h p (by omega)).1, zX12_columnsOf h ht, Option.bind_some, zi_le]
    rw [if_pos (by omega), if_pos (by omega), hq]
    unfold zaS zat
    simp only [zsum_0, Nat.zero_add]
    rw [if_pos (by omega)]
theorem zor_add {a b k : Nat} (h : b < 2 ^ k) : 2 ^ k * a ||| b = 2 ^ k * a + b := (Nat.two_pow_add_eq_or_of_lt h a).symm
theorem zX12_codeBy (K : Nat) (hK : 3 < K) {now : Nat → Int32} {s : Nat → Nat} (h : zM now s) {value : Nat → Int32} {val : Nat → Nat} (hval : zMv value val) {p : Nat} (hp : p + 3 < 2780) (ha : zaOK (zat s p)) : fX12_codeBy K now value (nI p) = some (nI (zaR (zat s p) val)) := by
  unfold fX12_codeBy
  have ht : s p < 5 := ha.1
  have hw : s (1 + s p) ≤ 3 := ha.2.2.1
  have hw1 : 1 ≤ s (1 + s p) := ha.2.1
  refine z_forE (F := fun k i (q : Nat) => fX12_codeBy_4 K now value (nI p) k (nI q) (nI i)) (n := s (1 + s p)) (inv := fun i q => q = (if 0 < i then 64 * val (s (p + 1)) else 0) + (if 1 < i then 8 * val (s (p + 2)) else 0) + (if 2 < i then val (s (p + 3)) else 0)) (V := some (nI (zaR (zat s p) val))) ?_ ?_ (s (1 + s p)) K 0 0 (by omega) (by simp) (by omega)
  · intro k i q hi hq
    left
    refine ⟨_, rfl, ?_⟩
    have hv : s (p + 1 + i) < 4 := by rw [← zat_V s p i (by omega)]; exact zaV_lt ha (by omega)
    have h8 := (hval _ hv).2
    have hs : (6 - 3 * i) % 32 = 6 - 3 * i := by omega
    simp (disch := omega) only [fX12_codeBy_4, zi_lit, zi_add, zi_mul, zi_sub, zi_inB, zi_clamp, (h p (by omega)).1, zX12_columnsOf h ht, Option.bind_some, zi_le, (h (p + 1 + i) (by omega)).1, (hval _ hv).1, zi_and, zn_and31, hs, zi_shlP, zi_or]
    rw [if_pos (by omega), if_neg (by omega), if_pos (by omega), if_pos (by omega), hq]
    congr 1
    have : i = 0 ∨ i = 1 ∨ i = 2 := by omega
    rcases this with e | e | e <;> subst e
    · simp
      rw [Nat.mul_comm]
    · simp only [Nat.reduceMul, Nat.reduceSub, Nat.reducePow, Nat.reduceAdd, Nat.reduceLT, if_true, if_false, Nat.add_zero] at h8 ⊢
      have := zor_add (a := val (s (p + 1))) (b := val (s (p + 1 + 1)) * 8) (k := 6) (by omega)
      simp only [Nat.reducePow] at this
      rw [this, show p + 1 + 1 = p + 2 from rfl, Nat.mul_comm (val (s (p + 2)))]
    · simp only [Nat.reduceMul, Nat.reduceSub, Nat.reducePow, Nat.reduceAdd, Nat.reduceLT, if_true, if_false, Nat.add_zero] at h8 ⊢
      have := zor_add (a := 8 * val (s (p + 1)) + val (s (p + 2))) (b := val (s (p + 1 + 2))) (k := 3) (by omega)
      simp only [Nat.reducePow] at this
      rw [show 64 * val (s (p + 1)) + 8 * val (s (p + 2)) = 8 * (8 * val (s (p + 1)) + val (s (p + 2))) by omega, Nat.mul_one, this]
  · intro k q hq
    simp (disch := omega) only [fX12_codeBy_4, zi_lit, zi_add, zi_inB, zi_clamp, (h p (by omega)).1, zX12_columnsOf h ht, Option.bind_some, zi_le]
    rw [if_pos (by omega), if_pos (by omega), hq]
    unfold zaR zat
    simp only
    rw [if_pos (by omega)]
theorem zaR_lt {a : zA} (d : Nat → Nat) (hd : ∀ v, v < 4 → d v < 8) (ha : zaOK a) : zaR a d < 512 := by
  obtain ⟨h2, h3, h4, h5, h6, h7⟩ := ha
  unfold zaR
  have := hd _ h5; have := hd _ h6; have := hd _ h7
  split <;> split <;> omega
theorem zi_bB (b : Bool) : (if bI b = nI 0 then some false else if bI b = nI 1 then some true else none) = some b := by cases b <;> rfl
theorem zX12_fits (K : Nat) (hK : 3 < K) {now : Nat → Int32} {s : Nat → Nat} (h : zM now s) {row : Nat → Int32} {R : Nat → Nat → Bool} (hR : zMr row R) {value : Nat → Int32} {val : Nat → Nat} (hval : zMv value val) {p : Nat} (hp : p + 3 < 2780) (ha : zaOK (zat s p)) : fX12_fits K now row value (nI p) = some (R (s p) (zaR (zat s p) val)) := by
  have ht : s p < 5 := ha.1
  have hl := zaR_lt val (fun v hv => (hval v hv).2) ha
  simp (disch := omega) only [fX12_fits, zi_lit, zi_add, zi_mul, zi_inB, zi_clamp, (h p (by omega)).1, zX12_codeBy K hK h hval hp ha, Option.bind_some, hR _ _ ht hl, zi_bB]
  rw [if_pos (by omega), if_pos (by omega)]
