/-! the rows grown to their end, layer by layer -/
def zrnd (s : Nat → Nat) (M : Nat → Nat) (l : Nat) : Nat → Bool → (Nat → Nat → Bool) × Nat → (Nat → Nat → Bool) × Nat
  | 0, _, z => z
  | k + 1, b, z => if b = true then zrnd s M l k (znw z.1 s M l) (zstp z.1 s M l, z.2 + 1) else z
def zfacts (s : Nat → Nat) (t k : Nat) : Bool := decide (s (6 + 512 * t + k) = 1)
def zly (s : Nat → Nat) (M : Nat → Nat) : Nat → (Nat → Nat → Bool) × Nat
  | 0 => (zfacts s, 0)
  | l + 1 => zrnd s M l 2562 (zany (zwk s M l) (zrn s)) (zly s M l)
def zF0 (R : Nat → Nat → Bool) : Nat := zcnt (fun i => !R (i / 512) (i % 512)) 2560
theorem zF0_le (R : Nat → Nat → Bool) : zF0 R ≤ 2560 := zcnt_le _ _
theorem zF0_stp {R : Nat → Nat → Bool} {s : Nat → Nat} {M : Nat → Nat} {l : Nat} (h : znw R s M l = true) : zF0 (zstp R s M l) < zF0 R := by
  obtain ⟨t, k, ht, hk, g1, g2⟩ := (znw_iff R s M l).mp h
  apply zsum_lt (i := 512 * t + k)
  · intro i _
    have e : ∀ a b : Bool, (!(a || b)).toNat ≤ (!a).toNat := by decide
    exact e (R (i / 512) (i % 512)) (zgivs R s M l (i / 512) (i % 512) (zrn s))
  · omega
  · show (!zstp R s M l _ _).toNat < (!R _ _).toNat
    rw [show (512 * t + k) / 512 = t by omega, show (512 * t + k) % 512 = k by omega, g2]
    unfold zstp
    rw [g1, g2]; decide
theorem zrnd_cong {R R' : Nat → Nat → Bool} (h : zeqR R R') {s : Nat → Nat} (hs : zRul s) (M : Nat → Nat) (l : Nat) : ∀ n b c, zeqR (zrnd s M l n b (R, c)).1 (zrnd s M l n b (R', c)).1 ∧ (zrnd s M l n b (R, c)).2 = (zrnd s M l n b (R', c)).2 := by
  intro n
  induction n generalizing R R' with
  | zero => intro b c; exact ⟨h, rfl⟩
  | succ n ih =>
    intro b c
    rw [zrnd, zrnd]
    cases b
    · rw [if_neg (by decide), if_neg (by decide)]; exact ⟨h, rfl⟩
    · rw [if_pos rfl, if_pos rfl]
      dsimp only
      rw [znw_cong h hs M l]
      exact ih (zstp_cong h hs M l) _ _
theorem zX4_r57 (K : Nat) (hK : 1000000 < K) (fa : Nat → Int64) {heads : Nat → Int32} {bc : Nat → Nat → Int32} {bs : Nat → Int32} {rt : Int32} {s : Nat → Nat} (hs : zRul s) (hR : zRc heads bc bs rt s) (r42 : Int32 → zG20) {l : Nat} (hl : l < 1000) {g : Nat → Int32} {M : Nat → Nat} (hg : ∀ t, t < 5 → g t = nI (M t)) (hM : ∀ t, t < 5 → M t ≤ 4) (im : Int32) :
    ∀ n k b x4 c (w : Nat → Int64) (q : zR13) (fr : Nat → Int64) (re fi : Nat → Int32), (b = true → zF0 (zw w) + 2 ≤ n) → n < k → x4 + n ≤ 1000000 → zRz (zw w) s →
      ∃ q' w' fr' re' fi', zap (fX4_refresh_57 K fa heads bc bs rt r42 k (nI l) (bI b) (nI x4)) q w fr g re fi (nI c) im = zap (r42 (nI (l + 1))) q' w' fr' g re' fi' (nI (zrnd s M l n b (zw w, c)).2) im ∧ zeqR (zw w') (zrnd s M l n b (zw w, c)).1 ∧ zRz (zw w') s := by
  intro n
  have e1 : (1 : Int32) = nI 1 := rfl
  have stop : ∀ k x4 c (w : Nat → Int64) (q : zR13) (fr : Nat → Int64) (re fi : Nat → Int32), 0 < k → zap (fX4_refresh_57 K fa heads bc bs rt r42 k (nI l) (bI false) (nI x4)) q w fr g re fi (nI c) im = zap (r42 (nI (l + 1))) q w fr g re fi (nI c) im := by
    intro k x4 c w q fr re fi hk
    obtain ⟨k, rfl⟩ : ∃ z, k = z + 1 := ⟨k - 1, by omega⟩
    unfold zap
    rw [fX4_refresh_57, if_pos (show bI false = 0 from rfl)]
    unfold fX4_refresh_139
    rw [e1, zi_add]
  induction n with
  | zero =>
    intro k b x4 c w q fr re fi hb hk hx hz
    cases b
    · exact ⟨q, w, fr, re, fi, stop k x4 c w q fr re fi (by omega), fun _ _ _ _ => rfl, hz⟩
    · have := hb rfl; omega
  | succ n ih =>
    intro k b x4 c w q fr re fi hb hk hx hz
    cases b
    · exact ⟨q, w, fr, re, fi, stop k x4 c w q fr re fi (by omega), fun _ _ _ _ => rfl, hz⟩
    · obtain ⟨k, rfl⟩ : ∃ z, k = z + 1 := ⟨k - 1, by omega⟩
      obtain ⟨fr0, ef, hf0⟩ := zX7_clear K (by omega) fr
      obtain ⟨q1, w1, fr1, re1, fi1, e2, hw1⟩ := zX4_r88 K hK fa hs hR r42 (fX4_refresh_57 K fa heads bc bs rt r42 k) hl (nI x4) w hz hg hM (nI (c + 1)) im q fr0 hf0 re fi
      have hz1 : zRz (zw w1) s := by
        intro t ht k hk g
        rw [hw1 t k ht hk] at g
        exact zRz_stp hs hz M l t ht k hk g
      have hF : zF0 (zw w1) = zF0 (zstp (zw w) s M l) := by
        unfold zF0
        apply zcnt_cong
        intro i hi
        rw [hw1 _ _ (show i / 512 < 5 by omega) (Nat.mod_lt _ (by decide))]
      obtain ⟨q2, w2, fr2, re2, fi2, e3, h3, h4⟩ := ih k (znw (zw w) s M l) (x4 + 1) (c + 1) w1 q1 fr1 re1 fi1 (by
        intro hn
        have := zF0_stp hn
        have := hb rfl
        rw [hF]; omega) (by omega) (by omega) hz1
      have hcg := zrnd_cong hw1 hs M l n (znw (zw w) s M l) (c + 1)
      refine ⟨q2, w2, fr2, re2, fi2, ?_, ?_, h4⟩
      · have e4 : zap (fX4_refresh_57 K fa heads bc bs rt r42 (k + 1) (nI l) (bI true) (nI x4)) q w fr g re fi (nI c) im = zap (fX4_refresh_88 K fa heads bc bs rt r42 (fX4_refresh_57 K fa heads bc bs rt r42 k) K (nI l) (nI x4) (nI 0)) q w fr0 g re fi (nI (c + 1)) im := by
          unfold zap
          rw [fX4_refresh_57, if_neg (show ¬ bI true = 0 by decide), if_neg (by rw [show (1000000 : Int32) = nI 1000000 from rfl, zi_le (by omega) (by omega)]; omega), ef, Option.bind_some, e1, zi_add]
          rfl
        rw [e4, e2, e1, zi_add, e3, zrnd, if_pos rfl, hcg.2]
      · rw [zrnd, if_pos rfl]
        intro t k ht hk
        rw [h3 t k ht hk]
        exact hcg.1 t k ht hk
/-- the layers one behind another -/
theorem zX4_r42 (K : Nat) (hK : 1000000 < K) (fa : Nat → Int64) {heads : Nat → Int32} {bc : Nat → Nat → Int32} {bs : Nat → Int32} {rt : Int32} {s : Nat → Nat} (hs : zRul s) (hR : zRc heads bc bs rt s) {g : Nat → Int32} {M : Nat → Nat} (hg : ∀ t, t < 5 → g t = nI (M t)) (hM : ∀ t, t < 5 → M t ≤ 4) (im : Int32) (w : Nat → Int64) (hw : zeqR (zw w) (zfacts s)) (hz : zRz (zw w) s) (q : zR13) (fr : Nat → Int64) (re fi : Nat → Int32) :
    ∃ q' w' fr' re' fi' k, zap (fX4_refresh_42 K fa heads bc bs rt K (nI 0)) q w fr g re fi (nI 0) im = zap (fX4_refresh_42 K fa heads bc bs rt (k + 1) (nI 5)) q' w' fr' g re' fi' (nI (zly s M 5).2) im ∧ zeqR (zw w') (zly s M 5).1 ∧ zRz (zw w') s := by
  have hrn := hs.1
  obtain ⟨⟨q', w', fr', re', fi', k'⟩, ⟨h1, h2⟩, e⟩ := z_forD (F := fun k l (z : zR13 × (Nat → Int64) × (Nat → Int64) × (Nat → Int32) × (Nat → Int32) × Nat) => zap (fX4_refresh_42 K fa heads bc bs rt k (nI l)) z.1 z.2.1 z.2.2.1 g z.2.2.2.1 z.2.2.2.2.1 (nI (zly s M l).2) im) (n := 5)
    (inv := fun l z => zeqR (zw z.2.1) (zly s M l).1 ∧ zRz (zw z.2.1) s)
    (D := fun z => zap (fX4_refresh_42 K fa heads bc bs rt 1 (nI 5)) z.1 z.2.1 z.2.2.1 g z.2.2.2.1 z.2.2.2.2.1 (nI (zly s M 5).2) im)
    (by
      intro k l z hl hinv
      obtain ⟨i1, i2⟩ := hinv
      have hwk := zX4_hasWork K (by omega) hs hR hg hM (show l < 1000 by omega)
      obtain ⟨q1, w1, fr1, re1, fi1, e1, h1, h2⟩ := zX4_r57 K hK fa hs hR (fX4_refresh_42 K fa heads bc bs rt k) (show l < 1000 by omega) hg hM im 2562 K (zany (zwk s M l) (zrn s)) 0 (zly s M l).2 z.2.1 z.1 z.2.2.1 z.2.2.2.1 z.2.2.2.2.1 (fun _ => by have := zF0_le (zw z.2.1); omega) (by omega) (by omega) i2
      have hcg := zrnd_cong i1 hs M l 2562 (zany (zwk s M l) (zrn s)) (zly s M l).2
      refine ⟨(q1, w1, fr1, re1, fi1, 0), ⟨?_, h2⟩, ?_⟩
      · intro t k ht hk
        show zw w1 t k = _
        rw [h1 t k ht hk]
        exact hcg.1 t k ht hk
      · have e2 : zap (fX4_refresh_42 K fa heads bc bs rt (k + 1) (nI l)) z.1 z.2.1 z.2.2.1 g z.2.2.2.1 z.2.2.2.2.1 (nI (zly s M l).2) im = zap (fX4_refresh_57 K fa heads bc bs rt (fX4_refresh_42 K fa heads bc bs rt k) K (nI l) (bI (zany (zwk s M l) (zrn s))) (nI 0)) z.1 z.2.1 z.2.2.1 g z.2.2.2.1 z.2.2.2.2.1 (nI (zly s M l).2) im := by
          unfold zap
          rw [fX4_refresh_42, if_neg (by rw [show (5 : Int32) = nI 5 from rfl, zi_le (by omega) (by omega)]; omega), hwk, Option.bind_some]
          rfl
        show zap (fX4_refresh_42 K fa heads bc bs rt (k + 1) (nI l)) z.1 z.2.1 z.2.2.1 g z.2.2.2.1 z.2.2.2.2.1 (nI (zly s M l).2) im = _
        rw [e2, e1, hcg.2]
        rfl)
    (by
      intro k z hinv
      show zap (fX4_refresh_42 K fa heads bc bs rt (k + 1) (nI 5)) z.1 z.2.1 z.2.2.1 g z.2.2.2.1 z.2.2.2.2.1 (nI (zly s M 5).2) im = _
      unfold zap
      rw [fX4_refresh_42, fX4_refresh_42, if_pos (by decide), if_pos (by decide)])
    5 K 0 (q, w, fr, re, fi, 0) (by omega) ⟨hw, hz⟩ (by omega)
  exact ⟨q', w', fr', re', fi', 0, e, h1, h2⟩
