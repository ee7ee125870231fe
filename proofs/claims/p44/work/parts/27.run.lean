/-! the search as nested loops, and the run of the steps that gives it -/
def zIn {α : Type} (sub : Nat → List α × Nat) (T : Nat → Nat → Nat) (nx : Nat → Nat) (all : Nat) : Nat → Nat → Nat → Nat → List α × Nat
  | 0, _, _, _ => ([], 0)
  | k + 1, t, x, like =>
    if T (nx t) x = 8 then ([], 1)
    else if (if x < T (nx t) x then 1 else like + 1) < all then ((zIn sub T nx all k (nx t) (T (nx t) x) (if x < T (nx t) x then 1 else like + 1)).1, (zIn sub T nx all k (nx t) (T (nx t) x) (if x < T (nx t) x then 1 else like + 1)).2 + 1)
    else ((sub (T (nx t) x)).1 ++ (zIn sub T nx all k (nx t) (T (nx t) x + 1) 0).1, (sub (T (nx t) x)).2 + (zIn sub T nx all k (nx t) (T (nx t) x + 1) 0).2 + 1)
def zS (R : Nat → Nat → Bool) (A : Nat → zA) (n : Nat) (pl : Nat → Nat) : Nat → Nat → (Nat → Nat) → Nat → List (Nat × (Nat → Nat)) × Nat
  | 0, _, d, key => ([(key, zcut d)], 0)
  | m + 1, j, d, key => zIn (fun r => zS R A n pl m (j + 1) (zup d (pl j) (8 + r)) (8 * key + r)) (fun u x => zT R A d (pl j) u x) (znx (fun i => zaH (A i) (pl j)) n n) (zcnt (fun i => zaH (A i) (pl j)) n) 60 (n - 1) 0 0
theorem zcut_up (d : Nat → Nat) {p : Nat} (hp : p < 4) (x : Nat) : zcut (zup d p x) = zup (zcut d) p x := by
  funext v
  show (if v < 4 then zup d p x v else 0) = zup (zcut d) p x v
  rw [zq_at, zq_at]
  unfold zcut
  by_cases h : v = p
  · rw [if_pos h, if_pos h, if_pos (by omega)]
  · rw [if_neg h, if_neg h]
theorem nI_js (j : Nat) : nI (j + 1) - 1 = nI j := nI_pred j
def zpost (S T : zSt) (j : Nat) (d : Nat → Nat) (cnt : Nat) : Prop := T.2.2.2.2.1 = nI j - 1 ∧ zF S T j ∧ T.2.2.2.2.2.2.1 = nI (zch (zcut d)) ∧ T.2.2.2.2.2.1 = S.2.2.2.2.2.1 + nI cnt
theorem nI_ass (x : Int32) (a b : Nat) : x + nI a + nI b = x + nI (a + b) := by rw [Int32.add_assoc, nI_add]
theorem zrun_in (K : Nat) (hK : 8 < K) {cells : Nat → Int32} {n : Nat} {A : Nat → zA} {N : Nat → Bool} {seq ask : Nat → Int32} {pl : Nat → Nat} {c : Nat} (hC : zC cells n A N seq ask pl c) (w : Nat → Int64) {m j : Nat} (hjm : j + (m + 1) = c)
    (P : ∀ d key S, zD n pl S (j + 1) d key 0 0 (n - 1) → (∀ i, j + 1 ≤ i → i < c → d (pl i) = 0) → 1 ≤ m → ∃ T, zreach (zstep K cells (nI n) seq ask (nI c) w) (zS (zw w) A n pl m (j + 1) d key).2 (zS (zw w) A n pl m (j + 1) d key).1 S T ∧ zpost S T (j + 1) d (zS (zw w) A n pl m (j + 1) d key).2)
    {d : Nat → Nat} {key : Nat} (hd0 : ∀ i, j ≤ i → i < c → d (pl i) = 0) :
    ∀ k x like t S, zD n pl S j d key x like t → x ≤ 8 → like < zcnt (fun i => zaH (A i) (pl j)) n → 6 * (8 - x) + (zcnt (fun i => zaH (A i) (pl j)) n - like) < k →
      ∃ T, zreach (zstep K cells (nI n) seq ask (nI c) w) (zIn (fun r => zS (zw w) A n pl m (j + 1) (zup d (pl j) (8 + r)) (8 * key + r)) (fun u x => zT (zw w) A d (pl j) u x) (znx (fun i => zaH (A i) (pl j)) n n) (zcnt (fun i => zaH (A i) (pl j)) n) k t x like).2 (zIn (fun r => zS (zw w) A n pl m (j + 1) (zup d (pl j) (8 + r)) (8 * key + r)) (fun u x => zT (zw w) A d (pl j) u x) (znx (fun i => zaH (A i) (pl j)) n n) (zcnt (fun i => zaH (A i) (pl j)) n) k t x like).1 S T ∧
        zpost S T j d (zIn (fun r => zS (zw w) A n pl m (j + 1) (zup d (pl j) (8 + r)) (8 * key + r)) (fun u x => zT (zw w) A d (pl j) u x) (znx (fun i => zaH (A i) (pl j)) n n) (zcnt (fun i => zaH (A i) (pl j)) n) k t x like).2 := by
  have hj : j < c := by omega
  have hc4 := hC.2.1
  obtain ⟨e1, e2, e3, i0, hi0, hp0⟩ := hC.2.2.1 j hj
  have hdist := hC.2.2.2
  have hn := hC.1.1
  have hcn := zcnt_le (fun i => zaH (A i) (pl j)) n
  have hall1 : 1 ≤ zcnt (fun i => zaH (A i) (pl j)) n := by
    have h1 := zcnt_mono (fun i => zaH (A i) (pl j)) (show i0 + 1 ≤ n by omega)
    rw [zcnt_s, hp0] at h1
    simp at h1; omega
  intro k
  induction k with
  | zero => intro x like t S _ _ _ h; omega
  | succ k ih =>
    intro x like t S hD hx hl hk
    have hdep : ¬ S.2.2.2.2.1 < 0 := by rw [hD.1]; exact nI_pos (by omega)
    have hTl := zT_le (zw w) A d (pl j) (znx (fun i => zaH (A i) (pl j)) n n t) hx
    rw [zIn]
    by_cases hr : zT (zw w) A d (pl j) (znx (fun i => zaH (A i) (pl j)) n n t) x = 8
    · rw [if_pos hr]
      have hs := zstep_end K hK hC w hj hD hx (by omega) hr
      refine ⟨_, zreach_one _ hdep hs, rfl, fun i hi => ⟨rfl, rfl, rfl, rfl⟩, rfl, rfl⟩
    · rw [if_neg hr]
      have hr8 : zT (zw w) A d (pl j) (znx (fun i => zaH (A i) (pl j)) n n t) x < 8 := by omega
      by_cases ha : (if x < zT (zw w) A d (pl j) (znx (fun i => zaH (A i) (pl j)) n n t) x then 1 else like + 1) < zcnt (fun i => zaH (A i) (pl j)) n
      · rw [if_pos ha]
        obtain ⟨T1, hs, hD1, hF1, hl1⟩ := zstep_on K hK hC w hj hD hx (by omega) hr8 ha
        obtain ⟨T2, hz, hp1, hp2, hp3, hp4⟩ := ih _ _ _ T1 hD1 (by omega) ha (by
          split
          · omega
          · omega)
        refine ⟨T2, ?_, hp1, zF_trans hF1 hp2, hp3, ?_⟩
        · have := zreach_app _ _ _ _ _ _ _ _ (zreach_one _ hdep hs) hz
          rw [Nat.add_comm] at this
          exact this
        · rw [hp4, hl1, show (1 : Int32) = nI 1 from rfl, nI_ass, Nat.add_comm 1]
      · rw [if_neg ha]
        obtain ⟨b, T1, hs, hF1, hl1, ha1, ha2, ha3, ha4, hch1, hdg1, hcase⟩ := zstep_ch K hK hC w hj hD hx (by omega) hd0 hr8 ha
        have hu := znx_le (fun i => zaH (A i) (pl j)) n n t hD.2.2.2.2.1
        generalize hue : znx (fun i => zaH (A i) (pl j)) n n t = u at *
        generalize hre : zT (zw w) A d (pl j) u x = r at *
        rcases hcase with ⟨hb1, hb2, hb3⟩ | ⟨hb1, hb2, hb3, hb4⟩
        · subst hb2
          obtain ⟨T2, hz2, q1, q2, q3, q4⟩ := P (zup d (pl j) (8 + r)) (8 * key + r) T1 hb3 (by
            intro i hi hic
            rw [zq_at, if_neg (fun q => hdist j i (by omega) hic q.symm)]
            exact hd0 i (by omega) hic) (by omega)
          have hD2 : zD n pl T2 j d key (r + 1) 0 u := by
            obtain ⟨f1, f2, f3, f4⟩ := q2 j (by omega)
            refine ⟨by rw [q1]; exact nI_js j, f1.trans ha1, f2.trans ha2, Or.inl (f3.trans ha3), hu, f4.trans ha4, zup (zcut d) (pl j) (8 + r), hdg1, by rw [q3, zcut_up d e2], ?_⟩
            intro v hv
            rw [zq_at]
            by_cases q : v = pl j
            · rw [if_pos q, q]; exact (hd0 j (Nat.le_refl j) hj).symm
            · rw [if_neg q, if_neg q]; exact if_pos hv
          obtain ⟨T3, hz3, r1, r2, r3, r4⟩ := ih (r + 1) 0 u T2 hD2 (by omega) (by omega) (by omega)
          refine ⟨T3, ?_, r1, zF_trans hF1 (zF_trans (zF_less q2 (by omega)) r2), r3, ?_⟩
          · have h1 := zreach_app _ _ _ _ _ _ _ _ (zreach_one _ hdep hs) (zreach_app _ _ _ _ _ _ _ _ hz2 hz3)
            rw [Nat.add_comm 1] at h1
            exact h1
          · rw [r4, q4, hl1, show (1 : Int32) = nI 1 from rfl, nI_ass, nI_ass]
            congr 2; omega
        · subst hb2
          have hm0 : m = 0 := by omega
          subst hm0
          have hD2 : zD n pl T1 j d key (r + 1) 0 u := by
            refine ⟨hb3, ha1, ha2, Or.inl ha3, hu, ha4, zup (zcut d) (pl j) (8 + r), hdg1, hch1, ?_⟩
            intro v hv
            rw [zq_at]
            by_cases q : v = pl j
            · rw [if_pos q, q]; exact (hd0 j (Nat.le_refl j) hj).symm
            · rw [if_neg q, if_neg q]; exact if_pos hv
          obtain ⟨T3, hz3, r1, r2, r3, r4⟩ := ih (r + 1) 0 u T1 hD2 (by omega) (by omega) (by omega)
          refine ⟨T3, ?_, r1, zF_trans hF1 r2, r3, ?_⟩
          · have h1 := zreach_app _ _ _ _ _ _ _ _ (zreach_ans _ (e := (8 * key + r, zcut (zup d (pl j) (8 + r)))) hdep hs hb4 (by rw [zcut_up d e2]; exact hch1) (by rw [zcut_up d e2]; exact hdg1)) hz3
            rw [Nat.add_comm 1] at h1
            show zreach _ (0 + _ + 1) _ _ _
            rw [Nat.zero_add]
            exact h1
          · rw [r4, hl1, show (1 : Int32) = nI 1 from rfl, nI_ass]
            show S.2.2.2.2.2.1 + nI (1 + _) = S.2.2.2.2.2.1 + nI (0 + _ + 1)
            congr 2; omega
theorem zrun (K : Nat) (hK : 8 < K) {cells : Nat → Int32} {n : Nat} {A : Nat → zA} {N : Nat → Bool} {seq ask : Nat → Int32} {pl : Nat → Nat} {c : Nat} (hC : zC cells n A N seq ask pl c) (w : Nat → Int64) : ∀ m j, j + m = c → 1 ≤ m → ∀ d key S, zD n pl S j d key 0 0 (n - 1) → (∀ i, j ≤ i → i < c → d (pl i) = 0) →
    ∃ T, zreach (zstep K cells (nI n) seq ask (nI c) w) (zS (zw w) A n pl m j d key).2 (zS (zw w) A n pl m j d key).1 S T ∧ zpost S T j d (zS (zw w) A n pl m j d key).2
  | 0, j, h, hm, _, _, _, _, _ => by omega
  | m + 1, j, h, hm, d, key, S, hD, hd0 => by
    have hj : j < c := by omega
    obtain ⟨e1, e2, e3, i0, hi0, hp0⟩ := hC.2.2.1 j hj
    have hn := hC.1.1
    have hcn := zcnt_le (fun i => zaH (A i) (pl j)) n
    have hall1 : 1 ≤ zcnt (fun i => zaH (A i) (pl j)) n := by
      have h1 := zcnt_mono (fun i => zaH (A i) (pl j)) (show i0 + 1 ≤ n by omega)
      rw [zcnt_s, hp0] at h1
      simp at h1; omega
    exact zrun_in K hK hC w h (fun d' key' S' hD' hd' hm' => zrun K hK hC w m (j + 1) (by omega) hm' d' key' S' hD' hd') hd0 60 0 0 (n - 1) S hD (by omega) (by omega) (by omega)
