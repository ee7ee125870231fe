theorem zlst_uniq {p : Nat → Bool} {n x r : Nat} (h1 : x ≤ r) (h2 : r ≤ x + n) (h3 : ∀ y, x ≤ y → y < r → p y = false) (h4 : r < x + n → p r = true) : zlst p n x = r := by
  have a := zlst_le p n x
  rcases Nat.lt_trichotomy (zlst p n x) r with h | h | h
  · have := h3 _ a.1 h
    rw [zlst_yes p n x (by omega)] at this
    exact absurd this (by decide)
  · exact h
  · have := zlst_no p n x r h1 h
    rw [h4 (by omega)] at this
    exact absurd this (by decide)
theorem zlst_min {p : Nat → Bool} {n x q : Nat} (h1 : x ≤ q) (h2 : q < x + n) : zlst (fun y => p y || decide (q = y)) n x = if zlst p n x ≤ q then zlst p n x else q := by
  have a := zlst_le p n x
  apply zlst_uniq
  · split <;> omega
  · split <;> omega
  · intro y hy hy2
    have : y < zlst p n x ∧ y < q := by split at hy2 <;> omega
    rw [zlst_no p n x y hy this.1, decide_eq_false (by omega)]; rfl
  · intro h
    split
    · rename_i g
      rw [zlst_yes p n x (by omega)]; rfl
    · simp
theorem zres_i {r : Nat} (h : r < 8) : zres r = nI r := if_pos h
theorem zres_8 : zres 8 = -1 := rfl
theorem zX12_told (K : Nat) (hK : 512 < K) {now : Nat → Int32} {s : Nat → Nat} (h : zM now s) {row : Nat → Int32} {R : Nat → Nat → Bool} (hR : zMr row R) {value : Nat → Int32} {val : Nat → Nat} (hval : zMv value val) {place : Nat → Int32} {pl : Nat → Nat} {c : Nat} (hc : c ≤ 4) (hpl : zMp place pl c) {p : Nat} (hp : p + 3 < 2780) (ha : zaOK (zat s p)) {v x : Nat} (hv : v < 4) (hx : x ≤ 8) (hh : zaH (zat s p) v = true) :
    fX12_told K now row value place (nI p) (nI v) (nI c) (nI x) = some (zres (zlst (zhas R (zat s p) (zdd pl c val) v) (8 - x) x)) := by
  have ht : s p < 5 := ha.1
  have hw : s (1 + s p) ≤ 3 := ha.2.2.1
  have hcv3 : zcv (zat s p) v < 3 := by
    unfold zcv; split
    · omega
    · split <;> omega
  have L : ∀ col, col < 3 → fX12_told_30 K now row value place (nI p) (nI v) (nI c) (nI x) K (nI col) (-1) (nI 0) = some (zres (zlst (fun y => zany (fun k => R (s p) k && zfit (zat s p) (zdd pl c val) k && decide (zcol k col = y)) 512) (8 - x) x)) := by
    intro col hcol
    refine z_forE (F := fun q i (b : Nat) => fX12_told_30 K now row value place (nI p) (nI v) (nI c) (nI x) q (nI col) (zres b) (nI i)) (n := 512) (inv := fun i b => b = zlst (fun y => zany (fun k => R (s p) k && zfit (zat s p) (zdd pl c val) k && decide (zcol k col = y)) i) (8 - x) x) ?_ ?_ 512 K 0 8 (by omega) ?_ (by omega)
    · intro q i b hi hinv
      left
      have hb : b ≤ 8 := by have := zlst_le (fun y => zany (fun k => R (s p) k && zfit (zat s p) (zdd pl c val) k && decide (zcol k col = y)) i) (8 - x) x; omega
      have hxb : x ≤ b := by have := zlst_le (fun y => zany (fun k => R (s p) k && zfit (zat s p) (zdd pl c val) k && decide (zcol k col = y)) i) (8 - x) x; omega
      have hc8 : zcol i col < 8 := by unfold zcol; omega
      refine ⟨zlst (fun y => zany (fun k => R (s p) k && zfit (zat s p) (zdd pl c val) k && decide (zcol k col = y)) (i + 1)) (8 - x) x, rfl, ?_⟩
      have e0 : fX12_told_30 K now row value place (nI p) (nI v) (nI c) (nI x) (q + 1) (nI col) (zres b) (nI i) = if R (s p) i && zfit (zat s p) (zdd pl c val) i && decide (x ≤ zcol i col) then fX12_told_30 K now row value place (nI p) (nI v) (nI c) (nI x) q (nI col) (zres (if b ≤ zcol i col then b else zcol i col)) (nI (i + 1)) else fX12_told_30 K now row value place (nI p) (nI v) (nI c) (nI x) q (nI col) (zres b) (nI (i + 1)) := by
        simp (disch := omega) only [fX12_told_30, fX12_told_102, fX12_told_106, zi_lit, zi_le, zi_lt, zi_inB, zi_clamp, zi_add, zi_mul, (h p (by omega)).1, hR _ _ ht hi, zi_b0, zX12_isRowFor K (by omega) h hval hc hpl hp ha hi, zrow_fit ha pl val (fun v hv => (hval v hv).2) c i, zX12_valueIn hi hcol, Option.bind_some]
        rw [if_neg (by omega), if_pos (by omega), if_pos (by omega)]
        cases R (s p) i
        · simp
        · cases zfit (zat s p) (zdd pl c val) i
          · simp
          · by_cases g : x ≤ zcol i col
            · rw [if_neg (by simp), if_neg (by simp), if_neg (by omega)]
              simp only [g, decide_true, Bool.and_self, if_true]
              by_cases g8 : b = 8
              · subst g8
                rw [if_pos (show zres 8 = -nI 1 from rfl), if_neg (by omega), zres_i hc8]
              · rw [zres_i (by omega : b < 8), if_neg (show ¬ nI b = -nI 1 from zi_m1 (by omega))]
                simp (disch := omega) only [zi_le]
                by_cases g2 : b ≤ zcol i col
                · rw [if_pos g2, if_pos g2, zres_i (by omega)]
                · rw [if_neg g2, if_neg g2, zres_i hc8]
            · rw [if_neg (by simp), if_neg (by simp), if_pos (by omega)]
              simp [g]
      rw [e0]
      by_cases g : (R (s p) i && zfit (zat s p) (zdd pl c val) i && decide (x ≤ zcol i col)) = true
      · rw [if_pos g]
        have g' := g
        rw [Bool.and_eq_true, decide_eq_true_eq] at g'
        have := zlst_min (p := fun y => zany (fun k => R (s p) k && zfit (zat s p) (zdd pl c val) k && decide (zcol k col = y)) i) (n := 8 - x) (x := x) (q := zcol i col) g'.2 (by omega)
        rw [hinv, ← this]
        congr 2
        apply zlst_cong
        intro y _ _
        rw [zany, g'.1, Bool.true_and]
      · rw [if_neg g, hinv]
        congr 2
        apply zlst_cong
        intro y hy _
        rw [zany]
        cases gg : (R (s p) i && zfit (zat s p) (zdd pl c val) i)
        · simp
        · rw [gg, Bool.true_and, decide_eq_true_eq] at g
          rw [decide_eq_false (by omega)]; simp
    · intro q b hinv
      simp (disch := omega) only [fX12_told_30, zi_lit, zi_le]
      rw [if_pos (by omega), hinv]
    · symm
      apply zlst_uniq
      · omega
      · omega
      · intro y _ _; rfl
      · intro g; omega
  have hfind : fX12_told K now row value place (nI p) (nI v) (nI c) (nI x) = fX12_told_30 K now row value place (nI p) (nI v) (nI c) (nI x) K (nI (zcv (zat s p) v)) (-1) (nI 0) := by
    unfold fX12_told
    have hvv : ∀ j, j < 3 → s (p + 1 + j) = zaV (zat s p) j := fun j hj => (zat_V s p j hj).symm
    refine z_forE (F := fun q i (_ : Unit) => fX12_told_3 K now row value place (nI p) (nI v) (nI c) (nI x) q (nI i)) (n := 3) (inv := fun i _ => i ≤ zcv (zat s p) v) ?_ ?_ 3 K 0 () (by omega) (Nat.zero_le _) (by omega)
    · intro q i _ hi hinv
      have hvi := zaV_lt ha hi
      simp (disch := omega) only [fX12_told_3, zi_lit, zi_inB, zi_clamp, zi_add, (h (p + 1 + i) (by omega)).1, hvv i hi, zi_eq]
      rw [if_pos (by omega)]
      by_cases g : zaV (zat s p) i = v
      · right
        rw [if_pos g]
        have : zcv (zat s p) v = i := by
          unfold zcv at hinv ⊢
          have h3 : i = 0 ∨ i = 1 ∨ i = 2 := by omega
          rcases h3 with e | e | e <;> subst e
          · exact if_pos g
          · split at hinv
            · omega
            · rename_i n0
              rw [if_neg n0]
              unfold zaH at hh
              simp only [Bool.or_eq_true, Bool.and_eq_true, decide_eq_true_eq] at hh
              rw [if_pos ⟨by omega, g⟩]
          · split at hinv
            · omega
            · rename_i n0
              rw [if_neg n0]
              split at hinv
              · omega
              · rename_i n1; rw [if_neg n1]
        rw [this]
      · left
        refine ⟨(), ?_, if_neg g⟩
        have : zcv (zat s p) v ≠ i := by
          intro e
          unfold zcv at e
          unfold zaH at hh
          simp only [Bool.or_eq_true, Bool.and_eq_true, decide_eq_true_eq] at hh
          have h3 : i = 0 ∨ i = 1 ∨ i = 2 := by omega
          split at e
          · rename_i q0; subst e; exact g q0
          · rename_i q0
            split at e
            · rename_i q1; subst e; exact g q1.2
            · rename_i q1; subst e
              rcases hh with (hh | hh) | hh
              · exact q0 hh
              · exact q1 hh
              · exact g hh.2
        omega
    · intro q _ hinv
      omega
  rw [hfind, L _ hcv3]
  rfl
