/-! the tables are the least ones -/
theorem zrow_uniq {p : Nat → Bool} {a b : Nat} (ha : p a = true) (hb : p b = true) (h : zcnt p a = zcnt p b) : a = b := by
  have e1 : (true).toNat = 1 := rfl
  rcases Nat.lt_trichotomy a b with g | g | g
  · have := zcnt_mono p (show a + 1 ≤ b by omega)
    rw [zcnt_s, ha] at this
    omega
  · exact g
  · have := zcnt_mono p (show b + 1 ≤ a by omega)
    rw [zcnt_s, hb] at this
    omega
theorem zy_al6 (K : Nat) (hK : 1000000 < K) {s : Nat → Nat} {L : List (Nat → Nat)} (vRc : Int32) (vCol : Nat → Int32) {vFa vRo : Nat → Nat → Int32} (vRu : Nat → Nat → Int32) (hF : zyW (zfacts s) vFa) (hW : zyW (zRw s) vRo) {vLa : Nat → Int32} (hLa : ∀ t, t < 5 → vLa t = nI (zMs s t)) (vVa : Nat → Int32) (se : Int64) {O : zObj} (h : zIc O s L) :
    ∃ O', zIc O' s L ∧ hL_areLeast_6 K (nI (s 0)) vRc vCol vFa vRu 7 0 O vRo vLa vVa se = hL_areLeast_64 K (nI (s 0)) vRc vCol vFa vRu 12 0 O' vRo vLa vVa se := by
  have h5 := h.1.1
  exact z_forD (F := fun k t (z : zObj) => hL_areLeast_6 K (nI (s 0)) vRc vCol vFa vRu k (nI t) z vRo vLa vVa se) (n := s 0) (inv := fun _ z => zIc z s L) (D := fun z => hL_areLeast_64 K (nI (s 0)) vRc vCol vFa vRu 12 0 z vRo vLa vVa se)
    (by
      intro k t z ht hz
      obtain ⟨O1, e1, h1⟩ := zd_rowCount K hK hz ht
      have e3 := zd_factCount K hK h1 ht
      obtain ⟨O2, e5, h2⟩ := zd_layerOf K hK h1 ht
      refine ⟨O2, h2, ?_⟩
      rw [hL_areLeast_6, if_neg (by rw [zi_le (by omega) (by omega)]; omega), e1, Option.bind_some, zy_count K (by omega) hW (show t < 5 by omega), Option.bind_some, if_pos rfl, e3, Option.bind_some, zy_fcount K (by omega) hF (show t < 5 by omega), Option.bind_some, if_pos rfl, e5, Option.bind_some, if_pos (zy_i5 (show t < 5 by omega)), zi_clamp (show t < 2147483648 by omega), hLa t (by omega), if_pos rfl, nI_succ])
    (by
      intro k z hz
      rw [hL_areLeast_6, if_pos (by rw [zi_le (by omega) (by omega)]; exact Nat.le_refl _)]) (s 0) 7 0 O (by omega) h (by omega)
theorem zy_al213 (K : Nat) (hK : 1000000 < K) {s : Nat → Nat} {L : List (Nat → Nat)} (vTa vRc : Int32) {vCol : Nat → Int32} (hC : zyC s vCol) (vFa : Nat → Nat → Int32) {vRo : Nat → Nat → Int32} (vRu : Nat → Nat → Int32) (hW : zyW (zRw s) vRo) (vLa vVa : Nat → Int32) (se : Int64) {t : Nat} (ht : t < s 0) {O : zObj} (h : zIc O s L) :
    ∃ O', zIc O' s L ∧ hL_areLeast_213 K vTa vRc vCol vFa vRu 514 (nI t) 0 0 O vRo vLa vVa se = some (true, O', vRo, vLa, vVa, se) := by
  have h5 := h.1.1
  have ht5 : t < 5 := by omega
  obtain ⟨c1, c3⟩ := h.1.2.1 t ht
  have e512 : (512 : Int32) = nI 512 := rfl
  have i512 : ∀ {k}, k < 512 → inB (nI k) 512 = true := fun {k} h => by rw [zi_inB (by omega)]; exact h
  have col : ∀ (r213 : Int32 → Int32 → Int32 → zObj → (Nat → Nat → Int32) → (Nat → Int32) → (Nat → Int32) → Int64 → Option (Bool × zObj × (Nat → Nat → Int32) × (Nat → Int32) × (Nat → Int32) × Int64)) (k : Nat) (O : zObj), k < 512 → zRw s t k = true → zIc O s L → ∃ O', zIc O' s L ∧ hL_areLeast_246 K vTa vRc vCol vFa vRu r213 5 (nI t) (nI (zcnt (zRw s t) k)) (nI k) 0 O vRo vLa vVa se = r213 (nI t) (nI (zcnt (zRw s t) k + 1)) (nI (k + 1)) O' vRo vLa vVa se := by
    intro r213 k O hk hr hO
    have hcl : zcnt (zRw s t) k < zcnt (zRw s t) 512 := by
      have := zcnt_mono (zRw s t) (show k + 1 ≤ 512 by omega)
      rw [zcnt_s, hr] at this
      have e1 : (true).toNat = 1 := rfl
      omega
    have hc2 := zcnt_le (zRw s t) k
    exact z_forD (F := fun n c (z : zObj) => hL_areLeast_246 K vTa vRc vCol vFa vRu r213 n (nI t) (nI (zcnt (zRw s t) k)) (nI k) (nI c) z vRo vLa vVa se) (n := s (1 + t)) (inv := fun _ z => zIc z s L) (D := fun z => r213 (nI t) (nI (zcnt (zRw s t) k + 1)) (nI (k + 1)) z vRo vLa vVa se)
      (by
        intro n c z hc hz
        obtain ⟨O', r, hr5, hrr, hrc, e, hO'⟩ := zd_rowAt K hK hz ht hc hcl
        have hrk : r = k := zrow_uniq hrr hr hrc
        subst hrk
        refine ⟨O', hO', ?_⟩
        rw [hL_areLeast_246, if_pos (zy_i5 ht5), zi_clamp (show t < 2147483648 by omega), hC t ht5, if_neg (by rw [zi_le (by omega) (by omega)]; omega), e, Option.bind_some, zy_valueIn K hk (show c < 3 by omega), Option.bind_some, if_pos rfl, nI_succ c])
      (by
        intro n z hz
        rw [hL_areLeast_246, if_pos (zy_i5 ht5), zi_clamp (show t < 2147483648 by omega), hC t ht5, if_pos (by rw [zi_le (by omega) (by omega)]; exact Nat.le_refl _)]
        unfold hL_areLeast_287
        rw [nI_succ, nI_succ]) (s (1 + t)) 5 0 O (by omega) hO (by omega)
  obtain ⟨x, ⟨O', hO', rfl⟩, e⟩ := z_for (F := fun n k (z : zObj) => hL_areLeast_213 K vTa vRc vCol vFa vRu n (nI t) (nI (zcnt (zRw s t) k)) (nI k) z vRo vLa vVa se) (n := 512) (inv := fun _ z => zIc z s L) (post := fun x => ∃ O', zIc O' s L ∧ x = (true, O', vRo, vLa, vVa, se))
    (by
      intro n k z hk hz
      have hc2 := zcnt_le (zRw s t) k
      by_cases g20 : 20 ≤ zcnt (zRw s t) k
      · right
        refine ⟨_, ⟨z, hz, rfl⟩, ?_⟩
        rw [hL_areLeast_213, if_neg (show ¬ (512 : Int32) ≤ nI k by rw [e512, zi_le (by omega) (by omega)]; omega), if_pos (show (20 : Int32) ≤ nI (zcnt (zRw s t) k) by rw [show (20 : Int32) = nI 20 from rfl, zi_le (by omega) (by omega)]; exact g20)]
      · left
        have st : ∀ x, (if vRo t k = 0 then hL_areLeast_287 K vTa vRc vCol vFa vRu (hL_areLeast_213 K vTa vRc vCol vFa vRu n) (nI t) (nI (zcnt (zRw s t) k)) (nI k) z vRo vLa vVa se else hL_areLeast_246 K vTa vRc vCol vFa vRu (hL_areLeast_213 K vTa vRc vCol vFa vRu n) 5 (nI t) (nI (zcnt (zRw s t) k)) (nI k) (0 : Int32) z vRo vLa vVa se) = x → hL_areLeast_213 K vTa vRc vCol vFa vRu (n + 1) (nI t) (nI (zcnt (zRw s t) k)) (nI k) z vRo vLa vVa se = x := by
          intro x hx
          rw [← hx, hL_areLeast_213, if_neg (show ¬ (512 : Int32) ≤ nI k by rw [e512, zi_le (by omega) (by omega)]; omega), if_neg (show ¬ (20 : Int32) ≤ nI (zcnt (zRw s t) k) by rw [show (20 : Int32) = nI 20 from rfl, zi_le (by omega) (by omega)]; exact g20), if_pos (zy_i5 ht5), if_pos (i512 hk), zi_clamp (show t < 2147483648 by omega), zi_clamp (show k < 2147483648 by omega)]
        have hro := hW t k ht5 hk
        cases er : zRw s t k
        · refine ⟨z, hz, st _ ?_⟩
          show _ = hL_areLeast_213 K vTa vRc vCol vFa vRu n (nI t) (nI (zcnt (zRw s t) k + (zRw s t k).toNat)) (nI (k + 1)) z vRo vLa vVa se
          rw [hro, er, if_pos (show bI false = 0 from rfl)]
          unfold hL_areLeast_287
          rw [nI_succ]
          rfl
        · obtain ⟨O', hO', e⟩ := col (hL_areLeast_213 K vTa vRc vCol vFa vRu n) k z hk er hz
          refine ⟨O', hO', st _ ?_⟩
          show _ = hL_areLeast_213 K vTa vRc vCol vFa vRu n (nI t) (nI (zcnt (zRw s t) k + (zRw s t k).toNat)) (nI (k + 1)) O' vRo vLa vVa se
          rw [hro, er, if_neg (show ¬ bI true = 0 by decide)]
          exact e)
    (by
      intro n z hz
      refine ⟨_, ⟨z, hz, rfl⟩, ?_⟩
      rw [hL_areLeast_213, if_pos (show (512 : Int32) ≤ nI 512 by decide)]) 512 514 0 O (by omega) h (by omega)
  exact ⟨O', hO', e⟩
theorem zy_al64 (K : Nat) (hK : 1000000 < K) {s : Nat → Nat} {L : List (Nat → Nat)} {vCol : Nat → Int32} (hC : zyC s vCol) {vFa vRo vRu : Nat → Nat → Int32} (hR : zyR s vRu) (hF : zyW (zfacts s) vFa) (hW : zyW (zRw s) vRo) (vLa : Nat → Int32) (vVa : Nat → Int32) (se : Int64) {O : zObj} (h : zIc O s L) (hT : 0 < s 0) :
    ∃ O' vVa' se', zIc O' s L ∧ hL_areLeast_64 K (nI (s 0)) (nI (zrn s)) vCol vFa vRu 12 0 O vRo vLa vVa se = some (true, O', vRo, vLa, vVa', se') := by
  have hWF := h.1
  have h5 := h.1.1
  obtain ⟨x, ⟨O', vVa', se', hO', rfl⟩, e⟩ := z_for (F := fun n i (z : zObj × (Nat → Int32) × Int64) => hL_areLeast_64 K (nI (s 0)) (nI (zrn s)) vCol vFa vRu n (nI i) z.1 vRo vLa z.2.1 z.2.2) (n := 10) (inv := fun _ z => zIc z.1 s L) (post := fun x => ∃ O' vVa' se', zIc O' s L ∧ x = (true, O', vRo, vLa, vVa', se'))
    (by
      rintro n i ⟨O1, vV, se1⟩ hi hz
      have hz' : zIc O1 s L := hz
      left
      obtain ⟨t, se2, ht, e1⟩ := zy_next K hT (by omega) se1
      obtain ⟨k, se3, e2, hk, hin⟩ := zy_drawnCode K (by omega) hWF hC (m := 6) ht (by omega) (by omega) se2
      have e2' : hL_drawnCode K vCol (nI t) (6 : Int32) se2 = some (nI k, se3) := e2
      have ht5 : t < 5 := by omega
      obtain ⟨hv, hke⟩ := zvl_of hk (hWF.2.1 t ht).1 hin
      obtain ⟨O2, e3, hO2⟩ := zd_reasons K hK hz' ht hv hke
      obtain ⟨vV2, e4⟩ := zy_reasons K (by omega) hWF hC hR hF hW vV ht5 hk
      have e5 := zd_isFact K hK hO2 ht hv hke
      have v0 : hL_valueIn K (nI k) (0 : Int32) = some (nI (zcol k 0)) := zy_valueIn K hk (j := 0) (by omega)
      have v1 : hL_valueIn K (nI k) (1 : Int32) = some (nI (zcol k 1)) := zy_valueIn K hk (j := 1) (by omega)
      have v2 : hL_valueIn K (nI k) (2 : Int32) = some (nI (zcol k 2)) := zy_valueIn K hk (j := 2) (by omega)
      have i512 : inB (nI k) 512 = true := by rw [zi_inB (by omega)]; exact hk
      have hpos := zre_pos hWF ht5 hk
      have hle := zre_le hWF.2.2.2.2.2.2.1 (zRw s) t k
      refine ⟨(O2, vV2, se3), hO2, ?_⟩
      have h140 : ∀ b : Bool, b = zRw s t k → hL_areLeast_140 K (nI (s 0)) (nI (zrn s)) vCol vFa vRu (hL_areLeast_64 K (nI (s 0)) (nI (zrn s)) vCol vFa vRu n) (nI i) (nI t) (nI k) (bI b) O2 vRo vLa vV2 se3 = hL_areLeast_64 K (nI (s 0)) (nI (zrn s)) vCol vFa vRu n (nI (i + 1)) O2 vRo vLa vV2 se3 := by
        intro b hb
        unfold hL_areLeast_140
        rw [if_pos (zy_i5 ht5), if_pos i512, zi_clamp (show t < 2147483648 by omega), zi_clamp (show k < 2147483648 by omega), hW t k ht5 hk, hb, if_pos rfl, v0, Option.bind_some, v1, Option.bind_some, v2, Option.bind_some, e5, Option.bind_some, if_pos (zy_i5 ht5), if_pos i512, hF t k ht5 hk, if_pos rfl, nI_succ]
      show hL_areLeast_64 K (nI (s 0)) (nI (zrn s)) vCol vFa vRu (n + 1) (nI i) O1 vRo vLa vV se1 = _
      rw [hL_areLeast_64, if_neg (show ¬ (10 : Int32) ≤ nI i by rw [show (10 : Int32) = nI 10 from rfl, zi_le (by omega) (by omega)]; omega), e1, Option.bind_some, e2', Option.bind_some, v0, Option.bind_some, v1, Option.bind_some, v2, Option.bind_some, e3, Option.bind_some, e4, Option.bind_some, if_pos rfl]
      by_cases g : 0 < zre (zRw s) s t k
      · rw [if_neg (show ¬ nI (zre (zRw s) s t k) ≤ 0 by rw [show (0 : Int32) = nI 0 from rfl, zi_le (by omega) (by omega)]; omega)]
        exact h140 true (hpos.1 g).symm
      · rw [if_pos (show nI (zre (zRw s) s t k) ≤ 0 by rw [show (0 : Int32) = nI 0 from rfl, zi_le (by omega) (by omega)]; omega)]
        refine h140 false ?_
        cases er : zRw s t k
        · rfl
        · exact absurd (hpos.2 er) g)
    (by
      rintro n ⟨O1, vV, se1⟩ hz
      have hz' : zIc O1 s L := hz
      obtain ⟨t, se2, ht, e1⟩ := zy_next K hT (by omega) se1
      obtain ⟨O2, hO2, e2⟩ := zy_al213 K hK (nI (s 0)) (nI (zrn s)) hC vFa vRu hW vLa vV se2 ht hz'
      refine ⟨_, ⟨O2, vV, se2, hO2, rfl⟩, ?_⟩
      show hL_areLeast_64 K (nI (s 0)) (nI (zrn s)) vCol vFa vRu (n + 1) (nI 10) O1 vRo vLa vV se1 = _
      rw [hL_areLeast_64, if_pos (show (10 : Int32) ≤ nI 10 by decide), e1, Option.bind_some]
      exact e2) 10 12 0 (O, vVa, se) (by omega) h (by omega)
  exact ⟨O', vVa', se', hO', e⟩
theorem zy_areLeast (K : Nat) (hK : 1000000 < K) {s : Nat → Nat} {L : List (Nat → Nat)} {vCol : Nat → Int32} (hC : zyC s vCol) {vFa vRu : Nat → Nat → Int32} (hR : zyR s vRu) (hF : zyW (zfacts s) vFa) (vRo : Nat → Nat → Int32) (vLa vVa : Nat → Int32) (se : Int64) {O : zObj} (h : zIc O s L) (hT : 0 < s 0) :
    ∃ O' vRo' vLa' vVa' se', zIc O' s L ∧ hL_areLeast K (nI (s 0)) (nI (zrn s)) vCol vFa vRu O vRo vLa vVa se = some (true, O', vRo', vLa', vVa', se') ∧ zyW (zRw s) vRo' ∧ ∀ t, t < 5 → vLa' t = nI (zMs s t) := by
  obtain ⟨vRo', vLa', vVa', e1, hW, hLa⟩ := zy_follows K (by omega) h.1 hC hR hF vRo vLa vVa
  obtain ⟨O1, hO1, e2⟩ := zy_al6 K hK (nI (zrn s)) vCol vRu hF hW hLa vVa' se h
  obtain ⟨O2, vV2, se2, hO2, e3⟩ := zy_al64 K hK hC hR hF hW vLa' vVa' se hO1 hT
  refine ⟨O2, vRo', vLa', vV2, se2, hO2, ?_, hW, hLa⟩
  unfold hL_areLeast
  rw [e1, Option.bind_some]
  exact e2.trans e3
