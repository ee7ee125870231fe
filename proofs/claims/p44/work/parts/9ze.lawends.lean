/-! the law from its begin to its end -/
def hL_law_T (K : Nat) (vTa : Int32) (vRo : Nat → Nat → Int32) (vLa : Nat → Int32) : Nat → Int32 → zObj → Option (Bool × zObj)
  | 0, _, _ => none
  | k + 1, x4, vP => if vTa ≤ x4 then (some (true, vP)) else ((hX11_rowCount K vP x4).bind fun q1 => (hX13_rowCount K vRo x4).bind fun q2 => if q1.1 = q2 then ((hX11_layerOf K q1.2 x4).bind fun q3 => if inB x4 5 = true then (if q3.1 = vLa x4.toNatClampNeg then ((hL_law_T K vTa vRo vLa k) (x4 + (1 : Int32)) q3.2) else (some (false, q3.2))) else none) else (some (false, q1.2)))
def zcol0 : Nat → Int32 := fun i => if i = 0 then 2 else if i = 1 then 2 else if i = 2 then 1 else 0
def hL_law (K : Nat) (vSe : Int64) : Option Bool :=
  (hX11_init K).bind fun o0 => (hL_drawsTables K o0 (3 : Int32) zcol0 (fun _ _ => (0 : Int32)) vSe).bind fun q1 => if (bI q1.1) = 0 then some false else (hL_drawsRules K q1.2.2.1 q1.2.2.2.1 q1.2.1 (0 : Int32) (fun _ _ => (0 : Int32)) (fun _ => (0 : Int32)) q1.2.2.2.2.2).bind fun q2 => if (bI q2.1) = 0 then some false else (hL_areLeast K q1.2.2.1 q2.2.2.1 q1.2.2.2.1 q1.2.2.2.2.1 q2.2.2.2.1 q2.2.1 (fun _ _ => (0 : Int32)) q2.2.2.2.2.1 (fun _ => (0 : Int32)) q2.2.2.2.2.2).bind fun q3 => if (bI q3.1) = 0 then some false else (hL_toldBackward K q1.2.2.1 q2.2.2.1 q1.2.2.2.1 q1.2.2.2.2.1 q2.2.2.2.1).bind fun p0 => (hX11_checksum K p0).bind fun q4 => (hX11_checksum K q3.2.1).bind fun q5 => if q4.1 = q5.1 then ((hL_law_T K q1.2.2.1 q3.2.2.1 q3.2.2.2.1 7 (0 : Int32) q4.2).bind fun q6 => if (bI q6.1) = 0 then some false else (hL_leavesNothing K q1.2.2.1 q1.2.2.2.1 q1.2.2.2.2.1 q5.2 q3.2.2.2.2.2).bind fun q7 => if (bI q7.1) = 0 then some false else (hL_asks K q1.2.2.1 q1.2.2.2.1 q3.2.2.1 q7.2.1 q6.2 q3.2.2.2.2.1 q7.2.2).bind fun q8 => if (bI q8.1) = 0 then some false else (hL_clears K q1.2.2.1 q1.2.2.2.1 q1.2.2.2.2.1 q2.2.2.2.1 q8.2.1 q2.2.2.1 q3.2.2.1 q3.2.2.2.1 q8.2.2.2.1 q8.2.2.2.2).bind fun q9 => if (bI q9.1) = 0 then some false else (hX11_errors K q9.2.1).bind fun q10 => if q10.1 = 0 then ((hX11_errors K q8.2.2.1).bind fun q11 => if q11.1 = 0 then some true else some false) else some false) else some false
theorem zy_lawT (K : Nat) (hK : 1000000 < K) {s sp : Nat → Nat} {Lp : List (Nat → Nat)} (h0 : sp 0 = s 0) (hR : zeqR (zRw sp) (zRw s)) (hM : zMs sp = zMs s) {vRo : Nat → Nat → Int32} (hRo : zyW (zRw s) vRo) {vLa : Nat → Int32} (hLa : ∀ t, t < 5 → vLa t = nI (zMs s t)) : ∀ c n, c < n → c ≤ s 0 → ∀ {P : zObj}, zIc P sp Lp → ∃ P', hL_law_T K (nI (s 0)) vRo vLa n (nI (s 0 - c)) P = some (true, P') ∧ zIc P' sp Lp := by
  intro c
  induction c with
  | zero =>
    intro n hn _ P h
    obtain ⟨n, rfl⟩ : ∃ z, n = z + 1 := ⟨n - 1, by omega⟩
    have h5 := h.1.1
    refine ⟨P, ?_, h⟩
    rw [hL_law_T, if_pos (by rw [zi_le (by omega) (by omega)]; omega)]
  | succ c ih =>
    intro n hn hc P h
    obtain ⟨n, rfl⟩ : ∃ z, n = z + 1 := ⟨n - 1, by omega⟩
    have h5 := h.1.1
    have ht : s 0 - (c + 1) < s 0 := by omega
    have ht5 : s 0 - (c + 1) < 5 := by omega
    obtain ⟨P1, e1, hP1⟩ := zd_rowCount K hK h (t := s 0 - (c + 1)) (by omega)
    have e2 := zy_count K (by omega) hRo ht5
    obtain ⟨P2, e3, hP2⟩ := zd_layerOf K hK hP1 (t := s 0 - (c + 1)) (by omega)
    obtain ⟨P', e, k⟩ := ih n (by omega) (by omega) hP2
    refine ⟨P', ?_, k⟩
    have hcnt : zcnt (zRw sp (s 0 - (c + 1))) 512 = zcnt (zRw s (s 0 - (c + 1))) 512 := zcnt_cong (fun k hk => hR _ k ht5 hk)
    rw [hL_law_T, if_neg (by rw [zi_le (by omega) (by omega)]; omega), e1, Option.bind_some, e2, Option.bind_some, if_pos (by rw [hcnt]), e3, Option.bind_some, if_pos (zy_i5 ht5), zi_clamp (by omega), if_pos (by rw [hM, hLa _ ht5]), ← nI_succ, show s 0 - (c + 1) + 1 = s 0 - c by omega]
    exact e
theorem zcs_q2 : ∀ q : Fin 2, zcs19 (2570 + 21 * (2 + q.val)) = 0 ∧ zcs19 (2566 + (2 + q.val)) = 123 := by decide +kernel
theorem zcs_q {q : Nat} (h2 : 2 ≤ q) (h4 : q < 4) : zcs19 (2570 + 21 * q) = 0 ∧ zcs19 (2566 + q) = 123 := by
  obtain ⟨k, rfl⟩ : ∃ k, q = 2 + k := ⟨q - 2, by omega⟩
  exact zcs_q2 ⟨k, by omega⟩
theorem zcs_w : ∀ t : Fin 5, zcol0 t.val = nI (zcs19 (1 + t.val)) := by decide +kernel
theorem zy_law (K : Nat) (hK : 1000000 < K) (se : Int64) : hL_law K se = some true := by
  obtain ⟨O0, sa, e0, hO0, hsa⟩ := zd_init K hK
  have hC0 : zyC sa zcol0 := by
    intro t ht
    rw [hsa _ (by omega)]
    exact zcs_w ⟨t, ht⟩
  obtain ⟨O1, s1, L1, vCol, vFa, se1, e1, hI1⟩ := zy_drawsTables K hK hO0 hsa hC0 (fun _ _ => (0 : Int32)) (fun _ _ _ _ => rfl) se
  obtain ⟨hO1, hC1, hF1, h19, w0, w1, w2, w3, h23⟩ := hI1
  obtain ⟨O2, s2, L2, vRu, vLa2, se2, e2, hI2⟩ := zy_drawsRules K hK hO1 hC1 h19 ⟨w0, w1, w2⟩ (0 : Int32) (fun _ _ => (0 : Int32)) (fun _ => (0 : Int32)) se1
  obtain ⟨hO2, hC2, hR2, hlow, hV2⟩ := hI2
  have h0 : s2 0 = s1 0 := hlow 0 (by omega)
  have hF2 : zyW (zfacts s2) vFa := by
    intro t k ht hk
    rw [hF1 t k ht hk]
    unfold zfacts
    rw [hlow _ (by omega)]
  have hcnt2 : ∀ t, t < 5 → zcnt (zfacts s2 t) 512 < 60 := by
    intro t ht
    have : zcnt (zfacts s2 t) 512 = zcnt (zfacts s1 t) 512 := zcnt_cong (fun k hk => by unfold zfacts; rw [hlow _ (by omega)])
    have := h23 t ht
    omega
  have hT : 0 < s2 0 := by omega
  obtain ⟨O3, vRo, vLa3, vVa3, se3, hO3, e3, hRo, hLa⟩ := zy_areLeast K hK hC2 hR2 hF2 (fun _ _ => (0 : Int32)) vLa2 (fun _ => (0 : Int32)) se2 hO2 hT
  have h19' : ∀ i, 2566 ≤ i → i < 2654 → s2 i = zcs19 i := fun i a b => by rw [hlow i b]; exact h19 i a (by omega)
  have hW2 := hO2.1
  obtain ⟨P0, sp, Lp, e4, hP0, hp0, hpw, hpq, hbk, hpf⟩ := zy_toldBackward K hK hW2 hV2 hcnt2 ⟨by omega, by rw [hlow 1 (by omega)]; exact w1, by rw [hlow 2 (by omega)]; exact w2, by rw [hlow 3 (by omega)]; exact w3⟩ h19' hC2 hF2 hR2
  have hWp := hP0.1
  obtain ⟨hM, hRR⟩ := zBk_rows hW2 hWp hbk hpf
  have qz : ∀ q, 2 ≤ q → q < 4 → zqn s2 q = 0 ∧ zqo s2 q = 123 := by
    intro q hq2 hq
    have a : s2 (2570 + 21 * q) = 0 := by rw [h19' _ (by omega) (by omega)]; exact (zcs_q hq2 hq).1
    have b : s2 (2566 + q) = 123 := by rw [h19' _ (by omega) (by omega)]; exact (zcs_q hq2 hq).2
    exact ⟨a, b⟩
  have qzp : zqn sp 3 = 0 ∧ zqo sp 3 = 123 := by
    obtain ⟨a, b⟩ := qz 3 (by omega) (by omega)
    have a' : sp (2570 + 21 * 3) = 0 := by rw [hpq _ (by omega) (by omega)]; exact a
    have b' : sp (2566 + 3) = 123 := by rw [hpq _ (by omega) (by omega)]; exact b
    exact ⟨a', b'⟩
  have hTp : zsmT s2 sp := ⟨by omega, hpw⟩
  have hsum : zSum sp = zSum s2 := zSum_same hW2 hp0 hpw (fun q hq => zsmQ_of hW2 hTp (q := q) hq (fun i a b => hpq i (by omega) (by omega)) (hpq _ (by omega) (by omega))) hRR
  obtain ⟨P1, e5, hP1⟩ := zd_checksum K hK hP0
  obtain ⟨O4, e6, hO4⟩ := zd_checksum K hK hO3
  obtain ⟨P2, e7, hP2⟩ := zy_lawT K hK hp0 hRR hM hRo hLa (s2 0) 7 (by have := hW2.1; omega) (Nat.le_refl _) hP1
  rw [Nat.sub_self] at e7
  obtain ⟨O5, L5, se5, e8, hO5⟩ := zy_leavesNothing K hK hO4 hC2 hF2 hT hcnt2 se3
  obtain ⟨O6, s6, L6, P6, sp6, Lp6, vVa6, se6, e9, hO6, hP6, hlow6, hq6⟩ := zy_asks K hK hT hC2 hRo hO5 (qz 2 (by omega) (by omega)).1 (qz 2 (by omega) (by omega)).2 hP2 hp0 hpw qzp.1 qzp.2 hRR vVa3 se5
  have h60 : s6 0 = s2 0 := hlow6 0 (by omega)
  have hC6 : zyC s6 vCol := fun t ht => by rw [hlow6 _ (by omega)]; exact hC2 t ht
  have hF6 : zyW (zfacts s6) vFa := by
    intro t k ht hk
    rw [hF2 t k ht hk]
    unfold zfacts
    rw [hlow6 _ (by omega)]
  have hrn6 : zrn s6 = zrn s2 := hlow6 2654 (by omega)
  obtain ⟨O7, s7, L7, vRc7, vRo7, vLa7, vVa7, se7, e10, hO7⟩ := zy_clears K hK hO6 (by omega) hC6 hF6 (hq6.1.trans (qz 3 (by omega) (by omega)).1) (hq6.2.1.trans (qz 3 (by omega) (by omega)).2) vRu vRo vLa3 vVa6 se6
  rw [h60, hrn6] at e10
  obtain ⟨O8, e11, _⟩ := zd_errors K hK hO7
  rw [zwo_0 hO7.1] at e11
  obtain ⟨P8, e12, _⟩ := zd_errors K hK hP6
  rw [zwo_0 hP6.1] at e12
  unfold hL_law
  have nt : ¬ bI true = 0 := by decide
  have e1' : hL_drawsTables K O0 (3 : Int32) zcol0 (fun _ _ => (0 : Int32)) se = _ := e1
  have e7' : hL_law_T K (nI (s2 0)) vRo vLa3 7 (0 : Int32) P1 = _ := e7
  rw [← h0] at e1' e2
  rw [e0, Option.bind_some, e1', Option.bind_some, if_neg nt, e2, Option.bind_some, if_neg nt, e3, Option.bind_some, if_neg nt, e4, Option.bind_some, e5, Option.bind_some, e6, Option.bind_some, if_pos hsum, e7', Option.bind_some, if_neg nt, e8, Option.bind_some, if_neg nt, e9, Option.bind_some, if_neg nt, e10, Option.bind_some, if_neg nt, e11, Option.bind_some, if_pos (show nI 0 = 0 from rfl), e12, Option.bind_some, if_pos (show nI 0 = 0 from rfl)]
