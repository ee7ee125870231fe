/-! calls of a query: an answer, the first from a place on -/
theorem zaft (K : Nat) (hK : 4096 < K) {w : Nat → Int64} {P : Nat → Bool} (hP : ∀ y, y < 4096 → zkb w y = P y) {s : Nat} (hs : s ≤ 4096) (hlt : znk P s < 4096) : fX0_after K w (if s = 0 then -1 else nI (s - 1)) = some (nI (znk P s)) := by
  have hnk : ∀ k, k ≤ 4096 → znk (zkb w) k = znk P k := fun k hk => zlst_cong (fun y h1 h2 => hP y (by omega))
  by_cases h0 : s = 0
  · rw [if_pos h0, zX0_afterN K hK w, hnk 0 (by omega), h0]
    unfold zkr; rw [h0] at hlt; rw [if_pos hlt]
  · rw [if_neg h0, zX0_after K hK w (by omega), show s - 1 + 1 = s by omega, hnk s hs]
    unfold zkr; rw [if_pos hlt]
theorem zX11_answerAt59 (K : Nat) (hK : 5000 < K) (fa : Nat → Int64) (od hd : Nat → Int32) (qc : Nat → Nat → Int32) (qs : Nat → Int32) (bc : Nat → Nat → Int32) (bs : Nat → Int32) (rtt : Int32) {s : Nat → Nat} {k v n : Nat} (hv : v < 4) {R : Nat → Nat → Bool} (hn : n < zcnt (zqP R s k) 4096) (q : zR13) (w fr : Nat → Int64) (g re fi : Nat → Int32) (rt im : Int32) (r : zR15) (pk ff p1 : Int32) (hfd : zFd R (zqa s k) (zqn s k) (zqpl s k) (zqc s k) r) :
    ∃ y pk', y < 4096 ∧ zqP R s k y = true ∧ zcnt (zqP R s k) y = n ∧ zapr (zapg (fX11_answerAt_59 K fa od hd qc qs bc bs rtt p1 (nI n) (nI v) K (-1) 0) q w fr g re fi rt im) r pk ff = some (Sum.inr (nI (zvy s k y v)), zgr q w fr g re fi rt im (zpf r (pk', ff))) := by
  have hcl := zcnt_le (zqP R s k) 4096
  obtain ⟨_, ⟨y, pk', h1, h2, h3, rfl⟩, e⟩ := z_for (F := fun m i (u : Nat) => zapr (zapg (fX11_answerAt_59 K fa od hd qc qs bc bs rtt p1 (nI n) (nI v) m (if u = 0 then -1 else nI (u - 1)) (nI i)) q w fr g re fi rt im) r pk ff) (n := n) (inv := fun i u => u ≤ 4096 ∧ zcnt (zqP R s k) u = i) (post := fun o => ∃ y pk', y < 4096 ∧ zqP R s k y = true ∧ zcnt (zqP R s k) y = n ∧ o = (Sum.inr (nI (zvy s k y v)), zgr q w fr g re fi rt im (zpf r (pk', ff))))
    (by
      intro m i u hi hinv
      obtain ⟨h1, h2⟩ := hinv
      left
      have hlt := zcnt_lt_znk (zqP R s k) h1 (by omega)
      have hyes := znk_yes (zqP R s k) hlt
      refine ⟨znk (zqP R s k) u + 1, ⟨by omega, ?_⟩, ?_⟩
      · rw [zcnt_s, zcnt_znk (zqP R s k) h1, h2, hyes]; rfl
      · show (if nI n ≤ nI i then _ else ((fX0_after K r.2.2.2.2.2.2.2.2.2.2.2.2.2.1 (if u = 0 then -1 else nI (u - 1))).bind fun q71 => zapr (zapg (fX11_answerAt_59 K fa od hd qc qs bc bs rtt p1 (nI n) (nI v) m q71 (nI i + (1 : Int32))) q w fr g re fi rt im) r pk ff)) = _
        rw [if_neg (show ¬ nI n ≤ nI i by rw [zi_le (by omega) (by omega)]; omega), zaft K (by omega) (P := zqP R s k) (fun y hy => hfd.2.2.2.2.1 y hy) h1 hlt, Option.bind_some, nI_succ i]
        rw [if_neg (show ¬ znk (zqP R s k) u + 1 = 0 by omega), show znk (zqP R s k) u + 1 - 1 = znk (zqP R s k) u by omega])
    (by
      intro m u hinv
      obtain ⟨h1, h2⟩ := hinv
      obtain ⟨y, y1, y2, y3, y4, y5, y6⟩ := zpick_step K (by omega) (w := r.2.2.2.2.2.2.2.2.2.2.2.2.2.1) (seq := r.2.2.1) hfd.1 hfd.2.1 (P := zqP R s k) (fun y hy => hfd.2.2.2.2.1 y hy) h1 (by omega) pk
      refine ⟨_, ⟨y, nI (zch (zpk (zqpl s k) (zqc s k) y (zqc s k))), y1, y3, ?_, rfl⟩, ?_⟩
      · rw [zcnt_s, y3, h2] at y4
        have e1 : (true).toNat = 1 := rfl
        omega
      · show (if nI n ≤ nI n then ((fX0_pickAfter K r.2.2.1 r.2.2.2.2.2.2.2.2.1 r.2.2.2.2.2.2.2.2.2.2.2.2.2.1 (if u = 0 then -1 else nI (u - 1)) pk).bind fun q88 => (fX1_valueOf (nI v) q88.2).bind fun q100 => some ((Sum.inr q100 : Nat ⊕ Int32), zgr q w fr g re fi rt im (zpf r (q88.2, ff)))) else _) = _
        rw [if_pos (by rw [zi_le (by omega) (by omega)]; omega), hfd.2.2.1, y6, Option.bind_some]
        show ((fX1_valueOf (nI v) (nI (zch (zpk (zqpl s k) (zqc s k) y (zqc s k))))).bind _) = _
        rw [zX1_valueOf (fun v _ => zpk_lt _ _ _ _ v) hv, Option.bind_some]
        rfl) n K 0 0 (by omega) ⟨by omega, rfl⟩ (by omega)
  exact ⟨y, pk', h1, h2, h3, e⟩
