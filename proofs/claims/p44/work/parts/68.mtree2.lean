/-! the reference tells whether a query is a tree -/
def zPs (m : Nat) (L0 : Nat → Nat) (G0 : Nat → Bool) (f : Bool) (L : Nat → Nat) (G : Nat → Bool) (chk : Prop) : Prop :=
  (f = true ∧ L = L0 ∧ G = G0 ∧ chk) ∨ (f = false ∧ zmz L G m < zmz L0 G0 m ∧ (zRed (zmu L0 G0 m) ↔ zRed (zmu L G m)))
theorem zPs_V {m : Nat} {L0 : Nat → Nat} {G0 : Nat → Bool} {f : Bool} {L : Nat → Nat} {G : Nat → Bool} {chk chk' : Prop} (h : zPs m L0 G0 f L G chk) {i v : Nat} (hV : zaV1 L G m i v) (hl : L i ^^^ 2 ^ v < L i) : zPs m L0 G0 false (zup L i (L i ^^^ 2 ^ v)) G chk' := by
  have h1 := zmz_V hV hl
  have h2 := zRed_yS (zaV1_s hV)
  rcases h with ⟨_, rfl, rfl, _⟩ | ⟨_, q1, q2⟩
  · exact Or.inr ⟨rfl, h1, h2⟩
  · exact Or.inr ⟨rfl, Nat.lt_trans h1 q1, q2.trans h2⟩
theorem zPs_A {m : Nat} {L0 : Nat → Nat} {G0 : Nat → Bool} {f : Bool} {L : Nat → Nat} {G : Nat → Bool} {chk chk' : Prop} (h : zPs m L0 G0 f L G chk) {i : Nat} (hA : zaA1 L G m i) : zPs m L0 G0 false L (zup G i true) chk' := by
  have h1 := zmz_A hA
  have h2 := zRed_yS (zaA1_s hA)
  rcases h with ⟨_, rfl, rfl, _⟩ | ⟨_, q1, q2⟩
  · exact Or.inr ⟨rfl, h1, h2⟩
  · exact Or.inr ⟨rfl, Nat.lt_trans h1 q1, q2.trans h2⟩
theorem zPs_N {m : Nat} {L0 : Nat → Nat} {G0 : Nat → Bool} {f : Bool} {L : Nat → Nat} {G : Nat → Bool} {chk chk' : Prop} (h : zPs m L0 G0 f L G chk) (hc : L = L0 → G = G0 → chk → chk') : zPs m L0 G0 f L G chk' := by
  rcases h with ⟨q0, q1, q2, q3⟩ | q
  · exact Or.inl ⟨q0, q1, q2, hc q1 q2 q3⟩
  · exact Or.inr q
abbrev zRT := Option (Bool × (Nat → Int32) × (Nat → Int32))
theorem zX12_t74 (K : Nat) (hK : 5 < K) {now : Nat → Int32} {s : Nat → Nat} (h : zM now s) {q : Nat} (hq : q < 4) (hQ : zQ s q) (r42 : Int32 → (Nat → Int32) → (Nat → Int32) → zRT) (r50 : Int32 → Int32 → (Nat → Int32) → (Nat → Int32) → zRT) {L0 : Nat → Nat} {G0 : Nat → Bool} {i : Nat} (hi : i < zqn s q) {f : Bool} {L : Nat → Nat} {G : Nat → Bool} {left gone : Nat → Int32} (hG : G i = false) (hT : zTr left gone L G (zqn s q)) (hP : zPs (zqn s q) L0 G0 f L G (∀ j, j < i → (∀ v, v < 4 → ¬ zaV1 L0 G0 (zqn s q) j v) ∧ ¬ zaA1 L0 G0 (zqn s q) j)) :
    ∃ f' L' G' left' gone', fX12_isTreeOf_74 K now (nI q) r42 r50 K (bI f) (nI i) (nI 1) left gone = r50 (bI f') (nI (i + 1)) left' gone' ∧ zTr left' gone' L' G' (zqn s q) ∧ zPs (zqn s q) L0 G0 f' L' G' (∀ j, j < i + 1 → (∀ v, v < 4 → ¬ zaV1 L0 G0 (zqn s q) j v) ∧ ¬ zaA1 L0 G0 (zqn s q) j) := by
  have hn := hQ.1
  have ii : inB (nI i) 5 = true := by rw [zi_inB (by omega)]; omega
  have ci := zi_clamp (show i < 2147483648 by omega)
  have p2 : ∀ v, v < 4 → nI (2 ^ v) <<< ((1 : Int32) &&& 31) = nI (2 ^ (v + 1)) := by
    intro v hv
    have h : ∀ v : Fin 4, nI (2 ^ v.val) <<< ((1 : Int32) &&& 31) = nI (2 ^ (v.val + 1)) := by decide
    exact h ⟨v, hv⟩
  have p16 : ∀ v, v < 4 → ¬ (16 : Int32) ≤ nI (2 ^ v) := by
    intro v hv
    have h : ∀ v : Fin 4, ¬ (16 : Int32) ≤ nI (2 ^ v.val) := by decide
    exact h ⟨v, hv⟩
  obtain ⟨⟨f1, L1, left1⟩, ⟨hT1, hP1⟩, e⟩ := z_forD (F := fun k v (z : Bool × (Nat → Nat) × (Nat → Int32)) => fX12_isTreeOf_74 K now (nI q) r42 r50 k (bI z.1) (nI i) (nI (2 ^ v)) z.2.2 gone) (n := 4)
    (inv := fun v z => zTr z.2.2 gone z.2.1 G (zqn s q) ∧ zPs (zqn s q) L0 G0 z.1 z.2.1 G ((∀ j, j < i → (∀ v, v < 4 → ¬ zaV1 L0 G0 (zqn s q) j v) ∧ ¬ zaA1 L0 G0 (zqn s q) j) ∧ ∀ u, u < v → ¬ zaV1 L0 G0 (zqn s q) i u))
    (D := fun z => ((fX12_goes K now z.2.2 gone (nI q) (nI i)).bind fun q132 => if (bI q132) = 0 then (fX12_isTreeOf_147 K now (nI q) r42 r50 (bI z.1) (nI i) z.2.2 gone) else (if inB (nI i) 5 = true then (fX12_isTreeOf_147 K now (nI q) r42 r50 (0 : Int32) (nI i) z.2.2 (upd gone (nI i).toNatClampNeg ((1 : Int32) &&& 1))) else none)))
    (by
      intro k v z hv hinv
      obtain ⟨hT, hP⟩ := hinv
      obtain ⟨g1, g2, g3⟩ := hT i hi
      have st : ∀ _ : Unit, fX12_isTreeOf_74 K now (nI q) r42 r50 (k + 1) (bI z.1) (nI i) (nI (2 ^ v)) z.2.2 gone = _ := fun _ => by
        rw [fX12_isTreeOf_74, if_neg (p16 v hv), if_pos ii, ci, g2]
      have nx : (¬ zaV1 z.2.1 G (zqn s q) i v) → zPs (zqn s q) L0 G0 z.1 z.2.1 G ((∀ j, j < i → (∀ v, v < 4 → ¬ zaV1 L0 G0 (zqn s q) j v) ∧ ¬ zaA1 L0 G0 (zqn s q) j) ∧ ∀ u, u < v + 1 → ¬ zaV1 L0 G0 (zqn s q) i u) := by
        intro hn
        refine zPs_N hP ?_
        intro e1 e2 c
        refine ⟨c.1, ?_⟩
        intro u hu
        rcases Nat.lt_or_ge u v with r | r
        · exact c.2 u r
        · rw [show u = v by omega, ← e1, ← e2]; exact hn
      cases hb : (z.2.1 i).testBit v
      · refine ⟨z, ⟨hT, nx (fun w => by have := w.2.2.1; rw [hb] at this; exact absurd this (by decide))⟩, ?_⟩
        show fX12_isTreeOf_74 K now (nI q) r42 r50 (k + 1) (bI z.1) (nI i) (nI (2 ^ v)) z.2.2 gone = _
        rw [st (), if_pos ((zx_and ⟨z.2.1 i, g1⟩ ⟨v, hv⟩).mpr hb)]
        unfold fX12_isTreeOf_120
        rw [p2 v hv]
      · have hnb : ¬ (nI (z.2.1 i) &&& nI (2 ^ v)) = 0 := fun w => by
          have := (zx_and ⟨z.2.1 i, g1⟩ ⟨v, hv⟩).mp w
          rw [show (z.2.1 i).testBit v = true from hb] at this; exact absurd this (by decide)
        have hcl := zcnt_le (fun i => !G i && (z.2.1 i).testBit v) (zqn s q)
        have hsv := zstand_V (v := v) hi hG hb
        by_cases hV : zaV1 z.2.1 G (zqn s q) i v
        · have hl := zx_less ⟨z.2.1 i, g1⟩ ⟨v, hv⟩ hb
          refine ⟨(false, zup z.2.1 i (z.2.1 i ^^^ 2 ^ v), upd z.2.2 i (nI (z.2.1 i ^^^ 2 ^ v))), ⟨zTr_V hT (Nat.lt_trans hl.1 g1), zPs_V hP hV hl.1⟩, ?_⟩
          show fX12_isTreeOf_74 K now (nI q) r42 r50 (k + 1) (bI z.1) (nI i) (nI (2 ^ v)) z.2.2 gone = _
          rw [st (), if_neg hnb, zX12_standing K hK h hq hQ hT hv, Option.bind_some, if_pos (by rw [show (1 : Int32) = nI 1 from rfl, zi_le (by omega) (by omega)]; exact hsv.mpr hV), if_pos ii, if_pos ii, hl.2.2]
          unfold fX12_isTreeOf_120
          rw [p2 v hv]; rfl
        · refine ⟨z, ⟨hT, nx hV⟩, ?_⟩
          show fX12_isTreeOf_74 K now (nI q) r42 r50 (k + 1) (bI z.1) (nI i) (nI (2 ^ v)) z.2.2 gone = _
          rw [st (), if_neg hnb, zX12_standing K hK h hq hQ hT hv, Option.bind_some, if_neg (by rw [show (1 : Int32) = nI 1 from rfl, zi_le (by omega) (by omega)]; exact fun w => hV (hsv.mp w))]
          unfold fX12_isTreeOf_120
          rw [p2 v hv])
    (by
      intro k z _
      show fX12_isTreeOf_74 K now (nI q) r42 r50 (k + 1) (bI z.1) (nI i) (nI (2 ^ 4)) z.2.2 gone = _
      rw [fX12_isTreeOf_74, if_pos (show (16 : Int32) ≤ nI (2 ^ 4) by decide)])
    4 K 0 (f, L, left) (by omega) ⟨hT, zPs_N hP (fun _ _ c => ⟨c, fun u hu => by omega⟩)⟩ (by omega)
  have e' : fX12_isTreeOf_74 K now (nI q) r42 r50 K (bI f) (nI i) (nI 1) left gone = ((fX12_goes K now left1 gone (nI q) (nI i)).bind fun q132 => if (bI q132) = 0 then (fX12_isTreeOf_147 K now (nI q) r42 r50 (bI f1) (nI i) left1 gone) else (if inB (nI i) 5 = true then (fX12_isTreeOf_147 K now (nI q) r42 r50 (0 : Int32) (nI i) left1 (upd gone (nI i).toNatClampNeg ((1 : Int32) &&& 1))) else none)) := e
  obtain ⟨b, eb, hb⟩ := zX12_goes K hK h hq hQ hT1 hi hG
  rw [e', eb, Option.bind_some]
  unfold fX12_isTreeOf_147
  rw [← nI_succ]
  cases b
  · rw [if_pos (show bI false = 0 from rfl)]
    refine ⟨f1, L1, G, left1, gone, rfl, hT1, zPs_N hP1 ?_⟩
    intro e1 e2 c j hj
    rcases Nat.lt_or_ge j i with r | r
    · exact c.1 j r
    · rw [show j = i by omega]
      refine ⟨c.2, ?_⟩
      rw [← e1, ← e2]
      exact fun w => absurd (hb.mpr w) (by decide)
  · rw [if_neg (show ¬ bI true = 0 by decide), if_pos ii, ci, show (1 : Int32) &&& 1 = 1 by decide]
    exact ⟨false, L1, zup G i true, left1, upd gone i 1, rfl, zTr_A hT1, zPs_A hP1 (hb.mp rfl)⟩
theorem zX12_t50 (K : Nat) (hK : 5 < K) {now : Nat → Int32} {s : Nat → Nat} (h : zM now s) {q : Nat} (hq : q < 4) (hQ : zQ s q) (r42 : Int32 → (Nat → Int32) → (Nat → Int32) → zRT) {L0 : Nat → Nat} {G0 : Nat → Bool} {left gone : Nat → Int32} (hT : zTr left gone L0 G0 (zqn s q)) :
    ∃ f L G left' gone', fX12_isTreeOf_50 K now (nI q) r42 K (bI true) (nI 0) left gone = r42 (bI f) left' gone' ∧ zTr left' gone' L G (zqn s q) ∧ zPs (zqn s q) L0 G0 f L G ((∀ j v, v < 4 → ¬ zaV1 L0 G0 (zqn s q) j v) ∧ ∀ j, ¬ zaA1 L0 G0 (zqn s q) j) := by
  have hn := hQ.1
  obtain ⟨⟨f1, L1, G1, left1, gone1⟩, ⟨hT1, hP1⟩, e⟩ := z_forD (F := fun k i (z : Bool × (Nat → Nat) × (Nat → Bool) × (Nat → Int32) × (Nat → Int32)) => fX12_isTreeOf_50 K now (nI q) r42 k (bI z.1) (nI i) z.2.2.2.1 z.2.2.2.2) (n := zqn s q)
    (inv := fun i z => zTr z.2.2.2.1 z.2.2.2.2 z.2.1 z.2.2.1 (zqn s q) ∧ zPs (zqn s q) L0 G0 z.1 z.2.1 z.2.2.1 (∀ j, j < i → (∀ v, v < 4 → ¬ zaV1 L0 G0 (zqn s q) j v) ∧ ¬ zaA1 L0 G0 (zqn s q) j))
    (D := fun z => r42 (bI z.1) z.2.2.2.1 z.2.2.2.2)
    (by
      intro k i z hi hinv
      obtain ⟨hT, hP⟩ := hinv
      obtain ⟨g1, g2, g3⟩ := hT i hi
      have ii : inB (nI i) 5 = true := by rw [zi_inB (by omega)]; omega
      have ci := zi_clamp (show i < 2147483648 by omega)
      have st : ∀ _ : Unit, fX12_isTreeOf_50 K now (nI q) r42 (k + 1) (bI z.1) (nI i) z.2.2.2.1 z.2.2.2.2 = _ := fun _ => by
        rw [fX12_isTreeOf_50, zX12_atoms h hq, Option.bind_some, if_neg (by rw [zi_le (by omega) (by omega)]; omega), if_pos ii, ci, g3]
      cases hG : z.2.2.1 i
      · obtain ⟨f', L', G', left', gone', ea, a1, a2⟩ := zX12_t74 K hK h hq hQ r42 (fX12_isTreeOf_50 K now (nI q) r42 k) hi hG hT hP
        refine ⟨(f', L', G', left', gone'), ⟨a1, a2⟩, ?_⟩
        show fX12_isTreeOf_50 K now (nI q) r42 (k + 1) (bI z.1) (nI i) z.2.2.2.1 z.2.2.2.2 = _
        rw [st (), hG, if_pos (show bI false = 0 from rfl)]
        exact ea
      · refine ⟨z, ⟨hT, zPs_N hP ?_⟩, ?_⟩
        · intro e1 e2 c j hj
          rcases Nat.lt_or_ge j i with r | r
          · exact c j r
          · rw [show j = i by omega]
            rw [e2] at hG
            refine ⟨fun v _ w => ?_, fun w => ?_⟩
            · have := w.2.1; rw [hG] at this; exact absurd this (by decide)
            · have := w.2.1; rw [hG] at this; exact absurd this (by decide)
        · show fX12_isTreeOf_50 K now (nI q) r42 (k + 1) (bI z.1) (nI i) z.2.2.2.1 z.2.2.2.2 = _
          rw [st (), hG, if_neg (show ¬ bI true = 0 by decide)]
          unfold fX12_isTreeOf_147
          rw [← nI_succ])
    (by
      intro k z _
      show fX12_isTreeOf_50 K now (nI q) r42 (k + 1) (bI z.1) (nI (zqn s q)) z.2.2.2.1 z.2.2.2.2 = _
      rw [fX12_isTreeOf_50, zX12_atoms h hq, Option.bind_some, if_pos (by rw [zi_le (by omega) (by omega)]; omega)])
    (zqn s q) K 0 (true, L0, G0, left, gone) (by omega) ⟨hT, Or.inl ⟨rfl, rfl, rfl, fun j hj => by omega⟩⟩ (by omega)
  refine ⟨f1, L1, G1, left1, gone1, e, hT1, zPs_N hP1 ?_⟩
  intro _ _ c
  exact ⟨fun j v hv w => (c j w.1).1 v hv w, fun j w => (c j w.1).2 w⟩
theorem zX12_t161 (K : Nat) (hK : 5 < K) {now : Nat → Int32} {s : Nat → Nat} (h : zM now s) {q : Nat} (hq : q < 4) (hQ : zQ s q) {L : Nat → Nat} {G : Nat → Bool} {left gone : Nat → Int32} (hT : zTr left gone L G (zqn s q)) :
    ∃ b, fX12_isTreeOf_161 K now (nI q) K (bI true) (nI 0) left gone = some (b, left, gone) ∧ (b = true ↔ ∀ i, i < zqn s q → G i = true) := by
  have hn := hQ.1
  have bi : ∀ (b : Bool) (z : (Nat → Int32) × (Nat → Int32)), (if bI b = (0 : Int32) then some (false, z) else if bI b = 1 then some (true, z) else none) = some (b, z) := by intro b z; cases b <;> rfl
  have key : fX12_isTreeOf_161 K now (nI q) K (bI true) (nI 0) left gone = some (zall G (zqn s q), left, gone) := by
    refine z_forE (F := fun k i (_ : Unit) => fX12_isTreeOf_161 K now (nI q) k (bI (zall G i)) (nI i) left gone) (n := zqn s q) (inv := fun _ _ => True) ?_ ?_ (zqn s q) K 0 () (by omega) trivial (by omega)
    · intro k i _ hi _
      left
      refine ⟨(), trivial, ?_⟩
      obtain ⟨g1, g2, g3⟩ := hT i hi
      have ii : inB (nI i) 5 = true := by rw [zi_inB (by omega)]; omega
      have ci := zi_clamp (show i < 2147483648 by omega)
      show fX12_isTreeOf_161 K now (nI q) (k + 1) (bI (zall G i)) (nI i) left gone = fX12_isTreeOf_161 K now (nI q) k (bI (zall G i && G i)) (nI (i + 1)) left gone
      rw [fX12_isTreeOf_161, zX12_atoms h hq, Option.bind_some, if_neg (by rw [zi_le (by omega) (by omega)]; omega), if_pos ii, ci, g3]
      unfold fX12_isTreeOf_189 fX12_isTreeOf_190
      rw [← nI_succ]
      cases zall G i
      · rw [if_pos (show bI false = 0 from rfl)]; rfl
      · rw [if_neg (show ¬ bI true = 0 by decide)]
        cases G i
        · rw [if_pos (show bI false = 0 from rfl)]; rfl
        · rw [if_neg (show ¬ bI true = 0 by decide)]; rfl
    · intro k _ _
      show fX12_isTreeOf_161 K now (nI q) (k + 1) (bI (zall G (zqn s q))) (nI (zqn s q)) left gone = _
      rw [fX12_isTreeOf_161, zX12_atoms h hq, Option.bind_some, if_pos (by rw [zi_le (by omega) (by omega)]; omega), bi]
  exact ⟨_, key, zall_iff⟩
theorem zX12_t42 (K : Nat) (hK : 5 < K) {now : Nat → Int32} {s : Nat → Nat} (h : zM now s) {q : Nat} (hq : q < 4) (hQ : zQ s q) : ∀ d k {L : Nat → Nat} {G : Nat → Bool} {left gone : Nat → Int32}, zTr left gone L G (zqn s q) → zmz L G (zqn s q) ≤ d → d + 1 < k →
    ∃ b left' gone', fX12_isTreeOf_42 K now (nI q) k (bI false) left gone = some (b, left', gone') ∧ (b = true ↔ zRed (zmu L G (zqn s q))) := by
  have fin : ∀ k {L : Nat → Nat} {G : Nat → Bool} {left gone : Nat → Int32}, zTr left gone L G (zqn s q) → ((∀ j v, v < 4 → ¬ zaV1 L G (zqn s q) j v) ∧ ∀ j, ¬ zaA1 L G (zqn s q) j) →
      ∃ b, fX12_isTreeOf_42 K now (nI q) (k + 1) (bI true) left gone = some (b, left, gone) ∧ (b = true ↔ zRed (zmu L G (zqn s q))) := by
    intro k L G left gone hT hc
    obtain ⟨b, eb, hb⟩ := zX12_t161 K hK h hq hQ hT
    refine ⟨b, ?_, ?_⟩
    · rw [fX12_isTreeOf_42, if_neg (show ¬ bI true = 0 by decide)]
      exact eb
    · rw [hb, zRed_end (zyS_end (fun i hi => (hT i hi).1) hc.1 hc.2), zmu_0]
  intro d
  induction d with
  | zero =>
    intro k L G left gone hT hz hk
    obtain ⟨k, rfl⟩ : ∃ z, k = z + 1 := ⟨k - 1, by omega⟩
    obtain ⟨k, rfl⟩ : ∃ z, k = z + 1 := ⟨k - 1, by omega⟩
    obtain ⟨f, L1, G1, left1, gone1, ea, a1, a2⟩ := zX12_t50 K hK h hq hQ (fX12_isTreeOf_42 K now (nI q) (k + 1)) hT
    have st : fX12_isTreeOf_42 K now (nI q) (k + 1 + 1) (bI false) left gone = fX12_isTreeOf_42 K now (nI q) (k + 1) (bI f) left1 gone1 := by
      rw [fX12_isTreeOf_42, if_pos (show bI false = 0 from rfl)]
      exact ea
    rcases a2 with ⟨rfl, rfl, rfl, c⟩ | ⟨_, q1, _⟩
    · obtain ⟨b, eb, hb⟩ := fin k a1 c
      exact ⟨b, left1, gone1, by rw [st, eb], hb⟩
    · omega
  | succ d ih =>
    intro k L G left gone hT hz hk
    obtain ⟨k, rfl⟩ : ∃ z, k = z + 1 := ⟨k - 1, by omega⟩
    obtain ⟨f, L1, G1, left1, gone1, ea, a1, a2⟩ := zX12_t50 K hK h hq hQ (fX12_isTreeOf_42 K now (nI q) k) hT
    have st : fX12_isTreeOf_42 K now (nI q) (k + 1) (bI false) left gone = fX12_isTreeOf_42 K now (nI q) k (bI f) left1 gone1 := by
      rw [fX12_isTreeOf_42, if_pos (show bI false = 0 from rfl)]
      exact ea
    rcases a2 with ⟨rfl, rfl, rfl, c⟩ | ⟨rfl, q1, q2⟩
    · obtain ⟨k, rfl⟩ : ∃ z, k = z + 1 := ⟨k - 1, by omega⟩
      obtain ⟨b, eb, hb⟩ := fin k a1 c
      exact ⟨b, left1, gone1, by rw [st, eb], hb⟩
    · obtain ⟨b, l2, g2, eb, hb⟩ := ih k a1 (by omega) (by omega)
      exact ⟨b, l2, g2, by rw [st, eb], by rw [hb, q2]⟩
theorem zX12_isTreeOf (K : Nat) (hK : 1000 < K) {now : Nat → Int32} {s : Nat → Nat} (h : zM now s) {q : Nat} (hq : q < 4) (hQ : zQ s q) (left gone : Nat → Int32) : ∃ b left' gone', fX12_isTreeOf K now (nI q) left gone = some (b, left', gone') ∧ (b = true ↔ zTree (zqa s q) (zqn s q)) := by
  have hn := hQ.1
  obtain ⟨⟨l1, g1⟩, h1, e⟩ := z_forD (F := fun k i (z : (Nat → Int32) × (Nat → Int32)) => fX12_isTreeOf_2 K now (nI q) k (nI i) z.1 z.2) (n := zqn s q) (inv := fun i z => ∀ j, j < i → z.1 j = nI (zaS (zqa s q j)) ∧ z.2 j = bI false) (D := fun z => fX12_isTreeOf_42 K now (nI q) K (bI false) z.1 z.2)
    (by
      intro k i z hi hz
      have ii : inB (nI i) 5 = true := by rw [zi_inB (by omega)]; omega
      have ci := zi_clamp (show i < 2147483648 by omega)
      have hbp : zqp q i + 3 < 2780 := by unfold zqp; omega
      have hvar : fX12_variables K now (nI (zqp q i)) = some (nI (zaS (zqa s q i))) := zX12_variables K (by omega) h hbp (hQ.2 i hi)
      refine ⟨(upd z.1 i (nI (zaS (zqa s q i))), upd z.2 i (bI false)), ?_, ?_⟩
      · intro j hj
        show upd z.1 i _ j = _ ∧ upd z.2 i _ j = _
        rw [zu_at, zu_at]
        by_cases g : j = i
        · rw [if_pos g, if_pos g, g]; exact ⟨rfl, rfl⟩
        · rw [if_neg g, if_neg g]; exact hz j (by omega)
      · show fX12_isTreeOf_2 K now (nI q) (k + 1) (nI i) z.1 z.2 = _
        rw [fX12_isTreeOf_2, zX12_atoms h hq, Option.bind_some, if_neg (by rw [zi_le (by omega) (by omega)]; omega), zX12_atomAt, Option.bind_some, hvar, Option.bind_some, if_pos ii, if_pos ii, ci, ← nI_succ, zi_b00])
    (by
      intro k z _
      show fX12_isTreeOf_2 K now (nI q) (k + 1) (nI (zqn s q)) z.1 z.2 = _
      rw [fX12_isTreeOf_2, zX12_atoms h hq, Option.bind_some, if_pos (by rw [zi_le (by omega) (by omega)]; omega)]; rfl)
    (zqn s q) K 0 (left, gone) (by omega) (fun j hj => by omega) (by omega)
  have hT : zTr l1 g1 (fun i => zaS (zqa s q i)) (fun _ => false) (zqn s q) := by
    intro i hi
    exact ⟨zaS_lt (hQ.2 i hi), h1 i hi⟩
  have hz := zmz_le (L := fun i => zaS (zqa s q i)) (G := fun _ => false) (m := zqn s q) (fun i hi => zaS_lt (hQ.2 i hi)) (zqn s q) (Nat.le_refl _)
  obtain ⟨b, l2, g2, eb, hb⟩ := zX12_t42 K (by omega) h hq hQ 80 K hT (by omega) (by omega)
  refine ⟨b, l2, g2, ?_, hb⟩
  unfold fX12_isTreeOf
  have e' : fX12_isTreeOf_2 K now (nI q) K 0 left gone = fX12_isTreeOf_42 K now (nI q) K (bI false) l1 g1 := e
  rw [e', eb]
