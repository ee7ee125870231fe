/-! the search: a state, a step, a run of steps -/
abbrev zSt := (Nat → Int32) × (Nat → Int32) × (Nat → Int32) × (Nat → Int32) × Int32 × Int32 × Int32 × Int32
def zadv (K : Nat) (cells : Nat → Int32) (size : Int32) (seq ask : Nat → Int32) (tot : Int32) (w : Nat → Int64) (k : Nat) (x2 : Int32) (S : zSt) : Option (Bool × zSt) :=
  fX8_advance_2 K cells size seq ask tot w k x2 S.1 S.2.1 S.2.2.1 S.2.2.2.1 S.2.2.2.2.1 S.2.2.2.2.2.1 S.2.2.2.2.2.2.1 S.2.2.2.2.2.2.2
def zstep (K : Nat) (cells : Nat → Int32) (size : Int32) (seq ask : Nat → Int32) (tot : Int32) (w : Nat → Int64) (S : zSt) : Option (Bool × zSt) :=
  (fX8_ask K cells size seq S.2.2.2.2.1 w S.1 S.2.1 S.2.2.1 S.2.2.2.2.2.1 S.2.2.2.2.2.2.1).bind fun q17 =>
    if q17.1 = (-1 : Int32) then some (false, q17.2.1, q17.2.2.1, q17.2.2.2.1, S.2.2.2.1, S.2.2.2.2.1 - 1, q17.2.2.2.2.1, q17.2.2.2.2.2, S.2.2.2.2.2.2.2)
    else (fX6_at 4 q17.2.2.1 S.2.2.2.2.1).bind fun q47 => (fX6_at 4 ask S.2.2.2.2.1).bind fun q58 =>
      if q47 < q58 then some (false, q17.2.1, q17.2.2.1, q17.2.2.2.1, S.2.2.2.1, S.2.2.2.2.1, q17.2.2.2.2.1, q17.2.2.2.2.2, S.2.2.2.2.2.2.2)
      else (fX8_choose seq S.2.2.2.1 S.2.2.2.2.1 q17.1 q17.2.1 q17.2.2.1 q17.2.2.2.2.2 S.2.2.2.2.2.2.2).bind fun q66 =>
        if S.2.2.2.2.1 + 1 < tot then (fX8_beginVariable q66.2.2.2 q66.1 q66.2.1 q17.2.2.2.1 S.2.2.2.1 S.2.2.2.2.1).bind fun q85 => some (false, q85.1, q85.2.1, q85.2.2.1, q85.2.2.2.1, q85.2.2.2.2, q17.2.2.2.2.1, q66.2.2.1, q66.2.2.2)
        else some (true, q66.1, q66.2.1, q17.2.2.2.1, S.2.2.2.1, S.2.2.2.2.1, q17.2.2.2.2.1, q66.2.2.1, q66.2.2.2)
theorem zadv_s (K : Nat) (cells : Nat → Int32) (size : Int32) (seq ask : Nat → Int32) (tot : Int32) (w : Nat → Int64) (k : Nat) (x2 : Int32) (S : zSt) :
    zadv K cells size seq ask tot w (k + 1) x2 S = if S.2.2.2.2.1 < 0 then some (false, S) else if (1000000 : Int32) ≤ x2 then some (false, S) else (zstep K cells size seq ask tot w S).bind fun r => if r.1 = true then some (true, r.2) else zadv K cells size seq ask tot w k (x2 + 1) r.2 := by
  obtain ⟨re, te, tu, ke, dp, lp, ch, ky⟩ := S
  unfold zadv zstep
  rw [fX8_advance_2]
  simp only [fX8_advance_88]
  by_cases h1 : dp < 0
  · rw [if_pos h1, if_pos h1]
  · rw [if_neg h1, if_neg h1]
    by_cases h2 : (1000000 : Int32) ≤ x2
    · rw [if_pos h2, if_pos h2]
    · rw [if_neg h2, if_neg h2]
      cases fX8_ask K cells size seq dp w re te tu lp ch with
      | none => rfl
      | some q17 =>
        simp only [Option.bind_some]
        by_cases h3 : q17.1 = (-1 : Int32)
        · rw [if_pos h3, if_pos h3]; rfl
        · rw [if_neg h3, if_neg h3]
          cases fX6_at 4 q17.2.2.1 dp with
          | none => rfl
          | some q47 =>
            simp only [Option.bind_some]
            cases fX6_at 4 ask dp with
            | none => rfl
            | some q58 =>
              simp only [Option.bind_some]
              by_cases h4 : q47 < q58
              · rw [if_pos h4, if_pos h4]; rfl
              · rw [if_neg h4, if_neg h4]
                cases fX8_choose seq ke dp q17.1 q17.2.1 q17.2.2.1 q17.2.2.2.2.2 ky with
                | none => rfl
                | some q66 =>
                  simp only [Option.bind_some]
                  by_cases h5 : dp + 1 < tot
                  · rw [if_pos h5, if_pos h5]
                    cases fX8_beginVariable q66.2.2.2 q66.1 q66.2.1 q17.2.2.2.1 ke dp with
                    | none => rfl
                    | some q85 => rfl
                  · rw [if_neg h5, if_neg h5]; rfl
/-- a run of n steps that gives the answers l -/
def zreach (f : zSt → Option (Bool × zSt)) : Nat → List (Nat × (Nat → Nat)) → zSt → zSt → Prop
  | 0, l, S, T => l = [] ∧ S = T
  | n + 1, l, S, T => ¬ S.2.2.2.2.1 < 0 ∧ ∃ U, (f S = some (false, U) ∧ zreach f n l U T) ∨ (f S = some (true, U) ∧ ∃ e l', l = e :: l' ∧ U.2.2.2.2.2.2.2 = nI e.1 ∧ U.2.2.2.2.2.2.1 = nI (zch e.2) ∧ zdg e.2 ∧ zreach f n l' U T)
theorem zreach_app (f : zSt → Option (Bool × zSt)) : ∀ n m l l' S T U, zreach f n l S T → zreach f m l' T U → zreach f (n + m) (l ++ l') S U
  | 0, m, l, l', S, T, U, h1, h2 => by
    obtain ⟨e1, e2⟩ := h1
    subst e1 e2
    rw [Nat.zero_add]; exact h2
  | n + 1, m, l, l', S, T, U, h1, h2 => by
    obtain ⟨h0, V, h1⟩ := h1
    rw [show n + 1 + m = (n + m) + 1 by omega]
    refine ⟨h0, V, ?_⟩
    rcases h1 with ⟨g1, g2⟩ | ⟨g1, e, l1, g2, g3, g4, g5, g6⟩
    · exact Or.inl ⟨g1, zreach_app f n m l l' V T U g2 h2⟩
    · refine Or.inr ⟨g1, e, l1 ++ l', by rw [g2]; rfl, g3, g4, g5, zreach_app f n m l1 l' V T U g6 h2⟩
theorem zreach_one (f : zSt → Option (Bool × zSt)) {S T : zSt} (h0 : ¬ S.2.2.2.2.1 < 0) (h : f S = some (false, T)) : zreach f 1 [] S T := ⟨h0, T, Or.inl ⟨h, rfl, rfl⟩⟩
theorem zreach_ans (f : zSt → Option (Bool × zSt)) {S T : zSt} (h0 : ¬ S.2.2.2.2.1 < 0) (h : f S = some (true, T)) {e : Nat × (Nat → Nat)} (h1 : T.2.2.2.2.2.2.2 = nI e.1) (h2 : T.2.2.2.2.2.2.1 = nI (zch e.2)) (h3 : zdg e.2) : zreach f 1 [e] S T := ⟨h0, T, Or.inr ⟨h, e, [], rfl, h1, h2, h3, rfl, rfl⟩⟩
/-- the next answer of a run, by advance -/
theorem zadv_run (K : Nat) (cells : Nat → Int32) (size : Int32) (seq ask : Nat → Int32) (tot : Int32) (w : Nat → Int64) : ∀ n l S T, zreach (zstep K cells size seq ask tot w) n l S T → T.2.2.2.2.1 < 0 → ∀ k i, n < k → i + n < 1000000 →
    (l = [] ∧ zadv K cells size seq ask tot w k (nI i) S = some (false, T)) ∨ (∃ e l' U n', l = e :: l' ∧ n' < n ∧ zadv K cells size seq ask tot w k (nI i) S = some (true, U) ∧ U.2.2.2.2.2.2.2 = nI e.1 ∧ U.2.2.2.2.2.2.1 = nI (zch e.2) ∧ zdg e.2 ∧ zreach (zstep K cells size seq ask tot w) n' l' U T)
  | 0, l, S, T, h, hT, k, i, hk, hi => by
    obtain ⟨e1, e2⟩ := h
    subst e1 e2
    obtain ⟨k, rfl⟩ : ∃ q, k = q + 1 := ⟨k - 1, by omega⟩
    left
    rw [zadv_s, if_pos hT]
    exact ⟨rfl, rfl⟩
  | n + 1, l, S, T, h, hT, k, i, hk, hi => by
    obtain ⟨h0, U, h⟩ := h
    obtain ⟨k, rfl⟩ : ∃ q, k = q + 1 := ⟨k - 1, by omega⟩
    have hlim : ¬ (1000000 : Int32) ≤ nI i := by rw [show (1000000 : Int32) = nI 1000000 from rfl, zi_le (by omega) (by omega)]; omega
    rw [zadv_s, if_neg h0, if_neg hlim]
    rcases h with ⟨g1, g2⟩ | ⟨g1, e, l1, g2, g3, g4, g5, g6⟩
    · rw [g1]
      simp only [Option.bind_some]
      rw [if_neg (by decide), show (1 : Int32) = nI 1 from rfl, zi_add]
      rcases zadv_run K cells size seq ask tot w n l U T g2 hT k (i + 1) (by omega) (by omega) with q | ⟨e, l', V, n', q1, q2, q3⟩
      · exact Or.inl q
      · exact Or.inr ⟨e, l', V, n', q1, by omega, q3⟩
    · right
      rw [g1]
      exact ⟨e, l1, U, n, g2, by omega, rfl, g3, g4, g5, g6⟩
