/-! a fresh object -/
theorem zd_init (K : Nat) (hK : 1000000 < K) : ∃ O s, hX11_init K = some O ∧ zIc O s [] ∧ ∀ i, i < 2780 → s i = zcs19 i := by
  obtain ⟨wd, fa, od, hd, qc, qs, bc, bs, tt, rt, H, q, w, fr, g1, g2, re, fi, r, pk, sz, lh, lp, sets, md, now, before, row, comes, layer, rounds, value, place, made, left, gone, e, er, hI⟩ := zi_begin K hK
  obtain ⟨s, M, hW, hM, hM4, hS, hH, _, hff, hm, _⟩ := hI g2
  obtain ⟨now2, hm2, er2⟩ := zi_ref K
  have hnow : now = now2 := by
    rw [er2] at er
    cases ef : fX12_follows K now2 (fun _ => (0 : Int32)) (fun _ => (0 : Int32)) (fun _ => (0 : Int32)) (0 : Int32) (fun _ => (0 : Int32)) with
    | none =>
      rw [ef] at er
      exact absurd er (by intro h; cases h)
    | some z =>
      rw [ef, Option.bind_some] at er
      exact (congrArg (fun x => x.1) (Option.some.inj er)).symm
  subst hnow
  have hs : ∀ i, i < 2780 → s i = zcs19 i := by
    intro i hi
    obtain ⟨a1, a2⟩ := hm i hi
    obtain ⟨b1, b2⟩ := hm2 i hi
    rw [← zi_same i hi]
    rw [a1] at b1
    exact (zi_eq (by omega) (by omega)).1 b1
  refine ⟨(wd, fa, od, hd, qc, qs, bc, bs, tt, rt, H, q, w, fr, g1, g2, re, fi, 0, 0, r, pk, sz, lh, lp, sets, md, -1), s, ?_, ⟨hW, fun i hi => (hm i hi).2, hS, ?_, Or.inl rfl, Or.inl rfl⟩, hs⟩
  · unfold hX11_init
    rw [e]
    rfl
  · obtain ⟨n, k, HH, x1, x2, x3, x4, x5, x6⟩ := hH
    have hk : k = 0 := by
      have : nI 0 = nI k := x3
      have := (zi_eq (by omega) (by omega)).1 this
      omega
    subst hk
    exact ⟨n, x1, x2, x4, by decide, fun j s' hj => absurd hj (by simp)⟩
