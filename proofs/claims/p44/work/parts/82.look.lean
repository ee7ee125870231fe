/-! what was found, and the look at it -/
abbrev zF15 (β : Type) := (Nat → Int32) → Int32 → (Nat → Int32) → (Nat → Int32) → (Nat → Int32) → (Nat → Int32) → (Nat → Int32) → (Nat → Int32) → Int32 → Int32 → Int32 → Int32 → Int32 → (Nat → Int64) → Int32 → β
def zapr {β : Type} (f : zF15 β) (r : zR15) : β := f r.1 r.2.1 r.2.2.1 r.2.2.2.1 r.2.2.2.2.1 r.2.2.2.2.2.1 r.2.2.2.2.2.2.1 r.2.2.2.2.2.2.2.1 r.2.2.2.2.2.2.2.2.1 r.2.2.2.2.2.2.2.2.2.1 r.2.2.2.2.2.2.2.2.2.2.1 r.2.2.2.2.2.2.2.2.2.2.2.1 r.2.2.2.2.2.2.2.2.2.2.2.2.1 r.2.2.2.2.2.2.2.2.2.2.2.2.2.1 r.2.2.2.2.2.2.2.2.2.2.2.2.2.2
/-- the tuples that the calls give back -/
def zpf {τ : Type} (r : zR15) (t : τ) : (Nat → Int32) × Int32 × (Nat → Int32) × (Nat → Int32) × (Nat → Int32) × (Nat → Int32) × (Nat → Int32) × (Nat → Int32) × Int32 × Int32 × Int32 × Int32 × Int32 × (Nat → Int64) × Int32 × τ := (r.1, r.2.1, r.2.2.1, r.2.2.2.1, r.2.2.2.2.1, r.2.2.2.2.2.1, r.2.2.2.2.2.2.1, r.2.2.2.2.2.2.2.1, r.2.2.2.2.2.2.2.2.1, r.2.2.2.2.2.2.2.2.2.1, r.2.2.2.2.2.2.2.2.2.2.1, r.2.2.2.2.2.2.2.2.2.2.2.1, r.2.2.2.2.2.2.2.2.2.2.2.2.1, r.2.2.2.2.2.2.2.2.2.2.2.2.2.1, r.2.2.2.2.2.2.2.2.2.2.2.2.2.2, t)
def zgr {τ : Type} (q : zR13) (w fr : Nat → Int64) (g re fi : Nat → Int32) (rt im : Int32) (t : τ) : (Nat → Int32) × Int32 × (Nat → Int32) × (Nat → Int32) × (Nat → Int32) × (Nat → Int32) × (Nat → Int32) × (Nat → Int32) × Int32 × Int32 × Int32 × Int32 × Int32 × (Nat → Int64) × (Nat → Int64) × (Nat → Int32) × (Nat → Int32) × (Nat → Int32) × Int32 × Int32 × τ := (q.1, q.2.1, q.2.2.1, q.2.2.2.1, q.2.2.2.2.1, q.2.2.2.2.2.1, q.2.2.2.2.2.2.1, q.2.2.2.2.2.2.2.1, q.2.2.2.2.2.2.2.2.1, q.2.2.2.2.2.2.2.2.2.1, q.2.2.2.2.2.2.2.2.2.2.1, q.2.2.2.2.2.2.2.2.2.2.2.1, q.2.2.2.2.2.2.2.2.2.2.2.2, w, fr, g, re, fi, rt, im, t)
/-- what is kept of a look: of no query, or of one -/
def zFo (s : Nat → Nat) (w : Nat → Int64) (im : Int32) (r : zR15) (ff : Int32) : Prop := ff = -1 ∨ ∃ q, q < 4 ∧ ff = nI q ∧ im = 1 ∧ zFd (zw w) (zqa s q) (zqn s q) (zqpl s q) (zqc s q) r
theorem zGn_in {s : Nat → Nat} (hW : zWF s) {M : Nat → Nat} {w : Nat → Int64} (h : zeqR (zw w) (zly s M 5).1) {q : Nat} (hq : q < 4) : zRin (zw w) (zqa s q) (zqn s q) := by
  intro i hi k hk g
  obtain ⟨h1, h2, h3⟩ := hW.2.2.2.2.2.1 q hq
  have h4 := h3 i hi
  have h0 := hW.1
  rw [h _ k (by omega) hk] at g
  exact zly_Rz hW.2.2.2.2.2.2.1 (zWF_Rz hW) M 5 _ (show (zqa s q i).1 < 5 by omega) k hk g
theorem zLook (K : Nat) (hK : 1000000 < K) {s : Nat → Nat} (hW : zWF s) {od : Nat → Int32} (hod : ∀ q, q < 4 → od q = nI (zqo s q)) {qc : Nat → Nat → Int32} {qs : Nat → Int32} (hq5 : ∀ q, q < 4 → qs q = nI (zqn s q) ∧ zL (qc q) (zqn s q) (zqa s q) (fun _ => false)) {M : Nat → Nat} {w : Nat → Int64} (hw : zeqR (zw w) (zly s M 5).1) (im : Int32) (r : zR15) (ff : Int32) (hff : zFo s w im r ff) {q : Nat} (hq : q < 4) :
    ∃ r', zapr (fX11_look K od qc qs w (nI q)) r ff = some (zpf r' (nI q)) ∧ zFd (zw w) (zqa s q) (zqn s q) (zqpl s q) (zqc s q) r' := by
  unfold zapr fX11_look
  by_cases e : ff = nI q
  · rw [if_pos e, e]
    rcases hff with h | ⟨q', h1, h2, h3, h4⟩
    · rw [e] at h; exact absurd h (zi_m1 (by omega))
    · have : q' = q := by
        rw [e] at h2
        exact ((zi_eq (by omega) (by omega)).1 h2).symm
      subst this
      exact ⟨r, rfl, h4⟩
  · rw [if_neg e, zX9_query hq, Option.bind_some, zX6_at (n := 4) od hq (by omega), Option.bind_some, if_pos hq, hod q hq, (hq5 q hq).1]
    obtain ⟨r', h1, h2⟩ := zX0_find K hK (hW.2.2.2.2.2.1 q hq).2.1 (hq5 q hq).2 (fun i _ => rfl) w (zGn_in hW hw hq) r.1 r.2.1 r.2.2.1 r.2.2.2.1 r.2.2.2.2.1 r.2.2.2.2.2.1 r.2.2.2.2.2.2.1 r.2.2.2.2.2.2.2.1 r.2.2.2.2.2.2.2.2.1 r.2.2.2.2.2.2.2.2.2.1 r.2.2.2.2.2.2.2.2.2.2.1 r.2.2.2.2.2.2.2.2.2.2.2.1 r.2.2.2.2.2.2.2.2.2.2.2.2.1 r.2.2.2.2.2.2.2.2.2.2.2.2.2.1 r.2.2.2.2.2.2.2.2.2.2.2.2.2.2
    refine ⟨r', ?_, h2⟩
    rw [h1]
    rfl
/-- refresh and look, as nearly all calls of a query begin -/
theorem zSee (K : Nat) (hK : 1000000 < K) {s : Nat → Nat} (hW : zWF s) {M : Nat → Nat} (hM : zLst (zE s) M) (hM4 : ∀ t, t < 5 → M t ≤ 4) {wd : Nat → Int32} (hwd : ∀ t, t < s 0 → wd t = nI (s (1 + t))) {fa : Nat → Int64} {hd : Nat → Int32} {bc : Nat → Nat → Int32} {bs : Nat → Int32} {rtt : Int32} (hfa : zeqR (zw fa) (zfacts s)) (hR : zRc hd bc bs rtt s) (q : zR13) (w fr : Nat → Int64) (g re fi : Nat → Int32) (rt im : Int32) (hg : im = 0 ∨ im = 1 ∧ zGn s M w g re fi rt) {now row layer value : Nat → Int32} {rounds : Int32} (hm : zM now s) (hrow : zMr row (zly s M 5).1) (hl : ∀ t, t < 5 → layer t = nI (M t)) (hro : rounds = nI (zly s M 5).2) (hval : ∃ val, zMv value val) {od : Nat → Int32} (hod : ∀ q, q < 4 → od q = nI (zqo s q)) {qc : Nat → Nat → Int32} {qs : Nat → Int32} (hq5 : ∀ q, q < 4 → qs q = nI (zqn s q) ∧ zL (qc q) (zqn s q) (zqa s q) (fun _ => false)) (r : zR15) (ff : Int32) (hff : zFo s w im r ff) {k : Nat} (hk : k < 4) :
    ∃ q' w' fr' g' re' fi' rt' r', zap (fX4_refresh K fa hd bc bs rtt) q w fr g re fi rt im = some (zrs q' w' fr' g' re' fi' rt' 1) ∧ zapr (fX11_look K od qc qs w' (nI k)) r ff = some (zpf r' (nI k)) ∧ zGa s M w g re fi rt im w' g' re' fi' rt' 1 ∧ zFo s w' 1 r' (nI k) ∧ zMr row (zw w') ∧ zFd (zw w') (zqa s k) (zqn s k) (zqpl s k) (zqc s k) r' ∧ zeqR (zw w') (zly s M 5).1 := by
  obtain ⟨q', w', fr', g', re', fi', rt', er, hn, hw'⟩ := zRefresh K hK hW hM hM4 hfa hR q w fr g re fi rt im hg
  have hff' : zFo s w' 1 r ff := by
    rcases hff with h | ⟨q2, h1, h2, h3, h4⟩
    · exact Or.inl h
    · rw [hw' h3]
      exact Or.inr ⟨q2, h1, h2, rfl, h4⟩
  obtain ⟨r', h1, h2⟩ := zLook K hK hW hod hq5 hn.1 1 r ff hff' hk
  exact ⟨q', w', fr', g', re', fi', rt', r', er, h1, Or.inr ⟨rfl, hn, hw'⟩, Or.inr ⟨k, hk, rfl, rfl, h2⟩, fun t j ht hj => by rw [hrow t j ht hj, hn.1 t j ht hj], h2, hn.1⟩
