/-! errors on both sides -/
theorem zbits4 : ∀ V : Fin 16, zcnt (fun i => V.val.testBit i) 8 = zcnt (fun i => V.val.testBit i) 4 := by decide +kernel
theorem z8shl {c : Nat} (hc : c ≤ 4) : (1 : Int32) <<< (((3 : Int32) * nI c) &&& 31) = nI (8 ^ c) := by
  have hs : 3 * c % 32 = 3 * c := by omega
  rw [show (1 : Int32) = nI 1 from rfl, show (3 : Int32) = nI 3 from rfl, show (31 : Int32) = nI 31 from rfl, zi_mul, zi_and, zn_and31, hs, zi_shlP _ (by omega), Nat.one_mul, Nat.pow_mul]
theorem zq_var {s : Nat → Nat} {q v : Nat} (h1 : zQ s q) (h2 : zOr (zqo s q)) (hv : v < 4) (e : (zqv s q).testBit v = true) : ∃ m, m < zqc s q ∧ zqpl s q m = v := by
  rw [zqv_bit h1 hv] at e
  obtain ⟨i, hi, hiv⟩ := zany_iff.1 e
  have hV := zVp_of (N := fun _ => false) h2 (fun i hi => h1.2 i hi)
  obtain ⟨f1, f2⟩ := zfA_all (A := zqa s q) (N := fun _ => false) (zqn s q) (fun _ _ => rfl)
  rw [f1, f2] at hV
  exact hV i hi v hiv
theorem zq_atv {s : Nat → Nat} {q i c : Nat} (h1 : zQ s q) (h2 : zOr (zqo s q)) (hi : i < zqn s q) (hc : c < (zqa s q i).2.1) : (zqv s q).testBit (zaV (zqa s q i) c) = true ∧ zaV (zqa s q i) c < 4 ∧ ∃ m, m < zqc s q ∧ zqpl s q m = zaV (zqa s q i) c := by
  have hH : zaH (zqa s q i) (zaV (zqa s q i) c) = true := (zaH_iff (h1.2 i hi)).2 ⟨c, hc, rfl⟩
  have hV := zVp_of (N := fun _ => false) h2 (fun i hi => h1.2 i hi)
  obtain ⟨f1, f2⟩ := zfA_all (A := zqa s q) (N := fun _ => false) (zqn s q) (fun _ _ => rfl)
  rw [f1, f2] at hV
  have h4 : zaV (zqa s q i) c < 4 := by
    obtain ⟨_, a2, a3, a4, a5, a6⟩ := h1.2 i hi
    have : c = 0 ∨ c = 1 ∨ c = 2 := by omega
    rcases this with e | e | e <;> subst e
    · exact a4
    · exact a5
    · exact a6
  refine ⟨?_, h4, hV i hi _ hH⟩
  rw [zqv_bit h1 h4]
  exact zany_iff.2 ⟨i, hi, hH⟩
theorem zplain {R : Nat → Nat → Bool} {s : Nat → Nat} {q : Nat} (h1 : zQ s q) (h2 : zOr (zqo s q)) (hc0 : 0 < zqc s q) : zcnt (fun y => zfa R (zqa s q) (zqn s q) (zspr (zqv s q) y 4)) (8 ^ zqc s q) = zcnt (zqP R s q) 4096 := by
  have hc := zqc_le s q
  have hB := zqv_lt h1
  have hcnt : zqc s q = zcnt (fun u => (zqv s q).testBit u) 4 := zpc_cnt h2 hB
  have hall : zcnt (zqP R s q) 4096 = zcnt (zqP R s q) (8 ^ zqc s q) := zans_4096 R (zqa s q) (zqn s q) (zqpl s q) hc
  rw [hall]
  have hg : ∀ y i, i < zqc s q → (fun i => zspr (zqv s q) y 4 (zqpl s q (zqc s q - 1 - i)) % 8) i < 8 := fun y i _ => Nat.mod_lt _ (by decide)
  refine zcnt_bij (f := fun y => zenc (fun i => zspr (zqv s q) y 4 (zqpl s q (zqc s q - 1 - i)) % 8) (zqc s q)) ?_ ?_
  · intro y hy
    have hlt := zenc_lt (g := fun i => zspr (zqv s q) y 4 (zqpl s q (zqc s q - 1 - i)) % 8) (zqc s q) (hg y)
    have hdg := zenc_dig (g := fun i => zspr (zqv s q) y 4 (zqpl s q (zqc s q - 1 - i)) % 8) (zqc s q) (hg y)
    refine ⟨hlt, ?_⟩
    generalize zenc (fun i => zspr (zqv s q) y 4 (zqpl s q (zqc s q - 1 - i)) % 8) (zqc s q) = z at hlt hdg ⊢
    unfold zqP zans
    rw [decide_eq_true hc0, decide_eq_true hlt, Bool.true_and, Bool.true_and]
    unfold zfa
    rw [Bool.eq_iff_iff, zall_iff, zall_iff]
    have key : ∀ i, i < zqn s q → zaR (zqa s q i) (fun v => zext (zqpl s q) (zqc s q) 0 z0 z v % 8) = zaR (zqa s q i) (fun v => zspr (zqv s q) y 4 v % 8) := by
      intro i hi
      apply zaR_cong (h1.2 i hi)
      intro c hcc
      obtain ⟨k1, k2, m, hm, hmv⟩ := zq_atv h1 h2 hi hcc
      rw [← hmv]
      show zext (zqpl s q) (zqc s q) 0 z0 z (zqpl s q m) % 8 = zspr (zqv s q) y 4 (zqpl s q m) % 8
      rw [← zpk_ext (zqD h2) hlt]
      have hvy := zvy_at h2 z hm
      unfold zvy at hvy
      rw [hvy]
      unfold zdig
      rw [hdg (zqc s q - 1 - m) (by omega)]
      show zspr (zqv s q) y 4 (zqpl s q (zqc s q - 1 - (zqc s q - 1 - m))) % 8 = _
      rw [show zqc s q - 1 - (zqc s q - 1 - m) = m by omega]
    constructor
    · intro h i hi; have := h i hi; rw [key i hi] at this; exact this
    · intro h i hi; rw [key i hi]; exact h i hi
  · intro y z hyz hz e
    have hdy := zenc_dig (g := fun i => zspr (zqv s q) y 4 (zqpl s q (zqc s q - 1 - i)) % 8) (zqc s q) (hg y)
    have hdz := zenc_dig (g := fun i => zspr (zqv s q) z 4 (zqpl s q (zqc s q - 1 - i)) % 8) (zqc s q) (hg z)
    have : y = z := by
      apply zdig_ext (zqc s q) y z (by omega) hz
      intro i hi
      obtain ⟨v, v1, v2, v3⟩ := zcnt_nth (p := fun u => (zqv s q).testBit u) 4 i (by omega)
      obtain ⟨m, hm, hmv⟩ := zq_var h1 h2 v1 v2
      have a := hdy (zqc s q - 1 - m) (by omega)
      have b := hdz (zqc s q - 1 - m) (by omega)
      have e' : zenc (fun i => zspr (zqv s q) y 4 (zqpl s q (zqc s q - 1 - i)) % 8) (zqc s q) = zenc (fun i => zspr (zqv s q) z 4 (zqpl s q (zqc s q - 1 - i)) % 8) (zqc s q) := e
      rw [e', b] at a
      have a' : zspr (zqv s q) z 4 (zqpl s q (zqc s q - 1 - (zqc s q - 1 - m))) % 8 = zspr (zqv s q) y 4 (zqpl s q (zqc s q - 1 - (zqc s q - 1 - m))) % 8 := a
      rw [show zqc s q - 1 - (zqc s q - 1 - m) = m by omega, hmv] at a'
      unfold zspr at a'
      rw [if_pos ⟨v1, v2⟩, if_pos ⟨v1, v2⟩, v3] at a'
      omega
    omega
theorem zX11_countPlainly (K : Nat) (hK : 5000 < K) {s : Nat → Nat} (hW : zWF s) {qc : Nat → Nat → Int32} {q : Nat} (hq : q < 4) (hL : zL (qc q) (zqn s q) (zqa s q) (fun _ => false)) (w : Nat → Int64) :
    fX11_countPlainly K w (qc q) (nI (zqn s q)) = some (nI (zcnt (zqP (zw w) s q) 4096)) := by
  obtain ⟨h1, h2, h3⟩ := hW.2.2.2.2.2.1 q hq
  have hc := zqc_le s q
  have hn := h1.1
  have h8 := zp8 hc
  unfold fX11_countPlainly
  by_cases g : zqn s q = 0
  · rw [g, if_pos (show nI 0 = 0 from rfl)]
    have hz : zqc s q = 0 := by
      show zpc (zqo s q) (zqv s q) 4 = 0
      have hv0 : zqv s q = 0 := by unfold zqv; rw [g]; rfl
      rw [hv0, zpc_cnt h2 (by omega)]
      decide
    have : zcnt (zqP (zw w) s q) 4096 = zcnt (zqP (zw w) s q) 0 := zcnt_flat (by omega) (fun y _ _ => by
      apply zqP_out
      unfold zall8
      rw [if_pos hz]; exact Nat.zero_le _)
    rw [this, zcnt_0]; rfl
  · have hcnt : zqc s q = zcnt (fun u => (zqv s q).testBit u) 4 := zpc_cnt h2 (zqv_lt h1)
    have hc0 : 0 < zqc s q := by
      have ha := h1.2 0 (by omega)
      obtain ⟨_, _, m, hm, _⟩ := zq_atv h1 h2 (i := 0) (c := 0) (by omega) (show 0 < (zqa s q 0).2.1 by have := ha.2.1; omega)
      omega
    have hvar : fX2_variables K (qc q) (nI (zqn s q)) (0 : Int32) = some (nI (zqv s q)) := zX2_variables K (by omega) hL false
    have hB := zqv_lt h1
    rw [if_neg (show ¬ nI (zqn s q) = 0 by rw [show (0 : Int32) = nI 0 from rfl, zi_eq (by omega) (by omega)]; exact g), hvar, Option.bind_some, zbitCount ⟨zqv s q, by omega⟩, Option.bind_some, zbits4 ⟨zqv s q, hB⟩]
    have e3 : (1 : Int32) <<< (((3 : Int32) * nI (zcnt (fun i => (zqv s q).testBit i) 4)) &&& 31) = nI (8 ^ zqc s q) := by rw [← hcnt]; exact z8shl hc
    rw [e3, ← zplain h1 h2 hc0]
    refine z_forE (F := fun k i (_ : Unit) => fX11_countPlainly_30 K w (qc q) (nI (zqn s q)) k (nI (zqv s q)) (nI (8 ^ zqc s q)) (nI (zcnt (fun y => zfa (zw w) (zqa s q) (zqn s q) (zspr (zqv s q) y 4)) i)) (nI i)) (n := 8 ^ zqc s q) (inv := fun _ _ => True) ?_ ?_ (8 ^ zqc s q) K 0 () (by omega) trivial (by omega)
    · intro k i _ hi _
      left
      refine ⟨(), trivial, ?_⟩
      show fX11_countPlainly_30 K w (qc q) (nI (zqn s q)) (k + 1) (nI (zqv s q)) (nI (8 ^ zqc s q)) (nI (zcnt (fun y => zfa (zw w) (zqa s q) (zqn s q) (zspr (zqv s q) y 4)) i)) (nI i) = fX11_countPlainly_30 K w (qc q) (nI (zqn s q)) k (nI (zqv s q)) (nI (8 ^ zqc s q)) (nI (zcnt (fun y => zfa (zw w) (zqa s q) (zqn s q) (zspr (zqv s q) y 4)) (i + 1))) (nI (i + 1))
      rw [fX11_countPlainly_30, if_neg (by rw [zi_le (by omega) (by omega)]; omega), zX1_spread K (by omega) hB (by omega), Option.bind_some, zX11_allFit K (by omega) hL w (fun v _ => zspr_lt _ _ _ v), Option.bind_some, zcnt_s, nI_succ i]
      unfold fX11_countPlainly_57
      cases zfa (zw w) (zqa s q) (zqn s q) (zspr (zqv s q) i 4)
      · rw [if_pos (show bI false = 0 from rfl), show (0 : Int32) = nI 0 from rfl, zi_add]; rfl
      · rw [if_neg (show ¬ bI true = 0 by decide), show (1 : Int32) = nI 1 from rfl, zi_add]; rfl
    · intro k _ _
      show fX11_countPlainly_30 K w (qc q) (nI (zqn s q)) (k + 1) (nI (zqv s q)) (nI (8 ^ zqc s q)) (nI (zcnt (fun y => zfa (zw w) (zqa s q) (zqn s q) (zspr (zqv s q) y 4)) (8 ^ zqc s q))) (nI (8 ^ zqc s q)) = _
      rw [fX11_countPlainly_30, if_pos (by rw [zi_le (by omega) (by omega)]; omega)]
theorem zc_errors (K : Nat) (hK : 1000000 < K) {s : Nat → Nat} (hW : zWF s) {M : Nat → Nat} (hM : zLst (zE s) M) (hM4 : ∀ t, t < 5 → M t ≤ 4) {wd : Nat → Int32} (hwd : ∀ t, t < s 0 → wd t = nI (s (1 + t))) {fa : Nat → Int64} {hd : Nat → Int32} {bc : Nat → Nat → Int32} {bs : Nat → Int32} {rtt : Int32} (hfa : zeqR (zw fa) (zfacts s)) (hR : zRc hd bc bs rtt s) (q : zR13) (w fr : Nat → Int64) (g re fi : Nat → Int32) (rt im : Int32) (hg : im = 0 ∨ im = 1 ∧ zGn s M w g re fi rt) {now row layer value : Nat → Int32} {rounds : Int32} (hm : zM now s) (hrow : zMr row (zly s M 5).1) (hl : ∀ t, t < 5 → layer t = nI (M t)) (hro : rounds = nI (zly s M 5).2) (hval : ∃ val, zMv value val) {od : Nat → Int32} (hod : ∀ q, q < 4 → od q = nI (zqo s q)) {qc : Nat → Nat → Int32} {qs : Nat → Int32} (hq5 : ∀ q, q < 4 → qs q = nI (zqn s q) ∧ zL (qc q) (zqn s q) (zqa s q) (fun _ => false)) (r : zR15) (ff : Int32) (hff : zFo s w im r ff) (th : Int32) :
    ∃ v q' w' fr' g' re' fi' rt' r' ff' value', zapr (zapg (fX11_errors K fa od hd qc qs bc bs (nI (s 0)) rtt) q w fr g re fi rt im) r ff = some (v, zgr q' w' fr' g' re' fi' rt' 1 (zpf r' ff')) ∧ fX12_errors K now row th value = some (v, 0, value') ∧ (∃ val, zMv value' val) ∧ zGa s M w g re fi rt im w' g' re' fi' rt' 1 ∧ zFo s w' 1 r' ff' := by
  have h5 := hW.1
  obtain ⟨q', w', fr', g', re', fi', rt', er, hn, hw'⟩ := zRefresh K hK hW hM hM4 hfa hR q w fr g re fi rt im hg
  have hff' : zFo s w' 1 r ff := by
    rcases hff with h | ⟨q2, h1, h2, h3, h4⟩
    · exact Or.inl h
    · rw [hw' h3]
      exact Or.inr ⟨q2, h1, h2, rfl, h4⟩
  obtain ⟨value', em, hv'⟩ := zX12_errors K (by omega) hm hW.2.2.2.2.2.2.1 hW.1 hrow th hval
  have hend : ∀ r ff, zapr (zapg (fX11_errors_63 K fa od hd qc qs bc bs (nI (s 0)) rtt K 0 0) q' w' fr' g' re' fi' rt' 1) r ff = some (nI (zsum (fun t => zwo (zly s M 5).1 s t 512) (s 0)), zgr q' w' fr' g' re' fi' rt' 1 (zpf r ff)) := by
    intro r ff
    refine z_forE (F := fun k i (_ : Unit) => zapr (zapg (fX11_errors_63 K fa od hd qc qs bc bs (nI (s 0)) rtt k (nI (zsum (fun t => zwo (zly s M 5).1 s t 512) i)) (nI i)) q' w' fr' g' re' fi' rt' 1) r ff) (n := s 0) (inv := fun _ _ => True) ?_ ?_ (s 0) K 0 () (by omega) trivial (by omega)
    · intro k i _ hi _
      left
      refine ⟨(), trivial, ?_⟩
      show (if nI (s 0) ≤ nI i then _ else ((fX11_rowsWithoutReason K fa w' re' (nI i)).bind fun q77 => zapr (zapg (fX11_errors_63 K fa od hd qc qs bc bs (nI (s 0)) rtt k (nI (zsum (fun t => zwo (zly s M 5).1 s t 512) i) + q77) (nI i + (1 : Int32))) q' w' fr' g' re' fi' rt' 1) r ff)) = zapr (zapg (fX11_errors_63 K fa od hd qc qs bc bs (nI (s 0)) rtt k (nI (zsum (fun t => zwo (zly s M 5).1 s t 512) i + zwo (zly s M 5).1 s i 512)) (nI (i + 1))) q' w' fr' g' re' fi' rt' 1) r ff
      rw [if_neg (by rw [zi_le (by omega) (by omega)]; omega), zX11_rowsWithoutReason K (by omega) hW.2.2.2.2.2.2.1 hM hM4 hn.2.2.1 hfa hn.1 (show i < 5 by omega), Option.bind_some, zi_add, nI_succ i]
    · intro k _ _
      show (if nI (s 0) ≤ nI (s 0) then some (nI (zsum (fun t => zwo (zly s M 5).1 s t 512) (s 0)), zgr q' w' fr' g' re' fi' rt' 1 (zpf r ff)) else _) = _
      rw [if_pos (by rw [zi_le (by omega) (by omega)]; omega)]
  obtain ⟨u, hu, e⟩ := z_forD (F := fun k i (u : zR15 × Int32) => zapr (zapg (fX11_errors_15 K fa od hd qc qs bc bs (nI (s 0)) rtt k 0 (nI i)) q' w' fr' g' re' fi' rt' 1) u.1 u.2) (n := 4) (inv := fun _ u => zFo s w' 1 u.1 u.2) (D := fun u => zapr (zapg (fX11_errors_63 K fa od hd qc qs bc bs (nI (s 0)) rtt K 0 0) q' w' fr' g' re' fi' rt' 1) u.1 u.2)
    (by
      intro k i u hi hinv
      obtain ⟨r', el, hfd⟩ := zLook K hK hW hod hq5 hn.1 1 u.1 u.2 hinv hi
      refine ⟨(r', nI i), Or.inr ⟨i, hi, rfl, rfl, hfd⟩, ?_⟩
      have hq14 : r'.2.2.2.2.2.2.2.2.2.2.2.2.2.2 = nI (zcnt (zqP (zw w') s i) 4096) := hfd.2.2.2.2.2
      show (if (4 : Int32) ≤ nI i then _ else ((zapr (fX11_look K od qc qs w' (nI i)) u.1 u.2).bind fun q22 => (fX9_query (nI i)).bind fun q39 => if q39 < 4 then ((fX11_countPlainly K w' (qc q39) (qs q39)).bind fun q42 => if q22.2.2.2.2.2.2.2.2.2.2.2.2.2.2.1 = q42 then zapr (zapg (fX11_errors_15 K fa od hd qc qs bc bs (nI (s 0)) rtt k ((0 : Int32) + 0) (nI i + (1 : Int32))) q' w' fr' g' re' fi' rt' 1) (q22.1, q22.2.1, q22.2.2.1, q22.2.2.2.1, q22.2.2.2.2.1, q22.2.2.2.2.2.1, q22.2.2.2.2.2.2.1, q22.2.2.2.2.2.2.2.1, q22.2.2.2.2.2.2.2.2.1, q22.2.2.2.2.2.2.2.2.2.1, q22.2.2.2.2.2.2.2.2.2.2.1, q22.2.2.2.2.2.2.2.2.2.2.2.1, q22.2.2.2.2.2.2.2.2.2.2.2.2.1, q22.2.2.2.2.2.2.2.2.2.2.2.2.2.1, q22.2.2.2.2.2.2.2.2.2.2.2.2.2.2.1) q22.2.2.2.2.2.2.2.2.2.2.2.2.2.2.2 else zapr (zapg (fX11_errors_15 K fa od hd qc qs bc bs (nI (s 0)) rtt k ((0 : Int32) + 1) (nI i + (1 : Int32))) q' w' fr' g' re' fi' rt' 1) (q22.1, q22.2.1, q22.2.2.1, q22.2.2.2.1, q22.2.2.2.2.1, q22.2.2.2.2.2.1, q22.2.2.2.2.2.2.1, q22.2.2.2.2.2.2.2.1, q22.2.2.2.2.2.2.2.2.1, q22.2.2.2.2.2.2.2.2.2.1, q22.2.2.2.2.2.2.2.2.2.2.1, q22.2.2.2.2.2.2.2.2.2.2.2.1, q22.2.2.2.2.2.2.2.2.2.2.2.2.1, q22.2.2.2.2.2.2.2.2.2.2.2.2.2.1, q22.2.2.2.2.2.2.2.2.2.2.2.2.2.2.1) q22.2.2.2.2.2.2.2.2.2.2.2.2.2.2.2) else none)) = _
      rw [if_neg (show ¬ (4 : Int32) ≤ nI i by rw [show (4 : Int32) = nI 4 from rfl, zi_le (by omega) (by omega)]; omega), el, Option.bind_some, zX9_query hi, Option.bind_some, if_pos hi, (hq5 i hi).1, zX11_countPlainly K (by omega) hW hi (hq5 i hi).2 w', Option.bind_some]
      show (if r'.2.2.2.2.2.2.2.2.2.2.2.2.2.2 = nI (zcnt (zqP (zw w') s i) 4096) then zapr (zapg (fX11_errors_15 K fa od hd qc qs bc bs (nI (s 0)) rtt k ((0 : Int32) + 0) (nI i + (1 : Int32))) q' w' fr' g' re' fi' rt' 1) r' (nI i) else _) = zapr (zapg (fX11_errors_15 K fa od hd qc qs bc bs (nI (s 0)) rtt k 0 (nI (i + 1))) q' w' fr' g' re' fi' rt' 1) r' (nI i)
      rw [if_pos hq14, nI_succ i, show (0 : Int32) + 0 = 0 from rfl])
    (by
      intro k u _
      rfl) 4 K 0 (r, ff) (by omega) hff' (by omega)
  have e' : zapr (zapg (fX11_errors_15 K fa od hd qc qs bc bs (nI (s 0)) rtt K 0 0) q' w' fr' g' re' fi' rt' 1) r ff = zapr (zapg (fX11_errors_63 K fa od hd qc qs bc bs (nI (s 0)) rtt K 0 0) q' w' fr' g' re' fi' rt' 1) u.1 u.2 := e
  refine ⟨_, q', w', fr', g', re', fi', rt', u.1, u.2, value', ?_, em, hv', Or.inr ⟨rfl, hn, hw'⟩, hu⟩
  unfold zapr zapg fX11_errors
  show ((zap (fX4_refresh K fa hd bc bs rtt) q w fr g re fi rt im).bind _) = _
  rw [er, Option.bind_some]
  exact e'.trans (hend u.1 u.2)
