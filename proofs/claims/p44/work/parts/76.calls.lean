/-! the calls that change nothing, on both sides -/
def zcd : Nat → Nat
  | 0 => 1
  | 1 => 2
  | _ => 3
def zAg {α : Type} (l : List Nat) (d : α) (e : Nat ⊕ α) (b : α × Int32) : Prop := (∃ k, k ∈ l ∧ e = .inl k ∧ b = (d, nI (zcd k))) ∨ ∃ v, e = .inr v ∧ b = (v, 0)
theorem zrow_of {x y z : Nat} (hx : x < 8) (hy : y < 8) (hz : z < 8) : fX11_rowOf (nI x) (nI y) (nI z) = some (nI (64 * x + 8 * y + z)) := by
  have h : ∀ x : Fin 8, ∀ y : Fin 8, ∀ z : Fin 8, ((nI x.val <<< ((6 : Int32) &&& 31)) ||| (nI y.val <<< ((3 : Int32) &&& 31))) ||| nI z.val = nI (64 * x.val + 8 * y.val + z.val) := by decide +kernel
  unfold fX11_rowOf
  rw [h ⟨x, hx⟩ ⟨y, hy⟩ ⟨z, hz⟩]
theorem zX12_code (x y z : Nat) : fX12_code (nI x) (nI y) (nI z) = some (nI (64 * x + 8 * y + z)) := by
  unfold fX12_code
  rw [show (64 : Int32) = nI 64 from rfl, show (8 : Int32) = nI 8 from rfl, zi_mul, zi_mul, zi_add, zi_add]
theorem zin_row {w x y z : Nat} (hx : x < 8) (hy : if 1 < w then y < 8 else y = 0) (hz : if 2 < w then z < 8 else z = 0) : y < 8 ∧ z < 8 ∧ 64 * x + 8 * y + z < 512 ∧ zin w (64 * x + 8 * y + z) := by
  have h1 : y < 8 := by split at hy <;> omega
  have h2 : z < 8 := by split at hz <;> omega
  refine ⟨h1, h2, by omega, ?_, ?_⟩
  · intro g
    rw [if_neg (by omega)] at hy hz
    subst hy; subst hz
    unfold zcol; simp only [Nat.reduceSub, Nat.reducePow]; omega
  · intro g
    rw [if_neg (by omega)] at hz
    subst hz
    unfold zcol; simp only [Nat.reduceSub, Nat.reducePow]; omega
/-- the row asked for -/
theorem zC_row {now : Nat → Int32} {s : Nat → Nat} (h : zM now s) (hW : zWF s) {wd : Nat → Int32} (hwd : ∀ t, t < s 0 → wd t = nI (s (1 + t))) {t : Nat} (ht : t < s 0) (a b c : Int32) :
    (∃ k, k < 512 ∧ zin (s (1 + t)) k ∧ fX11_needRow wd (nI t) a b c = some (.inr (), ()) ∧ fX12_areRight now (nI t) a b c 7 = some true ∧ fX11_rowOf a b c = some (nI k) ∧ fX12_code a b c = some (nI k)) ∨ (fX11_needRow wd (nI t) a b c = some (.inl 1, ()) ∧ fX12_areRight now (nI t) a b c 7 = some false) := by
  have h5 := hW.1
  obtain ⟨c1, c3⟩ := hW.2.1 t ht
  unfold fX11_needRow
  rw [zX6_at wd (show t < 5 by omega) (by omega), Option.bind_some, hwd t ht]
  rcases zC_cols (L := 8) c3 (by omega) (by omega) (zX12_columnsOf h (show t < 5 by omega)) a b c with ⟨x, y, z, hx, hy, hz, rfl, rfl, rfl, e1, e2⟩ | ⟨e1, e2⟩
  · left
    obtain ⟨y8, z8, hk, hzin⟩ := zin_row hx hy hz
    have e1' : fX11_areInColumns (nI (s (1 + t))) (8 : Int32) (nI x) (nI y) (nI z) = some true := e1
    exact ⟨64 * x + 8 * y + z, hk, hzin, by rw [e1', Option.bind_some, if_neg (show ¬ bI true = 0 by decide)], e2, zrow_of hx y8 z8, zX12_code x y z⟩
  · right
    have e1' : fX11_areInColumns (nI (s (1 + t))) (8 : Int32) a b c = some false := e1
    exact ⟨by rw [e1', Option.bind_some, if_pos (show bI false = 0 from rfl)], e2⟩
theorem zC_vars {now : Nat → Int32} {s : Nat → Nat} (h : zM now s) (hW : zWF s) {wd : Nat → Int32} (hwd : ∀ t, t < s 0 → wd t = nI (s (1 + t))) {t : Nat} (ht : t < s 0) (a b c : Int32) :
    (∃ x y z, x < 4 ∧ y < 4 ∧ z < 4 ∧ a = nI x ∧ b = nI y ∧ c = nI z ∧ fX11_needVariables wd (nI t) a b c = some (.inr (), ()) ∧ fX12_areRight now (nI t) a b c 3 = some true) ∨ (fX11_needVariables wd (nI t) a b c = some (.inl 1, ()) ∧ fX12_areRight now (nI t) a b c 3 = some false) := by
  have h5 := hW.1
  obtain ⟨c1, c3⟩ := hW.2.1 t ht
  unfold fX11_needVariables
  rw [zX6_at wd (show t < 5 by omega) (by omega), Option.bind_some, hwd t ht]
  rcases zC_cols (L := 4) c3 (by omega) (by omega) (zX12_columnsOf h (show t < 5 by omega)) a b c with ⟨x, y, z, hx, hy, hz, rfl, rfl, rfl, e1, e2⟩ | ⟨e1, e2⟩
  · left
    have e1' : fX11_areInColumns (nI (s (1 + t))) (4 : Int32) (nI x) (nI y) (nI z) = some true := e1
    exact ⟨x, y, z, hx, by split at hy <;> omega, by split at hz <;> omega, rfl, rfl, rfl, by rw [e1', Option.bind_some, if_neg (show ¬ bI true = 0 by decide)], e2⟩
  · right
    have e1' : fX11_areInColumns (nI (s (1 + t))) (4 : Int32) a b c = some false := e1
    exact ⟨by rw [e1', Option.bind_some, if_pos (show bI false = 0 from rfl)], e2⟩
theorem zc_columns {now : Nat → Int32} {s : Nat → Nat} (h : zM now s) (hW : zWF s) {wd : Nat → Int32} (hwd : ∀ t, t < s 0 → wd t = nI (s (1 + t))) (p th : Int32) : ∃ e b, fX11_columns wd (nI (s 0)) p = some (e, ()) ∧ fX12_columns now p th = some b ∧ zAg [0] 0 e b := by
  have h5 := hW.1
  unfold fX11_columns fX12_columns fX12_fails
  rcases zC_table h hW.1 p with ⟨t, ht, rfl, e1, e2⟩ | ⟨e1, e2⟩
  · rw [e1, e2, Option.bind_some, Option.bind_some, if_neg (show ¬ bI true = 0 by decide), zX12_columnsOf h (show t < 5 by omega), Option.bind_some]
    refine ⟨.inr (wd t), _, ?_, rfl, Or.inr ⟨_, rfl, by rw [hwd t ht]⟩⟩
    show ((fX6_at 5 wd (nI t)).bind fun q13 => some (Sum.inr q13, ())) = _
    rw [zX6_at wd (show t < 5 by omega) (by omega)]; rfl
  · rw [e1, e2, Option.bind_some, Option.bind_some, if_pos (show bI false = 0 from rfl)]
    exact ⟨.inl 0, _, rfl, rfl, Or.inl ⟨0, by decide, rfl, rfl⟩⟩
theorem zc_factCount (K : Nat) (hK : 600 < K) {now : Nat → Int32} {s : Nat → Nat} (h : zM now s) (hW : zWF s) {fa : Nat → Int64} (hfa : zeqR (zw fa) (zfacts s)) (p th : Int32) : ∃ e b, fX11_factCount K fa (nI (s 0)) p = some (e, ()) ∧ fX12_factCount K now p th = some b ∧ zAg [0] 0 e b := by
  have h5 := hW.1
  unfold fX11_factCount fX12_factCount fX12_fails
  rcases zC_table h hW.1 p with ⟨t, ht, rfl, e1, e2⟩ | ⟨e1, e2⟩
  · rw [e1, e2, Option.bind_some, Option.bind_some, if_neg (show ¬ bI true = 0 by decide), zX12_factsOf K (by omega) h hW.2.2.1 (show t < 5 by omega), Option.bind_some]
    refine ⟨.inr (nI (zcnt (zfacts s t) 512)), _, ?_, rfl, Or.inr ⟨_, rfl, rfl⟩⟩
    show ((fX7_size K fa (nI t)).bind fun q13 => some (Sum.inr q13, ())) = _
    rw [zX7_size K (by omega) fa (show t < 5 by omega), zcnt_cong (fun k hk => hfa t k (by omega) hk)]; rfl
  · rw [e1, e2, Option.bind_some, Option.bind_some, if_pos (show bI false = 0 from rfl)]
    exact ⟨.inl 0, _, rfl, rfl, Or.inl ⟨0, by decide, rfl, rfl⟩⟩
theorem zc_isFact {now : Nat → Int32} {s : Nat → Nat} (h : zM now s) (hW : zWF s) {wd : Nat → Int32} (hwd : ∀ t, t < s 0 → wd t = nI (s (1 + t))) {fa : Nat → Int64} (hfa : zeqR (zw fa) (zfacts s)) (p a b c th : Int32) : ∃ e r, fX11_isFact wd fa (nI (s 0)) p a b c = some (e, ()) ∧ fX12_isFact now p a b c th = some r ∧ zAg [0, 1] false e r := by
  have h5 := hW.1
  unfold fX11_isFact fX12_isFact
  rcases zC_table h hW.1 p with ⟨t, ht, rfl, e1, e2⟩ | ⟨e1, e2⟩
  · rw [e1, e2, Option.bind_some, Option.bind_some, if_neg (show ¬ bI true = 0 by decide)]
    rcases zC_row h hW hwd ht a b c with ⟨k, hk, hz, e3, e4, e5, e6⟩ | ⟨e3, e4⟩
    · rw [e4, Option.bind_some, if_neg (show ¬ bI true = 0 by decide)]
      unfold fX12_isFact_37
      rw [if_pos rfl, e6, Option.bind_some, zX12_isFactAt h (show t < 5 by omega) hk, Option.bind_some]
      refine ⟨.inr (zfacts s t k), (zfacts s t k, 0), ?_, ?_, Or.inr ⟨_, rfl, rfl⟩⟩
      · show ((fX11_needRow wd (nI t) a b c).bind _) = _
        rw [e3, Option.bind_some]
        show ((fX11_rowOf a b c).bind fun q26 => (fX7_has fa (nI t) q26).bind fun q29 => some (Sum.inr q29, ())) = _
        rw [e5, Option.bind_some, zX7_has fa (show t < 5 by omega) hk, Option.bind_some, hfa t k (by omega) hk]
      · cases zfacts s t k
        · rw [if_pos (show bI false = 0 from rfl)]
        · rw [if_neg (show ¬ bI true = 0 by decide)]
    · rw [e4, Option.bind_some, if_pos (show bI false = 0 from rfl)]
      unfold fX12_isFact_37
      rw [if_neg (by decide)]
      refine ⟨.inl 1, _, ?_, rfl, Or.inl ⟨1, by decide, rfl, rfl⟩⟩
      show ((fX11_needRow wd (nI t) a b c).bind _) = _
      rw [e3, Option.bind_some]; rfl
  · rw [e1, e2, Option.bind_some, Option.bind_some, if_pos (show bI false = 0 from rfl)]
    unfold fX12_isFact_37
    rw [if_neg (by decide)]
    exact ⟨.inl 0, _, rfl, rfl, Or.inl ⟨0, by decide, rfl, rfl⟩⟩
theorem zc_atomCount {now : Nat → Int32} {s : Nat → Nat} (h : zM now s) {qs : Nat → Int32} (hqs : ∀ q, q < 4 → qs q = nI (zqn s q)) (p th : Int32) : ∃ e b, fX11_atomCount qs p = some (e, ()) ∧ fX12_atomCount now p th = some b ∧ zAg [0] 0 e b := by
  unfold fX11_atomCount fX12_atomCount fX12_fails
  rcases zC_query p with ⟨q, hq, rfl, e1, e2⟩ | ⟨e1, e2⟩
  · rw [e1, e2, Option.bind_some, Option.bind_some, if_neg (show ¬ bI true = 0 by decide), zX12_atoms h hq, Option.bind_some]
    refine ⟨.inr (qs q), _, ?_, rfl, Or.inr ⟨_, rfl, by rw [hqs q hq]⟩⟩
    show ((fX9_query (nI q)).bind fun q10 => if q10 < 4 then (some (Sum.inr (qs q10), ())) else none) = _
    rw [zX9_query hq, Option.bind_some, if_pos hq]
  · rw [e1, e2, Option.bind_some, Option.bind_some, if_pos (show bI false = 0 from rfl)]
    exact ⟨.inl 0, _, rfl, rfl, Or.inl ⟨0, by decide, rfl, rfl⟩⟩
theorem zc_tableCount {now : Nat → Int32} {s : Nat → Nat} (h : zM now s) (th : Int32) : fX11_tableCount (nI (s 0)) = some (nI (s 0)) ∧ fX12_tableCount now th = some (nI (s 0), 0) := by
  refine ⟨rfl, ?_⟩
  unfold fX12_tableCount
  rw [if_pos (by decide), show (0 : Int32).toNatClampNeg = 0 by decide, (h 0 (by omega)).1]
theorem zc_ruleCount {now : Nat → Int32} {s : Nat → Nat} (h : zM now s) (th : Int32) : fX11_ruleCount (nI (zrn s)) = some (nI (zrn s)) ∧ fX12_ruleCount now th = some (nI (zrn s), 0) := by
  refine ⟨rfl, ?_⟩
  unfold fX12_ruleCount
  rw [if_pos (by decide), show (2654 : Int32).toNatClampNeg = 2654 by decide, (h 2654 (by omega)).1]; rfl
theorem zc_isIdle (K : Nat) (hK : 5 < K) {now : Nat → Int32} {s : Nat → Nat} (h : zM now s) (hs : zRul s) {hd : Nat → Int32} {bc : Nat → Nat → Int32} {bs : Nat → Int32} {rt : Int32} (hR : zRc hd bc bs rt s) (p th : Int32) : ∃ e b, fX11_isIdle K hd bc bs rt p = some (e, ()) ∧ fX12_isIdle K now p th = some b ∧ zAg [0] false e b := by
  unfold fX11_isIdle fX12_isIdle fX12_isIdle_14
  rw [hR.1]
  rcases zC_rule h hs.1 p with ⟨r, hr, rfl, e1, e2⟩ | ⟨e1, e2⟩
  · rw [e1, e2, Option.bind_some, Option.bind_some, if_neg (show ¬ bI true = 0 by decide), if_pos rfl, zX12_isIdleRule K hK h hs hr, Option.bind_some]
    refine ⟨.inr (zidle s r), (zidle s r, 0), ?_, ?_, Or.inr ⟨_, rfl, rfl⟩⟩
    · show ((fX9_rests K hd bc bs (nI r)).bind fun q10 => some (Sum.inr q10, ())) = _
      rw [zX9_rests K hK hs hR hr]; rfl
    · cases zidle s r
      · rw [if_pos (show bI false = 0 from rfl)]
      · rw [if_neg (show ¬ bI true = 0 by decide)]
  · rw [e1, e2, Option.bind_some, Option.bind_some, if_pos (show bI false = 0 from rfl), if_neg (by decide)]
    exact ⟨.inl 0, _, rfl, rfl, Or.inl ⟨0, by decide, rfl, rfl⟩⟩
theorem zc_isTree (K : Nat) (hK : 1000 < K) {now : Nat → Int32} {s : Nat → Nat} (h : zM now s) (hW : zWF s) {qc : Nat → Nat → Int32} {qs : Nat → Int32} (hq5 : ∀ q, q < 4 → qs q = nI (zqn s q) ∧ zL (qc q) (zqn s q) (zqa s q) (fun _ => false)) (sets left gone : Nat → Int32) (p th : Int32) :
    ∃ e sets' b left' gone', fX11_isTree K qc qs p sets = some (e, sets') ∧ fX12_isTree K now p th left gone = some (b.1, b.2, left', gone') ∧ zAg [0] false e b := by
  unfold fX11_isTree fX12_isTree fX12_isTree_13
  rcases zC_query p with ⟨q, hq, rfl, e1, e2⟩ | ⟨e1, e2⟩
  · obtain ⟨b1, b2⟩ := hq5 q hq
    obtain ⟨x, sets', ex, hx⟩ := zX10_reduces K hK b2 sets
    obtain ⟨y, left', gone', ey, hy⟩ := zX12_isTreeOf K hK h hq (hW.2.2.2.2.2.1 q hq).1 left gone
    have exy : x = y := by rw [Bool.eq_iff_iff, hx, hy]
    rw [e1, e2, Option.bind_some, Option.bind_some, if_neg (show ¬ bI true = 0 by decide), if_pos rfl, ey, Option.bind_some]
    refine ⟨.inr x, sets', (x, 0), left', gone', ?_, ?_, Or.inr ⟨_, rfl, rfl⟩⟩
    · show ((fX9_query (nI q)).bind fun q14 => if q14 < 4 then ((fX10_reduces K (qc q14) (qs q14) sets).bind fun q17 => some (Sum.inr q17.1, (q17.2))) else none) = _
      rw [zX9_query hq, Option.bind_some, if_pos hq, b1, ex]; rfl
    · rw [exy]
      cases y
      · rw [if_pos (show bI (false, left', gone').1 = 0 from rfl)]
      · rw [if_neg (show ¬ bI (true, left', gone').1 = 0 from (by decide : ¬ bI true = 0))]
  · rw [e1, e2, Option.bind_some, Option.bind_some, if_pos (show bI false = 0 from rfl), if_neg (by decide)]
    exact ⟨.inl 0, sets, (false, 1), left, gone, rfl, rfl, Or.inl ⟨0, by decide, rfl, rfl⟩⟩
/-! the class grown or not -/
def zGn (s : Nat → Nat) (M : Nat → Nat) (w : Nat → Int64) (g re fi : Nat → Int32) (rt : Int32) : Prop :=
  zeqR (zw w) (zly s M 5).1 ∧ (∀ t, t < 5 → g t = nI (M t)) ∧ (∀ t k, t < 5 → k < 512 → re (512 * t + k) = nI (zttl (zly s M 5).1 s t k (zrn s))) ∧ (∀ u, u < zrn s → fi u = nI (if zidle s u = true then 0 else zfir (zly s M 5).1 s u)) ∧ rt = nI (zly s M 5).2
theorem zRefresh (K : Nat) (hK : 1000000 < K) {s : Nat → Nat} (hW : zWF s) {M : Nat → Nat} (hM : zLst (zE s) M) (hM4 : ∀ t, t < 5 → M t ≤ 4) {fa : Nat → Int64} {hd : Nat → Int32} {bc : Nat → Nat → Int32} {bs : Nat → Int32} {rtt : Int32} (hfa : zeqR (zw fa) (zfacts s)) (hR : zRc hd bc bs rtt s) (q : zR13) (w fr : Nat → Int64) (g re fi : Nat → Int32) (rt im : Int32) (h : im = 0 ∨ im = 1 ∧ zGn s M w g re fi rt) :
    ∃ q' w' fr' g' re' fi' rt', zap (fX4_refresh K fa hd bc bs rtt) q w fr g re fi rt im = some (zrs q' w' fr' g' re' fi' rt' 1) ∧ zGn s M w' g' re' fi' rt' ∧ (im = 1 → w' = w) := by
  rcases h with rfl | ⟨rfl, h⟩
  · obtain ⟨q', w', fr', g', re', fi', e, h1, h2, h3, h4⟩ := zX4_refresh K hK fa hW.2.2.2.2.2.2.1 hR hfa (fun t ht k hk g => zWF_Rz hW t ht k hk (by rw [← hfa t k ht hk]; exact g)) hM hM4 q w fr g re fi rt
    exact ⟨q', w', fr', g', re', fi', _, e, ⟨h1, h2, h3, h4, rfl⟩, fun g => absurd g (by decide)⟩
  · refine ⟨q, w, fr, g, re, fi, rt, ?_, h, fun _ => rfl⟩
    unfold zap
    unfold fX4_refresh
    rw [if_neg (by decide)]
    rfl
