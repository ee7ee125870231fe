/-! the checksum on both sides -/
def zcc (k : Nat) : Nat → Int32 → Int32
  | 0, x => x
  | j + 1, x => (31 : Int32) * zcc k j x + nI (zcol k j)
def zct (P : Nat → Bool) (c : Nat) : Nat → Int32 → Int32
  | 0, x => x
  | i + 1, x => if P i = true then zcc i c (zct P c i x) else zct P c i x
def zca (R : Nat → Nat → Bool) (s : Nat → Nat) : Nat → Int32 → Int32
  | 0, x => x
  | t + 1, x => zct (R t) (s (1 + t)) 512 (zca R s t x)
def zcq (f : Nat → Nat) : Nat → Int32 → Int32
  | 0, x => x
  | q + 1, x => (31 : Int32) * zcq f q x + nI (f q)
theorem zX11_withRow (K : Nat) (hK : 5 < K) (x : Int32) {k c : Nat} (hk : k < 512) (hc : c ≤ 3) : fX11_withRow K x (nI k) (nI c) = some (zcc k c x) := by
  unfold fX11_withRow
  refine z_forE (F := fun m j (y : Int32) => fX11_withRow_5 K x (nI k) (nI c) m y (nI j)) (n := c) (inv := fun j y => y = zcc k j x) ?_ ?_ c K 0 x (by omega) rfl (by omega)
  · intro m j y hj hy
    left
    refine ⟨_, rfl, ?_⟩
    show fX11_withRow_5 K x (nI k) (nI c) (m + 1) y (nI j) = _
    have hv : fX11_valueIn (nI k) (nI j) = some (nI (zcol k j)) := zX11_valueIn hk (by omega)
    rw [fX11_withRow_5, if_neg (by rw [zi_le (by omega) (by omega)]; omega), hv, Option.bind_some, hy, ← nI_succ]
    rfl
  · intro m y hy
    show fX11_withRow_5 K x (nI k) (nI c) (m + 1) y (nI c) = _
    rw [fX11_withRow_5, if_pos (by rw [zi_le (by omega) (by omega)]; omega), hy]
theorem zX11_checksum29 (K : Nat) (hK : 1000 < K) {s : Nat → Nat} (hW : zWF s) {wd : Nat → Int32} (hwd : ∀ t, t < s 0 → wd t = nI (s (1 + t))) (fa : Nat → Int64) (od hd : Nat → Int32) (qc : Nat → Nat → Int32) (qs : Nat → Int32) (bc : Nat → Nat → Int32) (bs : Nat → Int32) (tt rtt : Int32) (q : zR13) (w fr : Nat → Int64) (g re fi : Nat → Int32) (rt im : Int32) (r : zR15) (ff : Int32) (r16 : Int32 → Int32 → zF20 (zF15 (Int32 → Option (Int32 × zR20f)))) {t : Nat} (ht : t < s 0) (x : Int32) :
    zapr (zapg (fX11_checksum_29 K wd fa od hd qc qs bc bs tt rtt r16 K x (nI t) 0) q w fr g re fi rt im) r ff = zapr (zapg (r16 (zct (zw w t) (s (1 + t)) 512 x) (nI (t + 1))) q w fr g re fi rt im) r ff := by
  have h5 := hW.1
  obtain ⟨c1, c3⟩ := hW.2.1 t ht
  have e512 : (512 : Int32) = nI 512 := rfl
  refine z_forE (F := fun k i (y : Int32) => zapr (zapg (fX11_checksum_29 K wd fa od hd qc qs bc bs tt rtt r16 k y (nI t) (nI i)) q w fr g re fi rt im) r ff) (n := 512) (inv := fun i y => y = zct (zw w t) (s (1 + t)) i x) ?_ ?_ 512 K 0 x (by omega) rfl (by omega)
  · intro k i y hi hy
    left
    refine ⟨_, rfl, ?_⟩
    show (if (512 : Int32) ≤ nI i then _ else ((fX7_has w (nI t) (nI i)).bind fun q45 => if bI q45 = 0 then zapr (zapg (fX11_checksum_29 K wd fa od hd qc qs bc bs tt rtt r16 k y (nI t) (nI i + (1 : Int32))) q w fr g re fi rt im) r ff else ((fX6_at 5 wd (nI t)).bind fun q61 => (fX11_withRow K y (nI i) q61).bind fun q64 => zapr (zapg (fX11_checksum_29 K wd fa od hd qc qs bc bs tt rtt r16 k q64 (nI t) (nI i + (1 : Int32))) q w fr g re fi rt im) r ff))) = _
    rw [if_neg (show ¬ (512 : Int32) ≤ nI i by rw [e512, zi_le (by omega) (by omega)]; omega), zX7_has w (show t < 5 by omega) hi, Option.bind_some, zX6_at wd (show t < 5 by omega) (by omega), Option.bind_some, hwd t ht, zX11_withRow K (by omega) y hi c3, Option.bind_some, nI_succ, zct, hy]
    cases e : zw w t i
    · rw [if_pos (show bI false = 0 from rfl), if_neg (show ¬ false = true by decide)]
    · rw [if_neg (show ¬ bI true = 0 by decide), if_pos (rfl : true = true)]
  · intro k y hy
    show zapr (zapg (r16 y (nI t + (1 : Int32))) q w fr g re fi rt im) r ff = _
    rw [nI_succ, hy]
theorem zX12_checksum32 (K : Nat) (hK : 1000 < K) {now : Nat → Int32} {s : Nat → Nat} (hm : zM now s) (hW : zWF s) {row : Nat → Int32} {R : Nat → Nat → Bool} (hrow : zMr row R) {t i : Nat} (ht : t < s 0) (hi : i < 512) (r10 : Int32 → Int32 → Int32 → (Nat → Int32) → (Nat → Int32) → Int32 → Option (Int32 × Int32 × (Nat → Int32) × (Nat → Int32) × Int32)) (r22 : Int32 → Int32 → Int32 → Int32 → (Nat → Int32) → (Nat → Int32) → Int32 → Option (Int32 × Int32 × (Nat → Int32) × (Nat → Int32) × Int32)) (x : Int32) (v pl : Nat → Int32) (ps : Int32) :
    fX12_checksum_32 K now row r10 r22 K x (nI t) (nI i) 0 0 v pl ps = r22 (if R t i = true then zcc i (s (1 + t)) x else x) (nI t) (nI (i + 1)) 0 v pl ps := by
  have h5 := hW.1
  obtain ⟨c1, c3⟩ := hW.2.1 t ht
  cases e : R t i
  · obtain ⟨k, rfl⟩ : ∃ z, K = z + 1 := ⟨K - 1, by omega⟩
    rw [fX12_checksum_32, zX12_columnsOf hm (show t < 5 by omega), Option.bind_some, if_neg (show ¬ nI (s (1 + t)) ≤ 0 by rw [show (0 : Int32) = nI 0 from rfl, zi_le (by omega) (by omega)]; omega), show (512 : Int32) = nI 512 from rfl, zi_mul, zi_add, if_pos (by rw [zi_inB (by omega)]; omega), zi_clamp (by omega), hrow t i (by omega) hi, e, if_pos (show bI false = 0 from rfl), if_neg (show ¬ false = true by decide), nI_succ]
    rfl
  · rw [if_pos (rfl : true = true)]
    refine z_forE (F := fun m j (y : Int32) => fX12_checksum_32 K now row r10 r22 m y (nI t) (nI i) (nI j) 0 v pl ps) (n := s (1 + t)) (inv := fun j y => y = zcc i j x) ?_ ?_ (s (1 + t)) K 0 x (by omega) rfl (by omega)
    · intro m j y hj hy
      left
      refine ⟨_, rfl, ?_⟩
      show fX12_checksum_32 K now row r10 r22 (m + 1) y (nI t) (nI i) (nI j) 0 v pl ps = _
      have hv : fX12_valueIn (nI i) (nI j) = some (nI (zcol i j)) := zX12_valueIn hi (by omega)
      rw [fX12_checksum_32, zX12_columnsOf hm (show t < 5 by omega), Option.bind_some, if_neg (by rw [zi_le (by omega) (by omega)]; omega), show (512 : Int32) = nI 512 from rfl, zi_mul, zi_add, if_pos (by rw [zi_inB (by omega)]; omega), zi_clamp (by omega), hrow t i (by omega) hi, e, if_neg (show ¬ bI true = 0 by decide), hv, Option.bind_some, hy, ← nI_succ]
      rfl
    · intro m y hy
      show fX12_checksum_32 K now row r10 r22 (m + 1) y (nI t) (nI i) (nI (s (1 + t))) 0 v pl ps = _
      rw [fX12_checksum_32, zX12_columnsOf hm (show t < 5 by omega), Option.bind_some, if_pos (by rw [zi_le (by omega) (by omega)]; omega), hy, nI_succ]
      rfl
theorem zX12_checksum22 (K : Nat) (hK : 1000 < K) {now : Nat → Int32} {s : Nat → Nat} (hm : zM now s) (hW : zWF s) {row : Nat → Int32} {R : Nat → Nat → Bool} (hrow : zMr row R) {t : Nat} (ht : t < s 0) (r10 : Int32 → Int32 → Int32 → (Nat → Int32) → (Nat → Int32) → Int32 → Option (Int32 × Int32 × (Nat → Int32) × (Nat → Int32) × Int32)) (x : Int32) (v pl : Nat → Int32) (ps : Int32) :
    fX12_checksum_22 K now row r10 K x (nI t) 0 0 v pl ps = r10 (zct (R t) (s (1 + t)) 512 x) (nI (t + 1)) 0 v pl ps := by
  have e512 : (512 : Int32) = nI 512 := rfl
  refine z_forE (F := fun k i (y : Int32) => fX12_checksum_22 K now row r10 k y (nI t) (nI i) 0 v pl ps) (n := 512) (inv := fun i y => y = zct (R t) (s (1 + t)) i x) ?_ ?_ 512 K 0 x (by omega) rfl (by omega)
  · intro k i y hi hy
    left
    refine ⟨_, rfl, ?_⟩
    show fX12_checksum_22 K now row r10 (k + 1) y (nI t) (nI i) 0 v pl ps = _
    rw [fX12_checksum_22, if_neg (show ¬ (512 : Int32) ≤ nI i by rw [e512, zi_le (by omega) (by omega)]; omega), zX12_checksum32 K hK hm hW hrow ht hi, zct, hy]
  · intro k y hy
    show fX12_checksum_22 K now row r10 (k + 1) y (nI t) (nI 512) 0 v pl ps = _
    rw [fX12_checksum_22, if_pos (show (512 : Int32) ≤ nI 512 by decide), hy, nI_succ]
theorem zX12_checksum (K : Nat) (hK : 5000 < K) {now : Nat → Int32} {s : Nat → Nat} (hm : zM now s) (hW : zWF s) {row : Nat → Int32} {R : Nat → Nat → Bool} (hrow : zMr row R) (th : Int32) {value : Nat → Int32} (hval : ∃ val, zMv value val) (place : Nat → Int32) (places : Int32) :
    ∃ value' place' places', fX12_checksum K now row th value place places = some (zcq (fun q => zcnt (zqP R s q) 4096) 4 (zca R s (s 0) 17), 0, value', place', places') ∧ ∃ val, zMv value' val := by
  have h5 := hW.1
  have c0 : (0 : Int32).toNatClampNeg = 0 := by decide
  have i0 : inB (0 : Int32) 2780 = true := by decide
  have h0 := hm 0 (by omega)
  obtain ⟨_, ⟨v', p', ps', rfl, hv'⟩, e89⟩ := z_for (F := fun k i (u : (Nat → Int32) × (Nat → Int32) × Int32) => fX12_checksum_89 K now row k (zcq (fun q => zcnt (zqP R s q) 4096) i (zca R s (s 0) 17)) (nI i) 0 u.1 u.2.1 u.2.2) (n := 4) (inv := fun _ u => ∃ val, zMv u.1 val) (post := fun o => ∃ v' p' ps', o = (zcq (fun q => zcnt (zqP R s q) 4096) 4 (zca R s (s 0) 17), 0, v', p', ps') ∧ ∃ val, zMv v' val)
    (by
      intro k i u hi hu
      left
      obtain ⟨val, hu⟩ := hu
      obtain ⟨h1, h2, h3⟩ := hW.2.2.2.2.2.1 i hi
      obtain ⟨v', val', p', ps', ea, hv'⟩ := zX12_answersOf K (by omega) hm hrow hi h1 h2 u.2.1 u.2.2 hu
      refine ⟨(v', p', ps'), ⟨val', hv'⟩, ?_⟩
      show fX12_checksum_89 K now row (k + 1) (zcq (fun q => zcnt (zqP R s q) 4096) i (zca R s (s 0) 17)) (nI i) 0 u.1 u.2.1 u.2.2 = _
      rw [fX12_checksum_89, if_neg (show ¬ (4 : Int32) ≤ nI i by rw [show (4 : Int32) = nI 4 from rfl, zi_le (by omega) (by omega)]; omega), ea, Option.bind_some, ← nI_succ]
      rfl)
    (by
      intro k u hu
      refine ⟨_, ⟨u.1, u.2.1, u.2.2, rfl, hu⟩, ?_⟩
      show fX12_checksum_89 K now row (k + 1) (zcq (fun q => zcnt (zqP R s q) 4096) 4 (zca R s (s 0) 17)) (nI 4) 0 u.1 u.2.1 u.2.2 = _
      rw [fX12_checksum_89, if_pos (show (4 : Int32) ≤ nI 4 by decide)]) 4 K 0 (value, place, places) (by omega) hval (by omega)
  refine ⟨v', p', ps', ?_, hv'⟩
  unfold fX12_checksum
  have e10 : fX12_checksum_10 K now row K 17 0 0 value place places = fX12_checksum_89 K now row K (zca R s (s 0) 17) 0 0 value place places := by
    refine z_forE (F := fun k t (y : Int32) => fX12_checksum_10 K now row k y (nI t) 0 value place places) (n := s 0) (inv := fun t y => y = zca R s t 17) ?_ ?_ (s 0) K 0 17 (by omega) rfl (by omega)
    · intro k t y ht hy
      left
      refine ⟨_, rfl, ?_⟩
      show fX12_checksum_10 K now row (k + 1) y (nI t) 0 value place places = _
      rw [fX12_checksum_10, if_pos i0, c0, h0.1, if_neg (by rw [zi_le (by omega) (by omega)]; omega), zX12_checksum22 K (by omega) hm hW hrow ht, hy]
      rfl
    · intro k y hy
      show fX12_checksum_10 K now row (k + 1) y (nI (s 0)) 0 value place places = _
      rw [fX12_checksum_10, if_pos i0, c0, h0.1, if_pos (by rw [zi_le (by omega) (by omega)]; omega), hy]
  rw [e10]
  exact e89
theorem zct_cong {R S : Nat → Bool} (c : Nat) (x : Int32) : ∀ i, (∀ j, j < i → R j = S j) → zct R c i x = zct S c i x
  | 0, _ => rfl
  | i + 1, h => by rw [zct, zct, zct_cong c x i (fun j hj => h j (by omega)), h i (by omega)]
theorem zca_cong {R S : Nat → Nat → Bool} (s : Nat → Nat) (x : Int32) : ∀ t, (∀ u, u < t → ∀ j, j < 512 → R u j = S u j) → zca R s t x = zca S s t x
  | 0, _ => rfl
  | t + 1, h => by rw [zca, zca, zca_cong s x t (fun u hu => h u (by omega)), zct_cong _ _ 512 (h t (by omega))]
theorem zc_checksum (K : Nat) (hK : 1000000 < K) {s : Nat → Nat} (hW : zWF s) {M : Nat → Nat} (hM : zLst (zE s) M) (hM4 : ∀ t, t < 5 → M t ≤ 4) {wd : Nat → Int32} (hwd : ∀ t, t < s 0 → wd t = nI (s (1 + t))) {fa : Nat → Int64} {hd : Nat → Int32} {bc : Nat → Nat → Int32} {bs : Nat → Int32} {rtt : Int32} (hfa : zeqR (zw fa) (zfacts s)) (hR : zRc hd bc bs rtt s) (q : zR13) (w fr : Nat → Int64) (g re fi : Nat → Int32) (rt im : Int32) (hg : im = 0 ∨ im = 1 ∧ zGn s M w g re fi rt) {now row layer value : Nat → Int32} {rounds : Int32} (hm : zM now s) (hrow : zMr row (zly s M 5).1) (hl : ∀ t, t < 5 → layer t = nI (M t)) (hro : rounds = nI (zly s M 5).2) (hval : ∃ val, zMv value val) {od : Nat → Int32} (hod : ∀ q, q < 4 → od q = nI (zqo s q)) {qc : Nat → Nat → Int32} {qs : Nat → Int32} (hq5 : ∀ q, q < 4 → qs q = nI (zqn s q) ∧ zL (qc q) (zqn s q) (zqa s q) (fun _ => false)) (r : zR15) (ff : Int32) (hff : zFo s w im r ff) (th : Int32) (place : Nat → Int32) (places : Int32) :
    ∃ v q' w' fr' g' re' fi' rt' r' ff' value' place' places', zapr (zapg (fX11_checksum K wd fa od hd qc qs bc bs (nI (s 0)) rtt) q w fr g re fi rt im) r ff = some (v, zgr q' w' fr' g' re' fi' rt' 1 (zpf r' ff')) ∧ fX12_checksum K now row th value place places = some (v, 0, value', place', places') ∧ (∃ val, zMv value' val) ∧ zGa s M w g re fi rt im w' g' re' fi' rt' 1 ∧ zFo s w' 1 r' ff' := by
  have h5 := hW.1
  obtain ⟨q', w', fr', g', re', fi', rt', er, hn, hw'⟩ := zRefresh K hK hW hM hM4 hfa hR q w fr g re fi rt im hg
  have hff' : zFo s w' 1 r ff := by
    rcases hff with h | ⟨q2, h1, h2, h3, h4⟩
    · exact Or.inl h
    · rw [hw' h3]
      exact Or.inr ⟨q2, h1, h2, rfl, h4⟩
  have hrow' : zMr row (zw w') := fun t j ht hj => by rw [hrow t j ht hj, hn.1 t j ht hj]
  obtain ⟨value', place', places', em, hv'⟩ := zX12_checksum K (by omega) hm hW hrow' th hval place places
  obtain ⟨_, ⟨r', ff', rfl, hfo⟩, e82⟩ := z_for (F := fun k i (u : zR15 × Int32) => zapr (zapg (fX11_checksum_82 K wd fa od hd qc qs bc bs (nI (s 0)) rtt k (zcq (fun q => zcnt (zqP (zw w') s q) 4096) i (zca (zw w') s (s 0) 17)) (nI i)) q' w' fr' g' re' fi' rt' 1) u.1 u.2) (n := 4) (inv := fun _ u => zFo s w' 1 u.1 u.2) (post := fun o => ∃ r' ff', o = (zcq (fun q => zcnt (zqP (zw w') s q) 4096) 4 (zca (zw w') s (s 0) 17), zgr q' w' fr' g' re' fi' rt' 1 (zpf r' ff')) ∧ zFo s w' 1 r' ff')
    (by
      intro k i u hi hinv
      left
      obtain ⟨r', el, hfd⟩ := zLook K hK hW hod hq5 hn.1 1 u.1 u.2 hinv hi
      refine ⟨(r', nI i), Or.inr ⟨i, hi, rfl, rfl, hfd⟩, ?_⟩
      have hq14 : r'.2.2.2.2.2.2.2.2.2.2.2.2.2.2 = nI (zcnt (zqP (zw w') s i) 4096) := hfd.2.2.2.2.2
      show (if (4 : Int32) ≤ nI i then _ else ((zapr (fX11_look K od qc qs w' (nI i)) u.1 u.2).bind fun q22 => zapr (zapg (fX11_checksum_82 K wd fa od hd qc qs bc bs (nI (s 0)) rtt k ((31 : Int32) * zcq (fun q => zcnt (zqP (zw w') s q) 4096) i (zca (zw w') s (s 0) 17) + q22.2.2.2.2.2.2.2.2.2.2.2.2.2.2.1) (nI i + (1 : Int32))) q' w' fr' g' re' fi' rt' 1) (q22.1, q22.2.1, q22.2.2.1, q22.2.2.2.1, q22.2.2.2.2.1, q22.2.2.2.2.2.1, q22.2.2.2.2.2.2.1, q22.2.2.2.2.2.2.2.1, q22.2.2.2.2.2.2.2.2.1, q22.2.2.2.2.2.2.2.2.2.1, q22.2.2.2.2.2.2.2.2.2.2.1, q22.2.2.2.2.2.2.2.2.2.2.2.1, q22.2.2.2.2.2.2.2.2.2.2.2.2.1, q22.2.2.2.2.2.2.2.2.2.2.2.2.2.1, q22.2.2.2.2.2.2.2.2.2.2.2.2.2.2.1) q22.2.2.2.2.2.2.2.2.2.2.2.2.2.2.2)) = _
      rw [if_neg (show ¬ (4 : Int32) ≤ nI i by rw [show (4 : Int32) = nI 4 from rfl, zi_le (by omega) (by omega)]; omega), el, Option.bind_some]
      show zapr (zapg (fX11_checksum_82 K wd fa od hd qc qs bc bs (nI (s 0)) rtt k ((31 : Int32) * zcq (fun q => zcnt (zqP (zw w') s q) 4096) i (zca (zw w') s (s 0) 17) + r'.2.2.2.2.2.2.2.2.2.2.2.2.2.2) (nI i + (1 : Int32))) q' w' fr' g' re' fi' rt' 1) r' (nI i) = _
      rw [hq14, ← nI_succ]
      rfl)
    (by
      intro k u hu
      refine ⟨_, ⟨u.1, u.2, rfl, hu⟩, ?_⟩
      rfl) 4 K 0 (r, ff) (by omega) hff' (by omega)
  have e16 : zapr (zapg (fX11_checksum_16 K wd fa od hd qc qs bc bs (nI (s 0)) rtt K 17 0) q' w' fr' g' re' fi' rt' 1) r ff = zapr (zapg (fX11_checksum_82 K wd fa od hd qc qs bc bs (nI (s 0)) rtt K (zca (zw w') s (s 0) 17) 0) q' w' fr' g' re' fi' rt' 1) r ff := by
    refine z_forE (F := fun k t (y : Int32) => zapr (zapg (fX11_checksum_16 K wd fa od hd qc qs bc bs (nI (s 0)) rtt k y (nI t)) q' w' fr' g' re' fi' rt' 1) r ff) (n := s 0) (inv := fun t y => y = zca (zw w') s t 17) ?_ ?_ (s 0) K 0 17 (by omega) rfl (by omega)
    · intro k t y ht hy
      left
      refine ⟨_, rfl, ?_⟩
      show (if nI (s 0) ≤ nI t then _ else zapr (zapg (fX11_checksum_29 K wd fa od hd qc qs bc bs (nI (s 0)) rtt (fX11_checksum_16 K wd fa od hd qc qs bc bs (nI (s 0)) rtt k) K y (nI t) 0) q' w' fr' g' re' fi' rt' 1) r ff) = _
      rw [if_neg (by rw [zi_le (by omega) (by omega)]; omega), zX11_checksum29 K (by omega) hW hwd fa od hd qc qs bc bs (nI (s 0)) rtt q' w' fr' g' re' fi' rt' 1 r ff (fX11_checksum_16 K wd fa od hd qc qs bc bs (nI (s 0)) rtt k) ht y, hy]
      rfl
    · intro k y hy
      show (if nI (s 0) ≤ nI (s 0) then zapr (zapg (fX11_checksum_82 K wd fa od hd qc qs bc bs (nI (s 0)) rtt K y 0) q' w' fr' g' re' fi' rt' 1) r ff else _) = _
      rw [if_pos (by rw [zi_le (by omega) (by omega)]; omega), hy]
  refine ⟨_, q', w', fr', g', re', fi', rt', r', ff', value', place', places', ?_, em, hv', Or.inr ⟨rfl, hn, hw'⟩, hfo⟩
  unfold zapr zapg fX11_checksum
  show ((zap (fX4_refresh K fa hd bc bs rtt) q w fr g re fi rt im).bind _) = _
  rw [er, Option.bind_some]
  exact e16.trans e82
