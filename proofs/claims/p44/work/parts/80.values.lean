/-! the values of a column, the greatest value below -/
def zvb (R : Nat → Bool) (c : Nat) : Nat → Nat
  | 0 => 0
  | i + 1 => if R i = true then zvb R c i ||| 1 <<< zcol i c else zvb R c i
theorem zvb_pow : ∀ v : Fin 8, 1 <<< v.val < 2 ^ 8 := by decide
theorem zcol_lt (k j : Nat) : zcol k j < 8 := Nat.mod_lt _ (by decide)
theorem zvb_lt (R : Nat → Bool) (c : Nat) : ∀ i, zvb R c i < 2 ^ 8
  | 0 => by
    show 0 < 2 ^ 8
    decide
  | i + 1 => by
    rw [zvb]
    split
    · exact Nat.or_lt_two_pow (zvb_lt R c i) (zvb_pow ⟨_, zcol_lt i c⟩)
    · exact zvb_lt R c i
theorem zvb_cong {R S : Nat → Bool} (c : Nat) : ∀ i, (∀ j, j < i → R j = S j) → zvb R c i = zvb S c i
  | 0, _ => rfl
  | i + 1, h => by rw [zvb, zvb, zvb_cong c i (fun j hj => h j (by omega)), h i (by omega)]
theorem zvb_or (b v : Nat) (hv : v < 8) : nI b ||| ((1 : Int32) <<< (nI v &&& 31)) = nI (b ||| 1 <<< v) := by
  rw [show (1 : Int32) = nI 1 from rfl, zi_shl 1 (show v < 32 by omega), zi_or]
theorem zX11_values27 (K : Nat) (hK : 1000 < K) (wd : Nat → Int32) (fa : Nat → Int64) (hd : Nat → Int32) (bc : Nat → Nat → Int32) (bs : Nat → Int32) (tt rtt : Int32) {t c : Nat} (ht : t < 5) (hc : c < 3) (q : zR13) (w fr : Nat → Int64) (g re fi : Nat → Int32) (rt im : Int32) :
    zapg (fX11_values_27 K wd fa hd bc bs tt rtt (nI t) (nI c) K 0 0) q w fr g re fi rt im = some (Sum.inr (nI (zcnt (fun i => (zvb (zw w t) c 512).testBit i) 8)), zrs q w fr g re fi rt im) := by
  have e512 : (512 : Int32) = nI 512 := rfl
  refine z_forE (F := fun k i (x : Int32) => zapg (fX11_values_27 K wd fa hd bc bs tt rtt (nI t) (nI c) k x (nI i)) q w fr g re fi rt im) (n := 512) (inv := fun i x => x = nI (zvb (zw w t) c i)) ?_ ?_ 512 K 0 0 (by omega) rfl (by omega)
  · intro k i x hi hx
    left
    refine ⟨_, rfl, ?_⟩
    show (if (512 : Int32) ≤ nI i then _ else ((fX7_has w (nI t) (nI i)).bind fun q45 => if bI q45 = 0 then zapg (fX11_values_27 K wd fa hd bc bs tt rtt (nI t) (nI c) k x (nI i + (1 : Int32))) q w fr g re fi rt im else ((fX11_valueIn (nI i) (nI c)).bind fun q56 => zapg (fX11_values_27 K wd fa hd bc bs tt rtt (nI t) (nI c) k (x ||| ((1 : Int32) <<< (q56 &&& 31))) (nI i + (1 : Int32))) q w fr g re fi rt im)) : Option ((Nat ⊕ Int32) × zR20)) = _
    rw [if_neg (show ¬ (512 : Int32) ≤ nI i by rw [e512, zi_le (by omega) (by omega)]; omega), zX7_has w ht hi, Option.bind_some, nI_succ]
    have hv : fX11_valueIn (nI i) (nI c) = some (nI (zcol i c)) := zX11_valueIn hi hc
    cases e : zw w t i
    · rw [if_pos (show bI false = 0 from rfl), zvb, e, if_neg (show ¬ false = true by decide), hx]
    · rw [if_neg (show ¬ bI true = 0 by decide), hv, Option.bind_some, zvb, e, if_pos (rfl : true = true), hx, zvb_or _ _ (zcol_lt i c)]
  · intro k x hx
    show ((fJ6_bitCount_0f7a4 x).bind fun q69 => some (Sum.inr q69, zrs q w fr g re fi rt im) : Option ((Nat ⊕ Int32) × zR20)) = _
    rw [hx, zbitCount ⟨_, zvb_lt (zw w t) c 512⟩, Option.bind_some]
theorem zX12_values39 (K : Nat) (hK : 1000 < K) (now : Nat → Int32) {row : Nat → Int32} {R : Nat → Nat → Bool} (hrow : zMr row R) {t c : Nat} (ht : t < 5) (hc : c < 3) :
    fX12_values_39 K now row (nI t) (nI c) K 0 0 0 = some (nI (zcnt (fun i => (zvb (R t) c 512).testBit i) 8), 0) := by
  have e512 : (512 : Int32) = nI 512 := rfl
  refine z_forE (F := fun k i (x : Int32) => fX12_values_39 K now row (nI t) (nI c) k x (nI i) 0) (n := 512) (inv := fun i x => x = nI (zvb (R t) c i)) ?_ ?_ 512 K 0 0 (by omega) rfl (by omega)
  · intro k i x hi hx
    left
    refine ⟨_, rfl, ?_⟩
    show fX12_values_39 K now row (nI t) (nI c) (k + 1) x (nI i) 0 = _
    rw [fX12_values_39, if_neg (show ¬ (512 : Int32) ≤ nI i by rw [e512, zi_le (by omega) (by omega)]; omega), e512, zi_mul, zi_add, if_pos (by rw [zi_inB (by omega)]; omega), zi_clamp (by omega), hrow t i ht hi, zX12_valueIn hi hc]
    show (if bI (R t i) = 0 then fX12_values_39 K now row (nI t) (nI c) k x (nI i + (1 : Int32)) 0 else fX12_values_39 K now row (nI t) (nI c) k (x ||| ((1 : Int32) <<< (nI (zcol i c) &&& 31))) (nI i + (1 : Int32)) 0) = _
    rw [nI_succ]
    cases e : R t i
    · rw [if_pos (show bI false = 0 from rfl), zvb, e, if_neg (show ¬ false = true by decide), hx]
    · rw [if_neg (show ¬ bI true = 0 by decide), zvb, e, if_pos (rfl : true = true), hx, zvb_or _ _ (zcol_lt i c)]
  · intro k x hx
    show fX12_values_39 K now row (nI t) (nI c) (k + 1) x (nI 512) 0 = _
    rw [fX12_values_39, if_pos (show (512 : Int32) ≤ nI 512 by decide), hx, zX12_bitsOf K (by omega) (zvb_lt (R t) c 512), Option.bind_some]
theorem zc_values (K : Nat) (hK : 1000000 < K) {s : Nat → Nat} (hW : zWF s) {M : Nat → Nat} (hM : zLst (zE s) M) (hM4 : ∀ t, t < 5 → M t ≤ 4) {wd : Nat → Int32} (hwd : ∀ t, t < s 0 → wd t = nI (s (1 + t))) {fa : Nat → Int64} {hd : Nat → Int32} {bc : Nat → Nat → Int32} {bs : Nat → Int32} {rtt : Int32} (hfa : zeqR (zw fa) (zfacts s)) (hR : zRc hd bc bs rtt s) (q : zR13) (w fr : Nat → Int64) (g re fi : Nat → Int32) (rt im : Int32) (hg : im = 0 ∨ im = 1 ∧ zGn s M w g re fi rt) {now row layer value : Nat → Int32} {rounds : Int32} (hm : zM now s) (hrow : zMr row (zly s M 5).1) (hl : ∀ t, t < 5 → layer t = nI (M t)) (hro : rounds = nI (zly s M 5).2) (hval : ∃ val, zMv value val) (p p2 th : Int32) :
    ∃ e r q' w' fr' g' re' fi' rt' im', zapg (fX11_values K wd fa hd bc bs (nI (s 0)) rtt p p2) q w fr g re fi rt im = some (e, zrs q' w' fr' g' re' fi' rt' im') ∧ fX12_values K now row p p2 th = some r ∧ zAg [0] 0 e r ∧ zGa s M w g re fi rt im w' g' re' fi' rt' im' := by
  have h5 := hW.1
  obtain ⟨q', w', fr', g', re', fi', rt', er, hn, hw'⟩ := zRefresh K hK hW hM hM4 hfa hR q w fr g re fi rt im hg
  unfold zapg fX11_values fX12_values fX12_values_28 fX12_fails
  rcases zC_table hm hW.1 p with ⟨t, ht, rfl, e1, e2⟩ | ⟨e1, e2⟩
  · obtain ⟨c1, c3⟩ := hW.2.1 t ht
    rw [e1, e2, Option.bind_some, Option.bind_some, if_neg (show ¬ bI true = 0 by decide), zX12_columnsOf hm (show t < 5 by omega), Option.bind_some]
    have cls : ∀ {x : (Nat ⊕ Unit) × Unit}, fX11_needColumn wd (nI t) p2 = some x → ∀ f1 f2, ((fX11_needColumn wd (nI t) p2).bind fun q8 => q8.1.elim f1 f2 : Option ((Nat ⊕ Int32) × zR20)) = x.1.elim f1 f2 := by
      intro x hx f1 f2
      rw [hx]; rfl
    rcases zC_column hm hW hwd ht p2 with ⟨c, hc, rfl, e3, e4⟩ | ⟨e3, e4⟩
    · rw [e4, Option.bind_some, if_neg (show ¬ bI true = 0 by decide), zX12_values39 K (by omega) now hrow (show t < 5 by omega) (show c < 3 by omega)]
      refine ⟨_, _, q', w', fr', g', re', fi', rt', 1, ?_, rfl, Or.inr ⟨_, rfl, rfl⟩, Or.inr ⟨rfl, hn, hw'⟩⟩
      refine (cls e3 _ _).trans ?_
      show ((zap (fX4_refresh K fa hd bc bs rtt) q w fr g re fi rt im).bind _) = _
      rw [er, Option.bind_some]
      show zapg (fX11_values_27 K wd fa hd bc bs (nI (s 0)) rtt (nI t) (nI c) K 0 0) q' w' fr' g' re' fi' rt' 1 = _
      rw [zX11_values27 K (by omega) wd fa hd bc bs (nI (s 0)) rtt (show t < 5 by omega) (show c < 3 by omega), zvb_cong c 512 (fun j hj => hn.1 t j (by omega) hj)]
    · rw [e4, Option.bind_some, if_pos (show bI false = 0 from rfl)]
      exact ⟨.inl 0, _, q, w, fr, g, re, fi, rt, im, cls e3 _ _, rfl, Or.inl ⟨0, by decide, rfl, rfl⟩, Or.inl ⟨rfl, rfl, rfl, rfl, rfl, rfl⟩⟩
  · rw [e1, e2, Option.bind_some, Option.bind_some, if_pos (show bI false = 0 from rfl)]
    exact ⟨.inl 0, _, q, w, fr, g, re, fi, rt, im, rfl, rfl, Or.inl ⟨0, by decide, rfl, rfl⟩, Or.inl ⟨rfl, rfl, rfl, rfl, rfl, rfl⟩⟩
/-- the greatest value below, one up, 0 for none -/
def zlo (R : Nat → Bool) (v : Nat) : Nat → Nat
  | 0 => 0
  | i + 1 => if R i = true ∧ i / 64 < v then i / 64 + 1 else zlo R v i
theorem zlo_le (R : Nat → Bool) (v : Nat) : ∀ i, zlo R v i ≤ v ∧ zlo R v i * 64 ≤ i + 63
  | 0 => ⟨Nat.zero_le _, by rw [zlo]; omega⟩
  | i + 1 => by
    have h := zlo_le R v i
    rw [zlo]
    split
    · rename_i g; omega
    · omega
theorem zlo_ge (R : Nat → Bool) (v : Nat) : ∀ i, ∀ j, j < i → R j = true → j / 64 < v → j / 64 + 1 ≤ zlo R v i
  | 0 => fun j h => by omega
  | i + 1 => fun j hj hr hv => by
    rw [zlo]
    split
    · omega
    · rename_i g
      by_cases e : j = i
      · rw [e] at hr hv; exact absurd ⟨hr, hv⟩ g
      · exact zlo_ge R v i j (by omega) hr hv
theorem zlo_in (R : Nat → Bool) (v : Nat) : ∀ i, 0 < zlo R v i → ∃ j, j < i ∧ R j = true ∧ j / 64 < v ∧ zlo R v i = j / 64 + 1
  | 0 => fun h => by rw [zlo] at h; omega
  | i + 1 => fun h => by
    rw [zlo] at h ⊢
    split at h
    · rename_i g
      rw [if_pos g]
      exact ⟨i, by omega, g.1, g.2, rfl⟩
    · rename_i g
      rw [if_neg g]
      obtain ⟨j, h1, h2, h3, h4⟩ := zlo_in R v i h
      exact ⟨j, by omega, h2, h3, h4⟩
theorem zX12_lower40 (K : Nat) (hK : 1000 < K) (now : Nat → Int32) {row : Nat → Int32} {R : Nat → Nat → Bool} (hrow : zMr row R) {t v : Nat} (ht : t < 5) (hv : v < 9) :
    fX12_lower_40 K now row (nI t) (nI v) K (-1) 0 0 = if zlo (R t) v 512 = 0 then some (0, nI 3) else some (nI (zlo (R t) v 512 - 1), 0) := by
  have e512 : (512 : Int32) = nI 512 := rfl
  have em1 : ∀ n, n = 0 ∨ nI n + (-1 : Int32) = nI (n - 1) := by
    intro n
    rcases n with _ | n
    · left; rfl
    · right; rw [zi_dec]; rfl
  refine z_forE (F := fun k i (x : Int32) => fX12_lower_40 K now row (nI t) (nI v) k x (nI i) 0) (n := 512) (inv := fun i x => x = nI (zlo (R t) v i) + (-1 : Int32)) ?_ ?_ 512 K 0 (-1) (by omega) (show (-1 : Int32) = nI 0 + (-1 : Int32) by decide) (by omega)
  · intro k i x hi hx
    left
    refine ⟨_, rfl, ?_⟩
    show fX12_lower_40 K now row (nI t) (nI v) (k + 1) x (nI i) 0 = _
    have hc : fX12_valueIn (nI i) 0 = some (nI (zcol i 0)) := zX12_valueIn (j := 0) hi (by omega)
    have hc0 : zcol i 0 = i / 64 := by
      show i / 64 % 8 = i / 64
      omega
    rw [fX12_lower_40, if_neg (show ¬ (512 : Int32) ≤ nI i by rw [e512, zi_le (by omega) (by omega)]; omega), e512, zi_mul, zi_add, if_pos (by rw [zi_inB (by omega)]; omega), zi_clamp (by omega), hrow t i ht hi, hc, hc0]
    show (if bI (R t i) = 0 then fX12_lower_40 K now row (nI t) (nI v) k x (nI i + (1 : Int32)) 0 else if nI v ≤ nI (i / 64) then fX12_lower_40 K now row (nI t) (nI v) k x (nI i + (1 : Int32)) 0 else fX12_lower_40 K now row (nI t) (nI v) k (nI (i / 64)) (nI i + (1 : Int32)) 0) = _
    rw [nI_succ]
    cases e : R t i
    · rw [if_pos (show bI false = 0 from rfl), zlo, e, if_neg (show ¬ (false = true ∧ i / 64 < v) from fun g => by cases g.1), hx]
    · rw [if_neg (show ¬ bI true = 0 by decide)]
      by_cases g : i / 64 < v
      · rw [if_neg (show ¬ nI v ≤ nI (i / 64) by rw [zi_le (by omega) (by omega)]; omega), zlo, e, if_pos ⟨rfl, g⟩, zi_dec]
      · rw [if_pos (show nI v ≤ nI (i / 64) by rw [zi_le (by omega) (by omega)]; omega), zlo, if_neg (fun q => g q.2), hx]
  · intro k x hx
    show fX12_lower_40 K now row (nI t) (nI v) (k + 1) x (nI 512) 0 = _
    rw [fX12_lower_40, if_pos (show (512 : Int32) ≤ nI 512 by decide), hx]
    rcases em1 (zlo (R t) v 512) with h | h
    · rw [h, if_pos (show nI 0 + (-1 : Int32) = -1 by decide), if_pos (rfl : 0 = 0)]; rfl
    · have := zlo_le (R t) v 512
      by_cases h0 : zlo (R t) v 512 = 0
      · rw [h0, if_pos (show nI 0 + (-1 : Int32) = -1 by decide), if_pos (rfl : 0 = 0)]; rfl
      · rw [h, if_neg (zi_m1 (by omega)), if_neg h0]
