/-! seek: the number of the first answer from a place on -/
abbrev zR20f := (Nat → Int32) × Int32 × (Nat → Int32) × (Nat → Int32) × (Nat → Int32) × (Nat → Int32) × (Nat → Int32) × (Nat → Int32) × Int32 × Int32 × Int32 × Int32 × Int32 × (Nat → Int64) × (Nat → Int64) × (Nat → Int32) × (Nat → Int32) × (Nat → Int32) × Int32 × Int32 × (Nat → Int32) × Int32 × (Nat → Int32) × (Nat → Int32) × (Nat → Int32) × (Nat → Int32) × (Nat → Int32) × (Nat → Int32) × Int32 × Int32 × Int32 × Int32 × Int32 × (Nat → Int64) × Int32 × Int32
theorem zc_seek (K : Nat) (hK : 1000000 < K) {s : Nat → Nat} (hW : zWF s) {M : Nat → Nat} (hM : zLst (zE s) M) (hM4 : ∀ t, t < 5 → M t ≤ 4) {wd : Nat → Int32} (hwd : ∀ t, t < s 0 → wd t = nI (s (1 + t))) {fa : Nat → Int64} {hd : Nat → Int32} {bc : Nat → Nat → Int32} {bs : Nat → Int32} {rtt : Int32} (hfa : zeqR (zw fa) (zfacts s)) (hR : zRc hd bc bs rtt s) (q : zR13) (w fr : Nat → Int64) (g re fi : Nat → Int32) (rt im : Int32) (hg : im = 0 ∨ im = 1 ∧ zGn s M w g re fi rt) {now row layer value : Nat → Int32} {rounds : Int32} (hm : zM now s) (hrow : zMr row (zly s M 5).1) (hl : ∀ t, t < 5 → layer t = nI (M t)) (hro : rounds = nI (zly s M 5).2) (hval : ∃ val, zMv value val) {od : Nat → Int32} (hod : ∀ q, q < 4 → od q = nI (zqo s q)) {qc : Nat → Nat → Int32} {qs : Nat → Int32} (hq5 : ∀ q, q < 4 → qs q = nI (zqn s q) ∧ zL (qc q) (zqn s q) (zqa s q) (fun _ => false)) (r : zR15) (ff : Int32) (hff : zFo s w im r ff) (p p2 p3 p4 p5 th : Int32) (place : Nat → Int32) (places : Int32) :
    ∃ e b q' w' fr' g' re' fi' rt' im' r' ff' value' place' places', zapr (zapg (fX11_seek K fa od hd qc qs bc bs rtt p p2 p3 p4 p5) q w fr g re fi rt im) r ff = some (e, zgr q' w' fr' g' re' fi' rt' im' (zpf r' ff')) ∧ fX12_seek K now row p p2 p3 p4 p5 th value place places = some (b.1, b.2, value', place', places') ∧ (∃ val, zMv value' val) ∧ zAg [0, 1, 3] 0 e b ∧ zGa s M w g re fi rt im w' g' re' fi' rt' im' ∧ zFo s w' im' r' ff' := by
  unfold zapr zapg fX11_seek fX12_seek fX12_seek_60 fX11_seek_35 fX12_fails
  rcases zC_query p with ⟨k, hk, rfl, e1, e2⟩ | ⟨e1, e2⟩
  · obtain ⟨q', w', fr', g', re', fi', rt', r', er, el, hga, hfo, hrow', hfd, hz⟩ := zSee K hK hW hM hM4 hwd hfa hR q w fr g re fi rt im hg hm hrow hl hro hval hod hq5 r ff hff hk
    obtain ⟨h1, h2, h3⟩ := hW.2.2.2.2.2.1 k hk
    rw [e1, e2, Option.bind_some, Option.bind_some, if_neg (show ¬ bI true = 0 by decide)]
    rw [show ∀ (f1 : Nat → Option ((Nat ⊕ Int32) × zR20f)) (f2 : Unit → Option ((Nat ⊕ Int32) × zR20f)), (Sum.inr (), ()).1.elim f1 f2 = f2 () from fun _ _ => rfl]
    rcases (zC_value p2).symm with ⟨ca, ma⟩ | ⟨a, ha, rfl, ca, ma⟩
    · rw [ca, ma, Option.bind_some, Option.bind_some, if_pos (show bI false = 0 from rfl), if_pos (show bI false = 0 from rfl)]
      exact ⟨.inl 1, (0, 2), q, w, fr, g, re, fi, rt, im, r, ff, value, place, places, rfl, rfl, hval, Or.inl ⟨1, by decide, rfl, rfl⟩, Or.inl ⟨rfl, rfl, rfl, rfl, rfl, rfl⟩, hff⟩
    rw [ca, ma, Option.bind_some, Option.bind_some, if_neg (show ¬ bI true = 0 by decide), if_neg (show ¬ bI true = 0 by decide)]
    rcases (zC_value p3).symm with ⟨cb, mb⟩ | ⟨b, hb, rfl, cb, mb⟩
    · rw [cb, mb, Option.bind_some, Option.bind_some, if_pos (show bI false = 0 from rfl), if_pos (show bI false = 0 from rfl)]
      exact ⟨.inl 1, (0, 2), q, w, fr, g, re, fi, rt, im, r, ff, value, place, places, rfl, rfl, hval, Or.inl ⟨1, by decide, rfl, rfl⟩, Or.inl ⟨rfl, rfl, rfl, rfl, rfl, rfl⟩, hff⟩
    rw [cb, mb, Option.bind_some, Option.bind_some, if_neg (show ¬ bI true = 0 by decide), if_neg (show ¬ bI true = 0 by decide)]
    rcases (zC_value p4).symm with ⟨cd, md⟩ | ⟨d, hd', rfl, cd, md⟩
    · rw [cd, md, Option.bind_some, Option.bind_some, if_pos (show bI false = 0 from rfl), if_pos (show bI false = 0 from rfl)]
      exact ⟨.inl 1, (0, 2), q, w, fr, g, re, fi, rt, im, r, ff, value, place, places, rfl, rfl, hval, Or.inl ⟨1, by decide, rfl, rfl⟩, Or.inl ⟨rfl, rfl, rfl, rfl, rfl, rfl⟩, hff⟩
    rw [cd, md, Option.bind_some, Option.bind_some, if_neg (show ¬ bI true = 0 by decide), if_neg (show ¬ bI true = 0 by decide)]
    rcases (zC_value p5).symm with ⟨cf, mf⟩ | ⟨f, hf, rfl, cf, mf⟩
    · rw [cf, mf, Option.bind_some, Option.bind_some, if_pos (show bI false = 0 from rfl), if_pos (show bI false = 0 from rfl)]
      exact ⟨.inl 1, (0, 2), q, w, fr, g, re, fi, rt, im, r, ff, value, place, places, rfl, rfl, hval, Or.inl ⟨1, by decide, rfl, rfl⟩, Or.inl ⟨rfl, rfl, rfl, rfl, rfl, rfl⟩, hff⟩
    rw [cf, mf, Option.bind_some, Option.bind_some, if_neg (show ¬ bI true = 0 by decide), if_neg (show ¬ bI true = 0 by decide)]
    obtain ⟨p', ep, hp⟩ := zX12_choices K (by omega) hm hk h1 h2 place places
    rw [ep, Option.bind_some]
    have hkey := zX0_keyOf (zqc_le s k) ha hb hd' hf
    have hbb : (512 * a + 64 * b + 8 * d + f) / 8 ^ (4 - zqc s k) ≤ 4096 := Nat.le_trans (Nat.div_le_self _ _) (by omega)
    obtain ⟨v', ev, hv'⟩ := zX12_seekL K (by omega) hm hrow' hk h1 h2 hp (nI a) (nI b) (nI d) (nI f) hval hbb
    have hq14 : r'.2.2.2.2.2.2.2.2.2.2.2.2.2.2 = nI (zcnt (zqP (zw w') s k) 4096) := hfd.2.2.2.2.2
    have hbf := zX0_countBelow K (by omega) (w := r'.2.2.2.2.2.2.2.2.2.2.2.2.2.1) (P := zqP (zw w') s k) (fun y hy => hfd.2.2.2.2.1 y hy) hbb
    have hcl := zcnt_le (zqP (zw w') s k) 4096
    have hcb := zcnt_le (zqP (zw w') s k) ((512 * a + 64 * b + 8 * d + f) / 8 ^ (4 - zqc s k))
    have hcls : (((fX4_refresh K fa hd bc bs rtt q.1 q.2.1 q.2.2.1 q.2.2.2.1 q.2.2.2.2.1 q.2.2.2.2.2.1 q.2.2.2.2.2.2.1 q.2.2.2.2.2.2.2.1 q.2.2.2.2.2.2.2.2.1 q.2.2.2.2.2.2.2.2.2.1 q.2.2.2.2.2.2.2.2.2.2.1 q.2.2.2.2.2.2.2.2.2.2.2.1 q.2.2.2.2.2.2.2.2.2.2.2.2 w fr g re fi rt im).bind fun q54 => (zapr (fX11_look K od qc qs q54.2.2.2.2.2.2.2.2.2.2.2.2.2.1 (nI k)) r ff).bind fun q59 => (fX0_keyOf q59.2.2.2.2.2.2.2.2.1 (nI a) (nI b) (nI d) (nI f)).bind fun q72 => (fX0_countBelow K q59.2.2.2.2.2.2.2.2.2.2.2.2.2.1 q59.2.2.2.2.2.2.2.2.2.2.2.2.2.2.1 q72).bind fun q83 => if q83 < q59.2.2.2.2.2.2.2.2.2.2.2.2.2.2.1 then some ((Sum.inr q83 : Nat ⊕ Int32), (q54.1, q54.2.1, q54.2.2.1, q54.2.2.2.1, q54.2.2.2.2.1, q54.2.2.2.2.2.1, q54.2.2.2.2.2.2.1, q54.2.2.2.2.2.2.2.1, q54.2.2.2.2.2.2.2.2.1, q54.2.2.2.2.2.2.2.2.2.1, q54.2.2.2.2.2.2.2.2.2.2.1, q54.2.2.2.2.2.2.2.2.2.2.2.1, q54.2.2.2.2.2.2.2.2.2.2.2.2.1, q54.2.2.2.2.2.2.2.2.2.2.2.2.2.1, q54.2.2.2.2.2.2.2.2.2.2.2.2.2.2.1, q54.2.2.2.2.2.2.2.2.2.2.2.2.2.2.2.1, q54.2.2.2.2.2.2.2.2.2.2.2.2.2.2.2.2.1, q54.2.2.2.2.2.2.2.2.2.2.2.2.2.2.2.2.2.1, q54.2.2.2.2.2.2.2.2.2.2.2.2.2.2.2.2.2.2.1, q54.2.2.2.2.2.2.2.2.2.2.2.2.2.2.2.2.2.2.2, q59)) else some (Sum.inl 3, (q54.1, q54.2.1, q54.2.2.1, q54.2.2.2.1, q54.2.2.2.2.1, q54.2.2.2.2.2.1, q54.2.2.2.2.2.2.1, q54.2.2.2.2.2.2.2.1, q54.2.2.2.2.2.2.2.2.1, q54.2.2.2.2.2.2.2.2.2.1, q54.2.2.2.2.2.2.2.2.2.2.1, q54.2.2.2.2.2.2.2.2.2.2.2.1, q54.2.2.2.2.2.2.2.2.2.2.2.2.1, q54.2.2.2.2.2.2.2.2.2.2.2.2.2.1, q54.2.2.2.2.2.2.2.2.2.2.2.2.2.2.1, q54.2.2.2.2.2.2.2.2.2.2.2.2.2.2.2.1, q54.2.2.2.2.2.2.2.2.2.2.2.2.2.2.2.2.1, q54.2.2.2.2.2.2.2.2.2.2.2.2.2.2.2.2.2.1, q54.2.2.2.2.2.2.2.2.2.2.2.2.2.2.2.2.2.2.1, q54.2.2.2.2.2.2.2.2.2.2.2.2.2.2.2.2.2.2.2, q59)))) = some (if zcnt (zqP (zw w') s k) ((512 * a + 64 * b + 8 * d + f) / 8 ^ (4 - zqc s k)) < zcnt (zqP (zw w') s k) 4096 then Sum.inr (nI (zcnt (zqP (zw w') s k) ((512 * a + 64 * b + 8 * d + f) / 8 ^ (4 - zqc s k)))) else Sum.inl 3, zgr q' w' fr' g' re' fi' rt' 1 (zpf r' (nI k))) := by
      have er' : (fX4_refresh K fa hd bc bs rtt q.1 q.2.1 q.2.2.1 q.2.2.2.1 q.2.2.2.2.1 q.2.2.2.2.2.1 q.2.2.2.2.2.2.1 q.2.2.2.2.2.2.2.1 q.2.2.2.2.2.2.2.2.1 q.2.2.2.2.2.2.2.2.2.1 q.2.2.2.2.2.2.2.2.2.2.1 q.2.2.2.2.2.2.2.2.2.2.2.1 q.2.2.2.2.2.2.2.2.2.2.2.2 w fr g re fi rt im) = some (zrs q' w' fr' g' re' fi' rt' 1) := er
      rw [er', Option.bind_some]
      show ((zapr (fX11_look K od qc qs w' (nI k)) r ff).bind _) = _
      rw [el, Option.bind_some]
      show ((fX0_keyOf r'.2.2.2.2.2.2.2.2.1 (nI a) (nI b) (nI d) (nI f)).bind fun q72 => (fX0_countBelow K r'.2.2.2.2.2.2.2.2.2.2.2.2.2.1 r'.2.2.2.2.2.2.2.2.2.2.2.2.2.2 q72).bind fun q83 => if q83 < r'.2.2.2.2.2.2.2.2.2.2.2.2.2.2 then some ((Sum.inr q83 : Nat ⊕ Int32), zgr q' w' fr' g' re' fi' rt' 1 (zpf r' (nI k))) else some (Sum.inl 3, zgr q' w' fr' g' re' fi' rt' 1 (zpf r' (nI k)))) = _
      rw [hfd.2.2.1, hkey, Option.bind_some, hq14, hbf, Option.bind_some]
      by_cases g : zcnt (zqP (zw w') s k) ((512 * a + 64 * b + 8 * d + f) / 8 ^ (4 - zqc s k)) < zcnt (zqP (zw w') s k) 4096
      · rw [if_pos g, if_pos (by rw [zi_lt (by omega) (by omega)]; exact g)]
      · rw [if_neg g, if_neg (by rw [zi_lt (by omega) (by omega)]; exact g)]
    have hkey2 : (((((nI a <<< ((9 : Int32) &&& 31)) ||| (nI b <<< ((6 : Int32) &&& 31))) ||| (nI d <<< ((3 : Int32) &&& 31))) ||| nI f) >>> (((3 : Int32) * ((4 : Int32) - nI (zqc s k))) &&& 31)) = nI ((512 * a + 64 * b + 8 * d + f) / 8 ^ (4 - zqc s k)) := by
      unfold fX0_keyOf at hkey
      exact Option.some.inj hkey
    have hif : ∀ (c : Prop) [Decidable c] (x y : Int32 × Int32 × (Nat → Int32) × (Nat → Int32) × Int32), (if c then x else y) = ((if c then x.1 else y.1), (if c then x.2.1 else y.2.1), (if c then x.2.2 else y.2.2)) := by
      intro c _ x y
      split <;> rfl
    refine ⟨_, (if zcnt (zqP (zw w') s k) ((512 * a + 64 * b + 8 * d + f) / 8 ^ (4 - zqc s k)) < zcnt (zqP (zw w') s k) 4096 then nI (zcnt (zqP (zw w') s k) ((512 * a + 64 * b + 8 * d + f) / 8 ^ (4 - zqc s k))) else 0, if zcnt (zqP (zw w') s k) ((512 * a + 64 * b + 8 * d + f) / 8 ^ (4 - zqc s k)) < zcnt (zqP (zw w') s k) 4096 then 0 else 3), q', w', fr', g', re', fi', rt', 1, r', nI k, v', p', nI (zqc s k), hcls, ?_, hv', ?_, hga, hfo⟩
    · show fX12_seek_107 K now row (nI k) (nI a) (nI b) (nI d) (nI f) K (nI (zall8 s k)) (((((nI a <<< ((9 : Int32) &&& 31)) ||| (nI b <<< ((6 : Int32) &&& 31))) ||| (nI d <<< ((3 : Int32) &&& 31))) ||| nI f) >>> (((3 : Int32) * ((4 : Int32) - nI (zqc s k))) &&& 31)) (nI 0) (nI 0) (nI 0) value p' (nI (zqc s k)) = _
      rw [hkey2, ev]
      by_cases g : zcnt (zqP (zw w') s k) ((512 * a + 64 * b + 8 * d + f) / 8 ^ (4 - zqc s k)) < zcnt (zqP (zw w') s k) 4096
      · rw [if_pos g, if_pos g, if_pos g]; rfl
      · rw [if_neg g, if_neg g, if_neg g]
    · by_cases g : zcnt (zqP (zw w') s k) ((512 * a + 64 * b + 8 * d + f) / 8 ^ (4 - zqc s k)) < zcnt (zqP (zw w') s k) 4096
      · rw [if_pos g, if_pos g, if_pos g]; exact Or.inr ⟨_, rfl, rfl⟩
      · rw [if_neg g, if_neg g, if_neg g]; exact Or.inl ⟨3, by decide, rfl, rfl⟩
  · rw [e1, e2, Option.bind_some, Option.bind_some, if_pos (show bI false = 0 from rfl)]
    exact ⟨.inl 0, (0, 1), q, w, fr, g, re, fi, rt, im, r, ff, value, place, places, rfl, rfl, hval, Or.inl ⟨0, by decide, rfl, rfl⟩, Or.inl ⟨rfl, rfl, rfl, rfl, rfl, rfl⟩, hff⟩
