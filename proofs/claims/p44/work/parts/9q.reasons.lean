/-! the law's counts: reasons, rows, facts -/
theorem zre_eq {s : Nat → Nat} (hWF : zWF s) {t k : Nat} (ht : t < 5) (hk : k < 512) : zre (zRw s) s t k = (zfacts s t k).toNat + zttl (zRw s) s t k (zrn s) := by
  have hs := hWF.2.2.2.2.2.2.1
  obtain ⟨hM, hM4⟩ := zMs_ok hWF
  unfold zre
  by_cases g : zRw s t k = true
  · rw [if_pos g]
  · rw [if_neg g]
    rw [Bool.not_eq_true] at g
    have h1 : zttl (zRw s) s t k (zrn s) = 0 := zttl_0 hs hM hM4 hk g
    have h2 : zfacts s t k = false := by
      rw [← Bool.not_eq_true]
      intro h
      have : zRw s t k = true := zly_up h
      rw [g] at this
      cases this
    rw [h1, h2]
    rfl
/-- why a row is there -/
def zwhy (s : Nat → Nat) (Z : Nat → Nat → Bool) (t k : Nat) : Prop := zfacts s t k = true ∨ ∃ r, r < zrn s ∧ zidle s r = false ∧ t = (zrh s r).1 ∧ zgiv Z s r k = true
theorem zly_why {s : Nat → Nat} (hWF : zWF s) : ∀ t k, t < 5 → k < 512 → zRw s t k = true → zwhy s (zRw s) t k := by
  have hs := hWF.2.2.2.2.2.2.1
  obtain ⟨hM, hM4⟩ := zMs_ok hWF
  have hin : ∀ l, l ≤ 5 → ∀ t k, (zly s (zMs s) l).1 t k = true → zRw s t k = true := by
    intro l hl
    have : ∀ d, l + d ≤ 5 → ∀ t k, (zly s (zMs s) l).1 t k = true → (zly s (zMs s) (l + d)).1 t k = true := by
      intro d
      induction d with
      | zero => intro _ t k g; exact g
      | succ d ih =>
        intro hd t k g
        have := ih (by omega) t k g
        show (zly s (zMs s) (l + d + 1)).1 t k = true
        rw [zly]
        exact zrnd_up _ _ _ this
    intro t k g
    have := this (5 - l) (by omega) t k g
    rw [show l + (5 - l) = 5 by omega] at this
    exact this
  have step : ∀ l, l < 5 → ∀ n b (z : (Nat → Nat → Bool) × Nat), (∀ t k, t < 5 → k < 512 → z.1 t k = true → zRw s t k = true ∧ zwhy s (zRw s) t k) → (∀ t k, t < 5 → k < 512 → zMs s t < l → zRw s t k = true → z.1 t k = true) → ∀ t k, t < 5 → k < 512 → (zrnd s (zMs s) l n b z).1 t k = true → zRw s t k = true ∧ zwhy s (zRw s) t k := by
    intro l hl n
    induction n with
    | zero =>
      intro b z h1 h2 t k ht hk g
      exact h1 t k ht hk g
    | succ n ih =>
      intro b z h1 h2 t k ht hk g
      rw [zrnd] at g
      cases b
      · rw [if_neg (by decide)] at g
        exact h1 t k ht hk g
      · rw [if_pos rfl] at g
        refine ih _ _ ?_ ?_ t k ht hk g
        · intro t k ht hk g
          have g' : zstp z.1 s (zMs s) l t k = true := g
          unfold zstp at g'
          rw [Bool.or_eq_true] at g'
          rcases g' with g' | g'
          · exact h1 t k ht hk g'
          · unfold zgivs at g'
            rw [zany_iff] at g'
            obtain ⟨r, hr, g3⟩ := g'
            unfold zwk at g3
            rw [Bool.and_eq_true, Bool.and_eq_true, Bool.and_eq_true, decide_eq_true_eq, decide_eq_true_eq, Bool.not_eq_true'] at g3
            obtain ⟨⟨hi, hml⟩, rfl, hg⟩ := g3
            have hg2 : zgiv (zRw s) s r k = true := zgiv_mono hs hM hr hml (fun t k ht hk g => (h1 t k ht hk g).1) h2 hg
            exact ⟨zly_closed hs hM hM4 hr hi hk hg2, Or.inr ⟨r, hr, hi, rfl, hg2⟩⟩
        · intro t k ht hk hlt g
          exact zstp_up (h2 t k ht hk hlt g)
  have main : ∀ l, l ≤ 5 → ∀ t k, t < 5 → k < 512 → (zly s (zMs s) l).1 t k = true → zwhy s (zRw s) t k := by
    intro l
    induction l with
    | zero =>
      intro _ t k ht hk g
      exact Or.inl g
    | succ l ih =>
      intro hl t k ht hk g
      rw [zly] at g
      refine (step l (by omega) _ _ _ (fun t k ht hk g => ⟨hin l (by omega) t k g, ih (by omega) t k ht hk g⟩) ?_ t k ht hk g).2
      intro t k ht hk hlt g
      have := zly_off (s := s) (M := zMs s) hlt k (5 - l)
      rw [show l + (5 - l) = 5 by omega] at this
      rw [← this]
      exact g
  exact main 5 (Nat.le_refl 5)
theorem zre_pos {s : Nat → Nat} (hWF : zWF s) {t k : Nat} (ht : t < 5) (hk : k < 512) : 0 < zre (zRw s) s t k ↔ zRw s t k = true := by
  constructor
  · intro h
    unfold zre at h
    by_cases g : zRw s t k = true
    · exact g
    · rw [if_neg g] at h
      omega
  · intro g
    rw [zre_eq hWF ht hk]
    rcases zly_why hWF t k ht hk g with h | ⟨r, hr, hi, hh, hg⟩
    · rw [h]
      have : (true).toNat = 1 := rfl
      omega
    · have h1 : 0 < zfirk (zRw s) s r k := by
        unfold zgiv at hg
        obtain ⟨y, hy, g2⟩ := zany_iff.1 hg
        unfold zfirk
        have h2 := zcnt_mono (fun y => zfr (zRw s) s r y && decide (zro s r y = k)) (show y + 1 ≤ 8 ^ zrc s r by omega)
        rw [zcnt_s, g2] at h2
        have : (true).toNat = 1 := rfl
        omega
      have h3 : zsum (fun _ => 0) (zrn s) < zttl (zRw s) s t k (zrn s) := by
        unfold zttl
        apply zsum_lt (i := r)
        · intro _ _; exact Nat.zero_le _
        · exact hr
        · rw [if_pos ⟨hi, hh⟩]; exact h1
      omega
/-- no row is without a reason -/
theorem zwo_0 {s : Nat → Nat} (hWF : zWF s) : zsum (fun t => zwo (zRw s) s t 512) (s 0) = 0 := by
  have h5 := hWF.1
  refine (zsum_cong (g := fun _ => 0) ?_).trans (zsum_0 _)
  intro t ht
  unfold zwo zcnt
  refine (zsum_cong (g := fun _ => 0) ?_).trans (zsum_0 _)
  intro k hk
  show (zRw s t k && decide (zre (zRw s) s t k = 0)).toNat = 0
  cases g : zRw s t k
  · rfl
  · have := (zre_pos hWF (show t < 5 by omega) hk).2 g
    rw [decide_eq_false (by omega)]
    rfl
theorem zy_count (K : Nat) (hK : 600 < K) {R : Nat → Nat → Bool} {vRo : Nat → Nat → Int32} (h : zyW R vRo) {t : Nat} (ht : t < 5) : hX13_rowCount K vRo (nI t) = some (nI (zcnt (R t) 512)) := by
  unfold hX13_rowCount
  refine z_forE (F := fun k i (_ : Unit) => hX13_rowCount_4 K vRo (nI t) k (nI (zcnt (R t) i)) (nI i)) (n := 512) (inv := fun _ _ => True) ?_ ?_ 512 K 0 () (by omega) trivial (by omega)
  · intro k i _ hi _
    left
    refine ⟨(), trivial, ?_⟩
    show hX13_rowCount_4 K vRo (nI t) (k + 1) (nI (zcnt (R t) i)) (nI i) = hX13_rowCount_4 K vRo (nI t) k (nI (zcnt (R t) i + (R t i).toNat)) (nI (i + 1))
    rw [hX13_rowCount_4, if_neg (by rw [show (512 : Int32) = nI 512 from rfl, zi_le (by omega) (by omega)]; omega), if_pos (zy_i5 ht), if_pos (show inB (nI i) 512 = true by rw [zi_inB (by omega)]; exact hi), zi_clamp (show t < 2147483648 by omega), zi_clamp (show i < 2147483648 by omega), h t i ht hi]
    unfold hX13_rowCount_28
    rw [show (1 : Int32) = nI 1 from rfl, show (0 : Int32) = nI 0 from rfl, zi_add, zi_add, zi_add]
    cases R t i
    · rw [if_pos (show bI false = nI 0 from rfl)]; rfl
    · rw [if_neg (show ¬ bI true = nI 0 by decide)]; rfl
  · intro k _ _
    show hX13_rowCount_4 K vRo (nI t) (k + 1) (nI (zcnt (R t) 512)) (nI 512) = _
    rw [hX13_rowCount_4, if_pos (show (512 : Int32) ≤ nI 512 by decide)]
theorem zy_fcount (K : Nat) (hK : 600 < K) {R : Nat → Nat → Bool} {vFa : Nat → Nat → Int32} (h : zyW R vFa) {t : Nat} (ht : t < 5) : hX13_factCount K vFa (nI t) = some (nI (zcnt (R t) 512)) := by
  unfold hX13_factCount
  refine z_forE (F := fun k i (_ : Unit) => hX13_factCount_4 K vFa (nI t) k (nI (zcnt (R t) i)) (nI i)) (n := 512) (inv := fun _ _ => True) ?_ ?_ 512 K 0 () (by omega) trivial (by omega)
  · intro k i _ hi _
    left
    refine ⟨(), trivial, ?_⟩
    show hX13_factCount_4 K vFa (nI t) (k + 1) (nI (zcnt (R t) i)) (nI i) = hX13_factCount_4 K vFa (nI t) k (nI (zcnt (R t) i + (R t i).toNat)) (nI (i + 1))
    rw [hX13_factCount_4, if_neg (by rw [show (512 : Int32) = nI 512 from rfl, zi_le (by omega) (by omega)]; omega), if_pos (zy_i5 ht), if_pos (show inB (nI i) 512 = true by rw [zi_inB (by omega)]; exact hi), zi_clamp (show t < 2147483648 by omega), zi_clamp (show i < 2147483648 by omega), h t i ht hi]
    unfold hX13_factCount_28
    rw [show (1 : Int32) = nI 1 from rfl, show (0 : Int32) = nI 0 from rfl, zi_add, zi_add, zi_add]
    cases R t i
    · rw [if_pos (show bI false = nI 0 from rfl)]; rfl
    · rw [if_neg (show ¬ bI true = nI 0 by decide)]; rfl
  · intro k _ _
    show hX13_factCount_4 K vFa (nI t) (k + 1) (nI (zcnt (R t) 512)) (nI 512) = _
    rw [hX13_factCount_4, if_pos (show (512 : Int32) ≤ nI 512 by decide)]
theorem zy_reasons (K : Nat) (hK : 10000 < K) {s : Nat → Nat} (hWF : zWF s) {vCol : Nat → Int32} {vRu : Nat → Nat → Int32} (hC : zyC s vCol) (hR : zyR s vRu) {vFa vRo : Nat → Nat → Int32} (hF : zyW (zfacts s) vFa) (hW : zyW (zRw s) vRo) (vVa : Nat → Int32) {t k : Nat} (ht : t < 5) (hk : k < 512) :
    ∃ vVa', hX13_reasons K (nI (zrn s)) vCol vFa vRu vRo (nI t) (nI k) vVa = some (nI (zre (zRw s) s t k), vVa') := by
  have hs := hWF.2.2.2.2.2.2.1
  have hrn := hs.1
  have e1 : (1 : Int32) = nI 1 := rfl
  have e0 : (0 : Int32) = nI 0 := rfl
  have h66 : ∀ (r20 : Int32 → Int32 → (Nat → Int32) → Option (Int32 × (Nat → Int32))) (r a : Nat) (vV : Nat → Int32), r < zrn s → zidle s r = false → ∃ vV', hX13_reasons_66 K (nI (zrn s)) vCol vFa vRu vRo (nI t) (nI k) r20 K (nI a) (nI r) (nI (zrb s r)) 0 vV = r20 (nI (a + zfirk (zRw s) s r k)) (nI (r + 1)) vV' := by
    intro r20 r a vV hr hi
    have hr5 : r < 5 := by omega
    have h8 := zp8 (zrc_le s r)
    obtain ⟨vV', _, e⟩ := z_forD (F := fun m n (z : Nat → Int32) => hX13_reasons_66 K (nI (zrn s)) vCol vFa vRu vRo (nI t) (nI k) r20 m (nI (a + zcnt (fun n => zgd2 (zRw s) s r (zld n) && decide (zrd2 s r (zld n) = k)) n)) (nI r) (nI (zrb s r)) (nI n) z) (n := 8 ^ zrc s r) (inv := fun _ _ => True) (D := fun z => ((hX13_chooses K (nI (zrb s r)) (nI (8 ^ zrc s r)) z).bind fun q => r20 (nI (a + zfirk (zRw s) s r k)) (nI (r + 1)) q.2))
      (by
        intro m n z hn _
        obtain ⟨v', g1, gg⟩ := zy_choice K (by omega) hC hs hR hr hi (show n < 100000 by omega) z
        obtain ⟨g2, g3, g4⟩ := gg _ _ hW
        have g3' : hX13_codeBy K 25 vCol v' (vRu r) (0 : Int32) = some (nI (zrd2 s r (zld n))) := g3
        have hl := zrd2_lt hs hr (zld_lt n)
        refine ⟨v', trivial, ?_⟩
        show hX13_reasons_66 K (nI (zrn s)) vCol vFa vRu vRo (nI t) (nI k) r20 (m + 1) (nI (a + zcnt (fun n => zgd2 (zRw s) s r (zld n) && decide (zrd2 s r (zld n) = k)) n)) (nI r) (nI (zrb s r)) (nI n) z = hX13_reasons_66 K (nI (zrn s)) vCol vFa vRu vRo (nI t) (nI k) r20 m (nI (a + (zcnt (fun n => zgd2 (zRw s) s r (zld n) && decide (zrd2 s r (zld n) = k)) n + (zgd2 (zRw s) s r (zld n) && decide (zrd2 s r (zld n) = k)).toNat))) (nI r) (nI (zrb s r)) (nI (n + 1)) v'
        rw [hX13_reasons_66, g1, Option.bind_some, decide_eq_true hn, if_neg (show ¬ bI true = 0 by decide), g2, Option.bind_some, if_pos (zy_i5 hr5), zi_clamp (show r < 2147483648 by omega), g3', Option.bind_some]
        unfold hX13_reasons_107 hX13_reasons_108
        rw [nI_succ n]
        cases hg : zgd2 (zRw s) s r (zld n)
        · rw [if_pos (show bI false = 0 from rfl), e0, zi_add]; rfl
        · rw [if_neg (show ¬ bI true = 0 by decide)]
          by_cases hc : zrd2 s r (zld n) = k
          · rw [if_pos (by rw [hc]), decide_eq_true hc, e1, zi_add]; rfl
          · rw [if_neg (by rw [zi_eq (by omega) (by omega)]; exact hc), decide_eq_false hc, e0, zi_add]; rfl)
      (by
        intro m z _
        obtain ⟨v', g1, gg⟩ := zy_choice K (by omega) hC hs hR hr hi (show 8 ^ zrc s r < 100000 by omega) z
        rw [hX13_reasons_66, g1, Option.bind_some, Option.bind_some, decide_eq_false (Nat.lt_irrefl _), if_pos (show bI false = 0 from rfl), zfirk_d hs hr hi]
        unfold hX13_reasons_116
        rw [nI_succ]) (8 ^ zrc s r) K 0 vV (by omega) trivial (by omega)
    obtain ⟨v', g1, gg⟩ := zy_choice K (by omega) hC hs hR hr hi (show 8 ^ zrc s r < 100000 by omega) vV'
    refine ⟨v', ?_⟩
    have e' : hX13_reasons_66 K (nI (zrn s)) vCol vFa vRu vRo (nI t) (nI k) r20 K (nI a) (nI r) (nI (zrb s r)) 0 vV = ((hX13_chooses K (nI (zrb s r)) (nI (8 ^ zrc s r)) vV').bind fun q => r20 (nI (a + zfirk (zRw s) s r k)) (nI (r + 1)) q.2) := e
    rw [e', g1, Option.bind_some]
  have h20 : ∀ (a : Nat) (vV : Nat → Int32), ∃ vV', hX13_reasons_20 K (nI (zrn s)) vCol vFa vRu vRo (nI t) (nI k) K (nI a) 0 vV = some (nI (a + zttl (zRw s) s t k (zrn s)), vV') := by
    intro a vV
    obtain ⟨x, ⟨vV', rfl⟩, e⟩ := z_for (F := fun m r (z : Nat → Int32) => hX13_reasons_20 K (nI (zrn s)) vCol vFa vRu vRo (nI t) (nI k) m (nI (a + zttl (zRw s) s t k r)) (nI r) z) (n := zrn s) (inv := fun _ _ => True) (post := fun x => ∃ vV', x = (nI (a + zttl (zRw s) s t k (zrn s)), vV'))
      (by
        intro m r z hr _
        left
        have hr5 : r < 5 := by omega
        have h5 := (hs.2 r hr).1.1
        have h0 : vRu r 0 = nI (zrh s r).1 := hR r hr 0 (by omega)
        have su : zttl (zRw s) s t k (r + 1) = zttl (zRw s) s t k r + (if zidle s r = false ∧ t = (zrh s r).1 then zfirk (zRw s) s r k else 0) := rfl
        have st : hX13_reasons_20 K (nI (zrn s)) vCol vFa vRu vRo (nI t) (nI k) (m + 1) (nI (a + zttl (zRw s) s t k r)) (nI r) z = if nI (zrh s r).1 = nI t then (if bI (zidle s r) = 0 then hX13_reasons_66 K (nI (zrn s)) vCol vFa vRu vRo (nI t) (nI k) (hX13_reasons_20 K (nI (zrn s)) vCol vFa vRu vRo (nI t) (nI k) m) K (nI (a + zttl (zRw s) s t k r)) (nI r) (nI (zrb s r)) 0 z else hX13_reasons_20 K (nI (zrn s)) vCol vFa vRu vRo (nI t) (nI k) m (nI (a + zttl (zRw s) s t k r)) (nI r + (1 : Int32)) z) else hX13_reasons_20 K (nI (zrn s)) vCol vFa vRu vRo (nI t) (nI k) m (nI (a + zttl (zRw s) s t k r)) (nI r + (1 : Int32)) z := by
          have hv := zy_variablesOf K (by omega) hC hs hR hr false
          have hv' : hX13_variablesOf K vCol vRu (nI r) (0 : Int32) = some (nI (zrb s r)) := hv
          rw [hX13_reasons_20, if_neg (by rw [zi_le (by omega) (by omega)]; omega), if_pos (zy_i5 hr5), if_pos (show inB (0 : Int32) 25 = true by decide), zi_clamp (show r < 2147483648 by omega), zy_c0, h0, zy_isIdle K (by omega) hC hs hR hr, Option.bind_some, hv', Option.bind_some]
          rfl
        by_cases g : (zrh s r).1 = t
        · cases hi : zidle s r
          · obtain ⟨v', e⟩ := h66 (hX13_reasons_20 K (nI (zrn s)) vCol vFa vRu vRo (nI t) (nI k) m) r (a + zttl (zRw s) s t k r) z hr hi
            refine ⟨v', trivial, ?_⟩
            rw [st, if_pos (by rw [g]), hi, if_pos (show bI false = 0 from rfl), e, su, if_pos ⟨hi, g.symm⟩, Nat.add_assoc]
          · refine ⟨z, trivial, ?_⟩
            rw [st, if_pos (by rw [g]), hi, if_neg (show ¬ bI true = 0 by decide), su, if_neg (by rw [hi]; simp), nI_succ, Nat.add_zero]
        · refine ⟨z, trivial, ?_⟩
          rw [st, if_neg (by rw [zi_eq (by omega) (by omega)]; exact g), su, if_neg (fun q => g q.2.symm), nI_succ, Nat.add_zero])
      (by
        intro m z _
        refine ⟨_, ⟨z, rfl⟩, ?_⟩
        rw [hX13_reasons_20, if_pos (by rw [zi_le (by omega) (by omega)]; exact Nat.le_refl _)]) (zrn s) K 0 vV (by omega) trivial (by omega)
    exact ⟨vV', e⟩
  obtain ⟨vV', e⟩ := h20 (zfacts s t k).toNat vVa
  refine ⟨vV', ?_⟩
  unfold hX13_reasons hX13_reasons_16
  rw [if_pos (zy_i5 ht), if_pos (show inB (nI k) 512 = true by rw [zi_inB (by omega)]; exact hk), zi_clamp (show t < 2147483648 by omega), zi_clamp (show k < 2147483648 by omega), hF t k ht hk, zre_eq hWF ht hk, ← e]
  cases zfacts s t k
  · rw [if_pos (show bI false = 0 from rfl)]; rfl
  · rw [if_neg (show ¬ bI true = 0 by decide)]; rfl
theorem zy_valueIn (K : Nat) {k j : Nat} (hk : k < 512) (hj : j < 3) : hL_valueIn K (nI k) (nI j) = some (nI (zcol k j)) := zX12_valueIn hk hj
