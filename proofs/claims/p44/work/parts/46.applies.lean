/-! what a rule gives -/
def zvr (s : Nat → Nat) (r y v : Nat) : Nat := zpk (zrpl s r) (zrc s r) y (zrc s r) v % 8
def zfr (R : Nat → Nat → Bool) (s : Nat → Nat) (r y : Nat) : Bool := zgv R s r (zvr s r y)
def zro (s : Nat → Nat) (r y : Nat) : Nat := zaR (zrh s r) (zvr s r y)
theorem zrV {s : Nat → Nat} (hs : zRul s) {r : Nat} (hr : r < zrn s) (hi : zidle s r = false) : (∀ v, zaH (zrh s r) v = true → ∃ m, m < zrc s r ∧ zrpl s r m = v) ∧ ∀ i, i < zbn s r → ∀ v, zaH (zba s r i) v = true → ∃ m, m < zrc s r ∧ zrpl s r m = v := by
  obtain ⟨a1, a2, a3⟩ := hs.2 r hr
  have hid := (zidle_iff hs hr).mp hi
  have lt4 : ∀ {a : zA}, zaOK a → ∀ v, zaH a v = true → v < 4 := by
    intro a ha v hv
    obtain ⟨c, hc, e⟩ := (zaH_iff ha).mp hv
    rw [← e]; exact zaV_lt ha (by have := ha.2.2.1; omega)
  refine ⟨?_, ?_⟩
  · intro v hv
    have hv4 := lt4 a1 v hv
    apply zrpl_to hv4
    apply hid v hv4
    rw [zaS_bit a1 hv4, hv]; rfl
  · intro i hi v hv
    have hA := (a3 i hi).1
    have hv4 := lt4 hA v hv
    apply zrpl_to hv4
    cases hN : zbN s r i
    · show (zLV (zba s r) (zbN s r) false (zbn s r)).testBit v = true
      rw [zLV_bit hv4 (fun i hi => (a3 i hi).1), zany_iff]
      exact ⟨i, hi, by rw [hN, hv]; rfl⟩
    · apply hid v hv4
      have : (zbv s r true).testBit v = true := by
        show (zLV (zba s r) (zbN s r) true (zbn s r)).testBit v = true
        rw [zLV_bit hv4 (fun i hi => (a3 i hi).1), zany_iff]
        exact ⟨i, hi, by rw [hN, hv]; rfl⟩
      rw [this, Bool.or_true]
theorem zaR_pl {s : Nat → Nat} {r : Nat} {a : zA} (ha : zaOK a) (hv : ∀ v, zaH a v = true → ∃ m, m < zrc s r ∧ zrpl s r m = v) {w w' : Nat → Nat} (h : ∀ m, m < zrc s r → w (zrpl s r m) = w' (zrpl s r m)) : zaR a w = zaR a w' := by
  apply zaR_cong ha
  intro q hq
  obtain ⟨m, hm, e⟩ := hv _ ((zaH_iff ha).mpr ⟨q, hq, rfl⟩)
  rw [← e]; exact h m hm
theorem zgv_pl {R : Nat → Nat → Bool} {s : Nat → Nat} (hs : zRul s) {r : Nat} (hr : r < zrn s) (hi : zidle s r = false) {w w' : Nat → Nat} (h : ∀ m, m < zrc s r → w (zrpl s r m) = w' (zrpl s r m)) : zgv R s r w = zgv R s r w' := by
  unfold zgv
  apply zall_cong
  intro i hib
  rw [zaR_pl ((hs.2 r hr).2.2 i hib).1 ((zrV hs hr hi).2 i hib) h]
/-- values by digits -/
def zvd (s : Nat → Nat) (r : Nat) (δ : Nat → Nat) (v : Nat) : Nat := δ (zpc 123 (zrb s r) v)
theorem zvd_at (s : Nat → Nat) (r : Nat) (δ : Nat → Nat) {m : Nat} (hm : m < zrc s r) : zvd s r δ (zrpl s r m) = δ m := by
  obtain ⟨q, a1, a2, a3, a4⟩ := zpl_in 123 (zrb s r) 4 m hm
  unfold zvd
  have e : zrpl s r m = q := by show zpl 123 (zrb s r) 4 m = q; rw [a2, zod_123 q a1]
  rw [e, a4]
theorem zvr_at (s : Nat → Nat) (r y : Nat) {m : Nat} (hm : m < zrc s r) : zvr s r y (zrpl s r m) = zdig (zrc s r) y m := by
  unfold zvr
  rw [zpk_at (zrD s r) (zrc s r) m (by omega) hm (Nat.le_refl _)]
  unfold zdig; omega
/-- what is given, by digits -/
def zgd2 (R : Nat → Nat → Bool) (s : Nat → Nat) (r : Nat) (δ : Nat → Nat) : Bool := zgv R s r (zvd s r δ)
def zrd2 (s : Nat → Nat) (r : Nat) (δ : Nat → Nat) : Nat := zaR (zrh s r) (zvd s r δ)
theorem zgd2_cong {R : Nat → Nat → Bool} {s : Nat → Nat} (hs : zRul s) {r : Nat} (hr : r < zrn s) (hi : zidle s r = false) {δ δ' : Nat → Nat} (h : ∀ m, m < zrc s r → δ m = δ' m) : zgd2 R s r δ = zgd2 R s r δ' ∧ zrd2 s r δ = zrd2 s r δ' :=
  ⟨zgv_pl hs hr hi (fun m hm => by rw [zvd_at s r δ hm, zvd_at s r δ' hm, h m hm]), zaR_pl (hs.2 r hr).1 (zrV hs hr hi).1 (fun m hm => by rw [zvd_at s r δ hm, zvd_at s r δ' hm, h m hm])⟩
theorem zfr_d {R : Nat → Nat → Bool} {s : Nat → Nat} (hs : zRul s) {r : Nat} (hr : r < zrn s) (hi : zidle s r = false) (y : Nat) : zfr R s r y = zgd2 R s r (zdig (zrc s r) y) ∧ zro s r y = zrd2 s r (zdig (zrc s r) y) :=
  ⟨zgv_pl hs hr hi (fun m hm => by rw [zvr_at s r y hm, zvd_at s r _ hm]), zaR_pl (hs.2 r hr).1 (zrV hs hr hi).1 (fun m hm => by rw [zvr_at s r y hm, zvd_at s r _ hm])⟩
/-- the rows a rule gives, and how often -/
def zgiv (R : Nat → Nat → Bool) (s : Nat → Nat) (r k : Nat) : Bool := zany (fun y => zfr R s r y && decide (zro s r y = k)) (8 ^ zrc s r)
def zfir (R : Nat → Nat → Bool) (s : Nat → Nat) (r : Nat) : Nat := zcnt (zfr R s r) (8 ^ zrc s r)
def zfirk (R : Nat → Nat → Bool) (s : Nat → Nat) (r k : Nat) : Nat := zcnt (fun y => zfr R s r y && decide (zro s r y = k)) (8 ^ zrc s r)
theorem zgiv_d {R : Nat → Nat → Bool} {s : Nat → Nat} (hs : zRul s) {r : Nat} (hr : r < zrn s) (hi : zidle s r = false) (k : Nat) : zgiv R s r k = zany (fun n => zgd2 R s r (zld n) && decide (zrd2 s r (zld n) = k)) (8 ^ zrc s r) := by
  unfold zgiv
  rw [← zdig_any (zrc s r) (fun δ => zgd2 R s r δ && decide (zrd2 s r δ = k)) (fun δ δ' h => by obtain ⟨h1, h2⟩ := zgd2_cong (R := R) hs hr hi h; rw [h1, h2])]
  apply zany_cong
  intro y _
  obtain ⟨h1, h2⟩ := zfr_d (R := R) hs hr hi y
  rw [h1, h2]
theorem zfir_d {R : Nat → Nat → Bool} {s : Nat → Nat} (hs : zRul s) {r : Nat} (hr : r < zrn s) (hi : zidle s r = false) : zfir R s r = zcnt (fun n => zgd2 R s r (zld n)) (8 ^ zrc s r) := by
  unfold zfir
  have key := zdig_sum (zrc s r) (fun δ => (zgd2 R s r δ).toNat) (fun δ δ' h => by rw [(zgd2_cong (R := R) hs hr hi h).1])
  show _ = zsum _ _
  rw [← key]
  apply zsum_cong
  intro y _
  rw [(zfr_d (R := R) hs hr hi y).1]
theorem zfirk_d {R : Nat → Nat → Bool} {s : Nat → Nat} (hs : zRul s) {r : Nat} (hr : r < zrn s) (hi : zidle s r = false) (k : Nat) : zfirk R s r k = zcnt (fun n => zgd2 R s r (zld n) && decide (zrd2 s r (zld n) = k)) (8 ^ zrc s r) := by
  unfold zfirk
  have key := zdig_sum (zrc s r) (fun δ => (zgd2 R s r δ && decide (zrd2 s r δ = k)).toNat) (fun δ δ' h => by obtain ⟨h1, h2⟩ := zgd2_cong (R := R) hs hr hi h; rw [h1, h2])
  show _ = zsum _ _
  rw [← key]
  apply zsum_cong
  intro y _
  obtain ⟨h1, h2⟩ := zfr_d (R := R) hs hr hi y
  show (zfr R s r y && decide (zro s r y = k)).toNat = _
  rw [h1, h2]
/-- at the n-th choice of the reference -/
theorem zX12_choice (K : Nat) (hK : 5 < K) {now : Nat → Int32} {s : Nat → Nat} (h : zM now s) (hs : zRul s) {row : Nat → Int32} {R : Nat → Nat → Bool} (hR : zMr row R) {r : Nat} (hr : r < zrn s) (hi : zidle s r = false) {n : Nat} (hn : n < 100000) {value : Nat → Int32} (hval : ∃ val, zMv value val) :
    ∃ value', fX12_chooses K (nI (zrb s r)) (nI n) value = some (decide (n < 8 ^ zrc s r), value') ∧ (∃ val, zMv value' val) ∧ fX12_gives K now row value' (nI r) = some (zgd2 R s r (zld n)) ∧ fX12_codeBy K now value' (nI (zhp r)) = some (nI (zrd2 s r (zld n))) := by
  obtain ⟨v', val', e, h1, h2⟩ := zX12_chooses K (by omega) s r (zbv_lt hs hr false) hn hval
  have hh := zhp_lt (show r < 5 by have := hs.1; omega)
  refine ⟨v', e, ⟨val', h1⟩, ?_, ?_⟩
  · rw [zX12_gives K hK h hs hR hr h1]
    have : zgv R s r val' = zgd2 R s r (zld n) := zgv_pl hs hr hi (fun m hm => by rw [h2 m hm, zvd_at s r _ hm])
    rw [this]
  · rw [zX12_codeBy K (by omega) h h1 (by omega) (hs.2 r hr).1]
    have : zaR (zrh s r) val' = zrd2 s r (zld n) := zaR_pl (hs.2 r hr).1 (zrV hs hr hi).1 (fun m hm => by rw [h2 m hm, zvd_at s r _ hm])
    show some (nI (zaR (zrh s r) val')) = _
    rw [this]
theorem zrd2_lt {s : Nat → Nat} (hs : zRul s) {r : Nat} (hr : r < zrn s) {δ : Nat → Nat} (hδ : ∀ m, δ m < 8) : zrd2 s r δ < 512 := zaR_lt _ (fun v _ => hδ _) (hs.2 r hr).1
theorem zld_lt (n m : Nat) : zld n m < 8 := Nat.mod_lt _ (by decide)
theorem zX12_applies (K : Nat) (hK : 5000 < K) {now : Nat → Int32} {s : Nat → Nat} (h : zM now s) (hs : zRul s) {row : Nat → Int32} {R : Nat → Nat → Bool} (hR : zMr row R) {r : Nat} (hr : r < zrn s) (hi : zidle s r = false) {comes : Nat → Int32} {C : Nat → Nat → Bool} (hC : zMr comes C) {value : Nat → Int32} (hval : ∃ val, zMv value val) :
    ∃ comes' value', fX12_applies K now row (nI r) comes value = some (comes', value') ∧ zMr comes' (fun t k => C t k || (decide (t = (zrh s r).1) && zgiv R s r k)) ∧ ∃ val, zMv value' val := by
  have hrn := hs.1
  have a1 := (hs.2 r hr).1
  have hh := zhp_lt (show r < 5 by omega)
  have hh5 : s (zhp r) < 5 := a1.1
  have h8 := zp8 (zrc_le s r)
  have e1 : (1 : Int32) = nI 1 := rfl
  unfold fX12_applies
  rw [show (0 : Int32) = bI false from rfl, zX12_variablesOfRule K (by omega) h hs hr false, Option.bind_some, zX12_headAt, Option.bind_some]
  obtain ⟨x, ⟨c', v', q1, q2, q3⟩, e⟩ := z_for (F := fun k n (z : (Nat → Int32) × (Nat → Int32)) => fX12_applies_16 K now row (nI r) k (nI (zrb s r)) (nI (zhp r)) (nI n) z.1 z.2) (n := 8 ^ zrc s r)
    (inv := fun n z => zMr z.1 (fun t k => C t k || (decide (t = (zrh s r).1) && zany (fun n => zgd2 R s r (zld n) && decide (zrd2 s r (zld n) = k)) n)) ∧ ∃ val, zMv z.2 val)
    (post := fun x => ∃ c' v', x = (c', v') ∧ zMr c' (fun t k => C t k || (decide (t = (zrh s r).1) && zgiv R s r k)) ∧ ∃ val, zMv v' val)
    (by
      intro k n z hn hinv
      obtain ⟨w1, w2⟩ := hinv
      obtain ⟨v', g1, g2, g3, g4⟩ := zX12_choice K (by omega) h hs hR hr hi (show n < 100000 by omega) w2
      have hl := zrd2_lt hs hr (zld_lt n)
      have ez : ∀ k, zany (fun n => zgd2 R s r (zld n) && decide (zrd2 s r (zld n) = k)) (n + 1) = (zany (fun n => zgd2 R s r (zld n) && decide (zrd2 s r (zld n) = k)) n || (zgd2 R s r (zld n) && decide (zrd2 s r (zld n) = k))) := fun _ => rfl
      left
      cases hg : zgd2 R s r (zld n)
      · refine ⟨(z.1, v'), ⟨?_, g2⟩, ?_⟩
        · intro t k ht hk
          show z.1 _ = bI (C t k || (decide (t = (zrh s r).1) && zany (fun n => zgd2 R s r (zld n) && decide (zrd2 s r (zld n) = k)) (n + 1)))
          rw [w1 t k ht hk, ez, hg, Bool.false_and, Bool.or_false]
        · rw [fX12_applies_16, g1, Option.bind_some]
          dsimp only
          rw [decide_eq_true hn, if_neg (show ¬ bI true = 0 by decide), g3, Option.bind_some, hg, if_pos (show bI false = 0 from rfl)]
          unfold fX12_applies_56
          rw [e1, zi_add]
      · refine ⟨(upd z.1 (512 * s (zhp r) + zrd2 s r (zld n)) 1, v'), ⟨?_, g2⟩, ?_⟩
        · intro t k ht hk
          show upd z.1 _ 1 _ = bI (C t k || (decide (t = (zrh s r).1) && zany (fun n => zgd2 R s r (zld n) && decide (zrd2 s r (zld n) = k)) (n + 1)))
          rw [zu_at, ez, hg, Bool.true_and]
          have hd : (zrh s r).1 = s (zhp r) := rfl
          by_cases g : 512 * t + k = 512 * s (zhp r) + zrd2 s r (zld n)
          · have et : t = s (zhp r) := by omega
            have ek : zrd2 s r (zld n) = k := by omega
            rw [if_pos g, hd, decide_eq_true et, decide_eq_true ek]; simp; rfl
          · rw [if_neg g, w1 t k ht hk, hd]
            by_cases et : t = s (zhp r)
            · have ek : ¬ zrd2 s r (zld n) = k := by omega
              rw [decide_eq_false ek, Bool.or_false]
            · rw [decide_eq_false et]; simp [et]
        · rw [fX12_applies_16, g1, Option.bind_some]
          dsimp only
          have e11 : (1 : Int32) &&& 1 = 1 := by decide
          rw [decide_eq_true hn, if_neg (show ¬ bI true = 0 by decide), g3, Option.bind_some, hg, if_neg (show ¬ bI true = 0 by decide), if_pos (by rw [zi_inB (by omega)]; omega), g4, Option.bind_some, zi_clamp (by omega), (h _ (show zhp r < 2780 by omega)).1, show (512 : Int32) = nI 512 from rfl, zi_mul, zi_add, if_pos (by rw [zi_inB (by omega)]; omega), zi_clamp (by omega), e11]
          unfold fX12_applies_56
          rw [show nI n + (1 : Int32) = nI (n + 1) from (nI_succ n).symm])
    (by
      intro k z hinv
      obtain ⟨w1, w2⟩ := hinv
      obtain ⟨v', g1, g2, g3, g4⟩ := zX12_choice K (by omega) h hs hR hr hi (show 8 ^ zrc s r < 100000 by omega) w2
      refine ⟨_, ⟨z.1, v', rfl, ?_, g2⟩, ?_⟩
      · intro t k ht hk
        show z.1 (512 * t + k) = bI (C t k || (decide (t = (zrh s r).1) && zgiv R s r k))
        rw [w1 t k ht hk, zgiv_d hs hr hi k]
      · rw [fX12_applies_16, g1, Option.bind_some]
        dsimp only
        rw [decide_eq_false (Nat.lt_irrefl _), if_pos (show bI false = 0 from rfl)])
    _ K 0 (comes, value) (Nat.zero_add _) ⟨by intro t k ht hk; show comes _ = _; rw [hC t k ht hk]; simp [zany], hval⟩ (by omega)
  exact ⟨c', v', by rw [q1] at e; exact e, q2, q3⟩
theorem zX12_firingsOf (K : Nat) (hK : 5000 < K) {now : Nat → Int32} {s : Nat → Nat} (h : zM now s) (hs : zRul s) {row : Nat → Int32} {R : Nat → Nat → Bool} (hR : zMr row R) {r : Nat} (hr : r < zrn s) {value : Nat → Int32} (hval : ∃ val, zMv value val) :
    (∃ value', fX12_firingsOf K now row (nI r) (-1) value = some (nI (if zidle s r = true then 0 else zfir R s r), value') ∧ ∃ val, zMv value' val) ∧ ∀ k, k < 512 → ∃ value', fX12_firingsOf K now row (nI r) (nI k) value = some (nI (if zidle s r = true then 0 else zfirk R s r k), value') ∧ ∃ val, zMv value' val := by
  have hrn := hs.1
  have h8 := zp8 (zrc_le s r)
  have e1 : (1 : Int32) = nI 1 := rfl
  have gen : ∀ (p2 : Int32) (q : Nat → Bool), zidle s r = false → ((p2 = -1 ∧ ∀ n, q n = true) ∨ (∃ k, k < 512 ∧ p2 = nI k ∧ ∀ n, q n = decide (zrd2 s r (zld n) = k))) → ∃ value', fX12_firingsOf_23 K now row (nI r) p2 K (nI (zrb s r)) (nI 0) (nI 0) value = some (nI (zcnt (fun n => zgd2 R s r (zld n) && q n) (8 ^ zrc s r)), value') ∧ ∃ val, zMv value' val := by
    intro p2 q hi hq
    obtain ⟨x, ⟨v', q1, q3⟩, e⟩ := z_for (F := fun k n (z : Nat → Int32) => fX12_firingsOf_23 K now row (nI r) p2 k (nI (zrb s r)) (nI (zcnt (fun n => zgd2 R s r (zld n) && q n) n)) (nI n) z) (n := 8 ^ zrc s r)
      (inv := fun n z => ∃ val, zMv z val)
      (post := fun x => ∃ v', x = (nI (zcnt (fun n => zgd2 R s r (zld n) && q n) (8 ^ zrc s r)), v') ∧ ∃ val, zMv v' val)
      (by
        intro k n z hn w2
        obtain ⟨v', g1, g2, g3, g4⟩ := zX12_choice K (by omega) h hs hR hr hi (show n < 100000 by omega) w2
        have hl := zrd2_lt hs hr (zld_lt n)
        left
        refine ⟨v', g2, ?_⟩
        rw [fX12_firingsOf_23, g1, Option.bind_some]
        dsimp only
        rw [decide_eq_true hn, if_neg (show ¬ bI true = 0 by decide), g3, Option.bind_some, zcnt_s]
        unfold fX12_firingsOf_59 fX12_firingsOf_62
        cases hg : zgd2 R s r (zld n)
        · rw [if_pos (show bI false = 0 from rfl), e1, zi_add]; rfl
        · rw [if_neg (show ¬ bI true = 0 by decide), Bool.true_and]
          rcases hq with ⟨rfl, hq⟩ | ⟨k', hk', rfl, hq⟩
          · rw [if_pos rfl, hq n, e1, zi_add, zi_add]; rfl
          · rw [if_neg (zi_m1 (by omega)), zX12_headAt, Option.bind_some, g4, Option.bind_some, hq n]
            by_cases g : zrd2 s r (zld n) = k'
            · rw [if_pos (by rw [g]), decide_eq_true g, e1, zi_add, zi_add]; rfl
            · rw [if_neg (by rw [zi_eq (by omega) (by omega)]; exact g), decide_eq_false g, e1, zi_add]; rfl)
      (by
        intro k z w2
        obtain ⟨v', g1, g2, g3, g4⟩ := zX12_choice K (by omega) h hs hR hr hi (show 8 ^ zrc s r < 100000 by omega) w2
        refine ⟨_, ⟨v', rfl, g2⟩, ?_⟩
        rw [fX12_firingsOf_23, g1, Option.bind_some]
        dsimp only
        rw [decide_eq_false (Nat.lt_irrefl _), if_pos (show bI false = 0 from rfl)])
      _ K 0 value (Nat.zero_add _) hval (by omega)
    exact ⟨v', by rw [q1] at e; exact e, q3⟩
  unfold fX12_firingsOf
  rw [zX12_isIdleRule K (by omega) h hs hr, Option.bind_some]
  cases hi : zidle s r
  · rw [if_neg (show ¬ false = true by decide)]
    refine ⟨?_, ?_⟩
    · obtain ⟨v', g1, g2⟩ := gen (-1) (fun _ => true) hi (Or.inl ⟨rfl, fun _ => rfl⟩)
      refine ⟨v', ?_, g2⟩
      rw [if_pos (show bI false = 0 from rfl), show (0 : Int32) = bI false from rfl, zX12_variablesOfRule K (by omega) h hs hr false, Option.bind_some]
      have : zcnt (fun n => zgd2 R s r (zld n) && true) (8 ^ zrc s r) = zfir R s r := by
        rw [zfir_d hs hr hi]; apply zcnt_cong; intro n _; rw [Bool.and_true]
      rw [this] at g1
      exact g1
    · intro k hk
      obtain ⟨v', g1, g2⟩ := gen (nI k) (fun n => decide (zrd2 s r (zld n) = k)) hi (Or.inr ⟨k, hk, rfl, fun _ => rfl⟩)
      refine ⟨v', ?_, g2⟩
      rw [Option.bind_some, if_pos (show bI false = 0 from rfl), show (0 : Int32) = bI false from rfl, zX12_variablesOfRule K (by omega) h hs hr false, Option.bind_some, if_neg (show ¬ false = true by decide), zfirk_d hs hr hi k]
      exact g1
  · rw [if_pos rfl]
    refine ⟨⟨value, ?_, hval⟩, fun k hk => ⟨value, ?_, hval⟩⟩
    · rw [if_neg (show ¬ bI true = 0 by decide)]; rfl
    · rw [Option.bind_some, if_neg (show ¬ bI true = 0 by decide), if_pos rfl]; rfl
