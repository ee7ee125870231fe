/-! calls of a query: groups, the size of a group, an answer -/
theorem zcnt_no {p : Nat → Bool} : ∀ n, (zcnt p n ≤ 0) ↔ zany p n = false := by
  intro n
  constructor
  · intro h
    cases e : zany p n
    · rfl
    · obtain ⟨i, hi, hp⟩ := zany_iff.1 e
      have := zcnt_mono p (show i + 1 ≤ n by omega)
      rw [zcnt_s, hp] at this
      have e1 : (true).toNat = 1 := rfl
      omega
  · intro h
    have : zcnt p n = zcnt p 0 := zcnt_flat (Nat.zero_le n) (fun i _ h2 => by
      cases e : p i
      · rfl
      · rw [zany_iff.2 ⟨i, h2, e⟩] at h; cases h)
    rw [this, zcnt_0]; exact Nat.le_refl 0
abbrev zR20p := (Nat → Int32) × Int32 × (Nat → Int32) × (Nat → Int32) × (Nat → Int32) × (Nat → Int32) × (Nat → Int32) × (Nat → Int32) × Int32 × Int32 × Int32 × Int32 × Int32 × (Nat → Int64) × (Nat → Int64) × (Nat → Int32) × (Nat → Int32) × (Nat → Int32) × Int32 × Int32 × (Nat → Int32) × Int32 × (Nat → Int32) × (Nat → Int32) × (Nat → Int32) × (Nat → Int32) × (Nat → Int32) × (Nat → Int32) × Int32 × Int32 × Int32 × Int32 × Int32 × (Nat → Int64) × Int32 × Int32 × Int32
theorem zX11_groups32 (K : Nat) (hK : 4096 < K) (fa : Nat → Int64) (od hd : Nat → Int32) (qc : Nat → Nat → Int32) (qs : Nat → Int32) (bc : Nat → Nat → Int32) (bs : Nat → Int32) (rtt : Int32) {s : Nat → Nat} {k v : Nat} (hv : v < 4) {R : Nat → Nat → Bool} (q : zR13) (w fr : Nat → Int64) (g re fi : Nat → Int32) (rt im : Int32) (r : zR15) (pk ff p1 : Int32) (hfd : zFd R (zqa s k) (zqn s k) (zqpl s k) (zqc s k) r) :
    ∃ pk', zapr (zapg (fX11_groups_32 K fa od hd qc qs bc bs rtt p1 (nI v) K 0 0) q w fr g re fi rt im) r pk ff = some (Sum.inr (nI (zcnt (fun x => zany (fun y => zqP R s k y && decide (zvy s k y v = x)) 4096) 8)), zgr q w fr g re fi rt im (zpf r (pk', ff))) := by
  have e8 : (8 : Int32) = nI 8 := rfl
  obtain ⟨_, ⟨pk', rfl⟩, e⟩ := z_for (F := fun n i (pk : Int32) => zapr (zapg (fX11_groups_32 K fa od hd qc qs bc bs rtt p1 (nI v) n (nI (zcnt (fun x => zany (fun y => zqP R s k y && decide (zvy s k y v = x)) 4096) i)) (nI i)) q w fr g re fi rt im) r pk ff) (n := 8) (inv := fun _ _ => True) (post := fun o => ∃ pk', o = (Sum.inr (nI (zcnt (fun x => zany (fun y => zqP R s k y && decide (zvy s k y v = x)) 4096) 8)), zgr q w fr g re fi rt im (zpf r (pk', ff))))
    (by
      intro n i pk hi _
      left
      obtain ⟨pk', hsz⟩ := zX0_sizeWith K hK (w := r.2.2.2.2.2.2.2.2.2.2.2.2.2.1) (seq := r.2.2.1) hfd.1 hfd.2.1 (P := zqP R s k) (fun y hy => hfd.2.2.2.2.1 y hy) hv hi pk
      refine ⟨pk', trivial, ?_⟩
      show (if (8 : Int32) ≤ nI i then _ else ((fX0_sizeWith K r.2.2.1 r.2.2.2.2.2.2.2.2.1 r.2.2.2.2.2.2.2.2.2.2.2.2.2.1 r.2.2.2.2.2.2.2.2.2.2.2.2.2.2 (nI v) (nI i) pk).bind fun q47 => if q47.1 ≤ 0 then zapr (zapg (fX11_groups_32 K fa od hd qc qs bc bs rtt p1 (nI v) n (nI (zcnt (fun x => zany (fun y => zqP R s k y && decide (zvy s k y v = x)) 4096) i) + (0 : Int32)) (nI i + (1 : Int32))) q w fr g re fi rt im) r q47.2 ff else zapr (zapg (fX11_groups_32 K fa od hd qc qs bc bs rtt p1 (nI v) n (nI (zcnt (fun x => zany (fun y => zqP R s k y && decide (zvy s k y v = x)) 4096) i) + (1 : Int32)) (nI i + (1 : Int32))) q w fr g re fi rt im) r q47.2 ff)) = _
      have hsz' : fX0_sizeWith K r.2.2.1 r.2.2.2.2.2.2.2.2.1 r.2.2.2.2.2.2.2.2.2.2.2.2.2.1 r.2.2.2.2.2.2.2.2.2.2.2.2.2.2 (nI v) (nI i) pk = some (nI (zcnt (fun y => zqP R s k y && decide (zvy s k y v = i)) 4096), pk') := by
        rw [hfd.2.2.1, hfd.2.2.2.2.2]; exact hsz
      have hle := zcnt_le (fun y => zqP R s k y && decide (zvy s k y v = i)) 4096
      rw [if_neg (show ¬ (8 : Int32) ≤ nI i by rw [e8, zi_le (by omega) (by omega)]; omega), hsz', Option.bind_some, nI_succ]
      show (if nI (zcnt (fun y => zqP R s k y && decide (zvy s k y v = i)) 4096) ≤ 0 then _ else _) = zapr (zapg (fX11_groups_32 K fa od hd qc qs bc bs rtt p1 (nI v) n (nI (zcnt (fun x => zany (fun y => zqP R s k y && decide (zvy s k y v = x)) 4096) i + (zany (fun y => zqP R s k y && decide (zvy s k y v = i)) 4096).toNat)) (nI i + (1 : Int32))) q w fr g re fi rt im) r pk' ff
      have hno := zcnt_no (p := fun y => zqP R s k y && decide (zvy s k y v = i)) 4096
      cases ea : zany (fun y => zqP R s k y && decide (zvy s k y v = i)) 4096
      · rw [if_pos (by rw [show (0 : Int32) = nI 0 from rfl, zi_le (by omega) (by omega)]; exact hno.2 ea)]
        rw [show (0 : Int32) = nI 0 from rfl, zi_add]; rfl
      · rw [if_neg (by rw [show (0 : Int32) = nI 0 from rfl, zi_le (by omega) (by omega)]; intro h; rw [hno.1 h] at ea; cases ea)]
        rw [show (true).toNat = 1 from rfl, nI_succ])
    (by
      intro n pk _
      refine ⟨_, ⟨pk, rfl⟩, ?_⟩
      rfl) 8 K 0 pk (by omega) trivial (by omega)
  exact ⟨pk', e⟩
