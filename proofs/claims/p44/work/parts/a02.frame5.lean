/-! worlds with a tail that stays folded: the ten kept states -/
theorem zP_all {G : va_G} {ws : va_W} {H : Heap} : va_P G vwCl ws H ↔ ∀ q ∈ ws, va_at G vwCl q H := by
  constructor
  · intro h q hq
    obtain ⟨k, hk⟩ := List.mem_iff_getElem?.mp hq
    exact h k q hk
  · intro h k q hk
    exact h q (List.mem_of_getElem? hk)
theorem zD_all {A : Nat → Prop} {ws : va_W} : va_D A ws ↔ (ws.map Prod.fst).Nodup ∧ ∀ q ∈ ws, A q.1 := by
  constructor
  · intro h
    refine ⟨?_, fun q hq => ?_⟩
    · rw [List.Nodup, List.pairwise_iff_getElem]
      intro i j hi hj hij e
      rw [List.length_map] at hi hj
      rw [List.getElem_map, List.getElem_map] at e
      have := h.1 i j ws[i] ws[j] (List.getElem?_eq_getElem hi) (List.getElem?_eq_getElem hj) e
      omega
    · obtain ⟨k, hk⟩ := List.mem_iff_getElem?.mp hq
      exact h.2 k q hk
  · intro h
    refine ⟨fun i j p q hi hj e => ?_, fun k q hk => h.2 q (List.mem_of_getElem? hk)⟩
    have h1 := h.1
    rw [List.Nodup, List.pairwise_iff_getElem] at h1
    obtain ⟨li, ei⟩ := List.getElem?_eq_some_iff.mp hi
    obtain ⟨lj, ej⟩ := List.getElem?_eq_some_iff.mp hj
    rcases Nat.lt_trichotomy i j with c | c | c
    · exact absurd (by rw [List.getElem_map, List.getElem_map, ei, ej]; exact e) (h1 i j (by rw [List.length_map]; exact li) (by rw [List.length_map]; exact lj) c)
    · exact c
    · exact absurd (by rw [List.getElem_map, List.getElem_map, ei, ej]; exact e.symm) (h1 j i (by rw [List.length_map]; exact lj) (by rw [List.length_map]; exact li) c)
theorem zP_perm {G : va_G} {ws w2 : va_W} {H : Heap} (p : ws.Perm w2) (h : va_P G vwCl ws H) : va_P G vwCl w2 H := zP_all.mpr fun q hq => zP_all.mp h q (p.mem_iff.mpr hq)
theorem zD_perm {A : Nat → Prop} {ws w2 : va_W} (p : ws.Perm w2) (h : va_D A ws) : va_D A w2 := zD_all.mpr ⟨(p.map Prod.fst).nodup_iff.mp (zD_all.mp h).1, fun q hq => (zD_all.mp h).2 q (p.mem_iff.mpr hq)⟩
theorem z_pre {w0 T w1 : va_W} {is : List Nat} (h : is.map (fun i => w0[i]?) = w1.map some) : is.map (fun i => (w0 ++ T)[i]?) = w1.map some := by
  induction is generalizing w1 with
  | nil => exact h
  | cons i is ih => cases w1 with
    | nil => cases h
    | cons x t =>
      simp only [List.map_cons, List.cons.injEq] at h ⊢
      obtain ⟨l, -⟩ := List.getElem?_eq_some_iff.mp h.1
      exact ⟨by rw [List.getElem?_append_left l]; exact h.1, ih h.2⟩
theorem z_subP {G : va_G} {w0 T w1 : va_W} {H : Heap} (hP : va_P G vwCl (w0 ++ T) H) (is : List Nat) (h : is.map (fun i => w0[i]?) = w1.map some) : va_P G vwCl (w1 ++ T) H := by
  have h1 := hP.sub is (z_pick (z_pre h))
  refine zP_all.mpr fun q hq => ?_
  rcases List.mem_append.mp hq with m | m
  · exact zP_all.mp h1 q m
  · exact zP_all.mp hP q (List.mem_append_right _ m)
theorem z_subD {A : Nat → Prop} {w0 T w1 : va_W} (hD : va_D A (w0 ++ T)) (is : List Nat) (hn : va_nd is = true) (h : is.map (fun i => w0[i]?) = w1.map some) : va_D A (w1 ++ T) := by
  have h1 := hD.sub is hn (z_pre (T := T) h)
  have h2 := zD_all.mp hD
  have hT : va_D A T := zD_all.mpr ⟨by have := h2.1; rw [List.map_append] at this; exact (List.nodup_append.mp this).2.1, fun q hq => h2.2 q (List.mem_append_right _ hq)⟩
  refine h1.app hT fun i j p q hi hj e => ?_
  have m1 : p ∈ w0 := by
    have hm : p ∈ w1 := List.mem_of_getElem? hi
    have : some p ∈ w1.map some := List.mem_map.mpr ⟨p, hm, rfl⟩
    rw [← h] at this
    obtain ⟨k, -, hk⟩ := List.mem_map.mp this
    exact List.mem_of_getElem? hk
  have h3 := h2.1
  rw [List.map_append] at h3
  exact (List.nodup_append.mp h3).2.2 p.1 (List.mem_map.mpr ⟨p, m1, rfl⟩) q.1 (List.mem_map.mpr ⟨q, List.mem_of_getElem? hj, rfl⟩) e
/-- a call's frame: the callee's cells wc, the others wr -/
theorem z_joinG {G : va_G} {A : Nat → Prop} {wc wr w1 : va_W} {H H1 : Heap} (hP : va_P G vwCl (wc ++ wr) H) (hD : va_D A (wc ++ wr)) (hk : ∀ q : Nat, q < H.size → ¬ va_A wc H.size q → H1[q]? = H[q]?) (hF : ∀ q, va_A wc H.size q → A q) (hP1 : va_P G vwCl w1 H1) (hD1 : va_D (va_A wc H.size) w1) :
    va_P G vwCl (wr ++ w1) H1 ∧ va_D A (wr ++ w1) := by
  have hd := (zD_all.mp hD).1
  rw [List.map_append] at hd
  have hcross := (List.nodup_append.mp hd).2.2
  have lt : ∀ q ∈ wr, q.1 < H.size := fun q hq => by
    obtain ⟨k, h⟩ := List.mem_iff_getElem?.mp (List.mem_append_right wc hq)
    exact (hP k q h).lt
  have nA : ∀ q ∈ wr, ¬ va_A wc H.size q.1 := fun q hq h => by
    rcases h with ⟨k, e, h⟩ | h
    · exact hcross q.1 (List.mem_map.mpr ⟨(q.1, e), List.mem_of_getElem? h, rfl⟩) q.1 (List.mem_map.mpr ⟨q, hq, rfl⟩) rfl
    · have := lt q hq; omega
  have hPr : va_P G vwCl wr H1 := fun k q h => by
    have hm := List.mem_of_getElem? h
    exact (zP_all.mp hP q (List.mem_append_right _ hm)).kept (hk q.1 (lt q hm) (nA q hm))
  have hDr : va_D A wr := zD_all.mpr ⟨(List.nodup_append.mp hd).2.1, fun q hq => (zD_all.mp hD).2 q (List.mem_append_right _ hq)⟩
  refine ⟨hPr.app hP1, hDr.app (hD1.weaken fun k q h hq => hF q.1 hq) fun i j p q hi hj e => ?_⟩
  have h2 := hD1.2 j q hj
  rw [← e] at h2
  exact nA p (List.mem_of_getElem? hi) h2
theorem z_rot {α : Type} {a b c : List α} : ((a ++ b) ++ c).Perm ((a ++ c) ++ b) := by
  rw [List.append_assoc, List.append_assoc]
  exact List.Perm.append_left a List.perm_append_comm
theorem z_joinT {G : va_G} {A : Nat → Prop} {w0 T wc wr w1 : va_W} {H H1 : Heap} (hP : va_P G vwCl (w0 ++ T) H) (hD : va_D A (w0 ++ T)) (isC isR : List Nat) (hC : isC.map (fun i => w0[i]?) = wc.map some) (hR : isR.map (fun i => w0[i]?) = wr.map some) (hn : va_nd (isC ++ isR) = true)
    (hk : ∀ q : Nat, q < H.size → ¬ va_A wc H.size q → H1[q]? = H[q]?) (hF : ∀ q, va_A wc H.size q → A q) (hP1 : va_P G vwCl w1 H1) (hD1 : va_D (va_A wc H.size) w1) : va_P G vwCl ((wr ++ w1) ++ T) H1 ∧ va_D A ((wr ++ w1) ++ T) := by
  have hs : (isC ++ isR).map (fun i => w0[i]?) = (wc ++ wr).map some := by rw [List.map_append, List.map_append, hC, hR]
  have hP2 := z_subP hP _ hs
  have hD2 := z_subD hD _ hn hs
  rw [List.append_assoc] at hP2 hD2
  obtain ⟨h1, h2⟩ := z_joinG hP2 hD2 hk hF hP1 hD1
  exact ⟨zP_perm z_rot h1, zD_perm z_rot h2⟩
/-- the tail goes with the call -/
theorem z_joinK {G : va_G} {A : Nat → Prop} {w0 T wc wr w1 : va_W} {H H1 : Heap} (hP : va_P G vwCl (w0 ++ T) H) (hD : va_D A (w0 ++ T)) (isC isR : List Nat) (hC : isC.map (fun i => w0[i]?) = wc.map some) (hR : isR.map (fun i => w0[i]?) = wr.map some) (hn : va_nd (isC ++ isR) = true)
    (hk : ∀ q : Nat, q < H.size → ¬ va_A (wc ++ T) H.size q → H1[q]? = H[q]?) (hF : ∀ q, va_A (wc ++ T) H.size q → A q) (hP1 : va_P G vwCl w1 H1) (hD1 : va_D (va_A (wc ++ T) H.size) w1) : va_P G vwCl (wr ++ w1) H1 ∧ va_D A (wr ++ w1) := by
  have hs : (isC ++ isR).map (fun i => w0[i]?) = (wc ++ wr).map some := by rw [List.map_append, List.map_append, hC, hR]
  exact z_joinG (zP_perm z_rot (z_subP hP _ hs)) (zD_perm z_rot (z_subD hD _ hn hs)) hk hF hP1 hD1
theorem z_famOut {α : Type} {F : Nat → List α} {n j : Nat} (hj : j < n) : ((List.range n).flatMap F).Perm (F j ++ ((List.range n).erase j).flatMap F) := by
  have h := List.perm_cons_erase (List.mem_range.mpr hj)
  exact (h.flatMap_right F).trans (by rw [List.flatMap_cons])
theorem z_famIn {α : Type} {F F1 : Nat → List α} {n j : Nat} (hj : j < n) (h : ∀ i, i ≠ j → F1 i = F i) : (F1 j ++ ((List.range n).erase j).flatMap F).Perm ((List.range n).flatMap F1) := by
  have e : ((List.range n).erase j).flatMap F = ((List.range n).erase j).flatMap F1 := by
    show (List.map F _).flatten = (List.map F1 _).flatten
    rw [List.map_congr_left fun i hi => (h i fun q => ((List.Nodup.mem_erase_iff List.nodup_range).mp hi).1 q).symm]
  rw [e]
  exact (z_famOut hj).symm
theorem z_famPull {α : Type} {w0 : List α} {F : Nat → List α} {n j : Nat} (hj : j < n) : (w0 ++ (List.range n).flatMap F).Perm ((F j ++ w0) ++ ((List.range n).erase j).flatMap F) := by
  refine (List.Perm.append_left w0 (z_famOut hj)).trans ?_
  rw [← List.append_assoc]
  exact List.Perm.append_right _ List.perm_append_comm
theorem z_famPush {α : Type} {w0 P : List α} {F F1 : Nat → List α} {n j : Nat} (hj : j < n) (h : ∀ i, i ≠ j → F1 i = F i) (e : F1 j = P) : ((P ++ w0) ++ ((List.range n).erase j).flatMap F).Perm (w0 ++ (List.range n).flatMap F1) := by
  subst e
  refine (List.Perm.append_right _ List.perm_append_comm).trans ?_
  rw [List.append_assoc]
  exact List.Perm.append_left w0 (z_famIn hj h)
theorem z_same {α : Type} (f : Nat → α) (i : Nat) (x : α) : zup f i x i = x := by unfold zup; rw [if_pos rfl]
section ZT
variable {p : Program} {l : Launch} {e : Env} {R : Room} {s : State} {m : MethodId} {args : Array Value} {below : List Frame} {meth : Method} {c : Code} {H : Heap} {locs : List Loc} {cells slots : Nat} {Q : State → Prop}
variable {cc bytes : ByteArray} {nL maxL n index pc mc ms : Nat} {ret : Option FieldType} {wy : List Cond} {rm : Room} {Ts : List Cond} {own C : String} {y : MethodName} {b : Addr} {As rest st0 : List Value} {ls : Array Slot}
variable {G : va_G} {ts : List (ClassId × FieldType)} {A : Nat → Prop} {H0 : Heap} {w0 T wc wr : va_W} {U : Type} {wf : U → va_W} {sa : Nat → Nat}
theorem z_backiT {post : Int32 → U → Prop} {a : Array Value} (hr : va_Run p l e R s m args below meth c H locs cells slots 0 0 (F0 m pc ls st0) rest (va_Qi post (zAt G ts (va_A wc H.size) wf) (va_A wc H.size) a) (va_A wc H.size))
    (hP : va_P G vwCl (w0 ++ T) H) (hD : va_D A (w0 ++ T)) (hS : va_S A H0 H locs) (hA : ∀ q, H0.size ≤ q → A q)
    (isC isR : List Nat) (hC : isC.map (fun i => w0[i]?) = wc.map some) (hR : isR.map (fun i => w0[i]?) = wr.map some) (hn : va_nd (isC ++ isR) = true)
    (kk : ∀ (r : Int32) (u : U) (H : Heap) (locs : List Loc), post r u → va_P G vwCl ((wr ++ wf u) ++ T) H → va_D A ((wr ++ wf u) ++ T) → va_S A H0 H locs → W p l e R s m args below meth c H locs cells slots Q (F0 m (pc + 3) ls (.int r :: rest))) :
    W p l e R s m args below meth c H locs cells slots Q (F0 m pc ls st0) := by
  have hF := va_free (wc := wc) hD hS hA isC (z_pre hC)
  refine va_calli hr hS (fun q _ h => hF q h) hF (fun r u t H1 locs ht hvm hw hB hz1 hk1 hS => ?_)
  obtain ⟨hP1, -, hD1⟩ := hB
  rw [ht] at hP1
  obtain ⟨hP, hD⟩ := z_joinT hP hD isC isR hC hR hn hk1 hF hP1 hD1
  exact kk r u H1 locs hw hP hD hS
theorem z_backlT {post : Int64 → U → Prop} {a : Array Value} (hr : va_Run p l e R s m args below meth c H locs cells slots 0 0 (F0 m pc ls st0) rest (va_Ql post (zAt G ts (va_A wc H.size) wf) (va_A wc H.size) a) (va_A wc H.size))
    (hP : va_P G vwCl (w0 ++ T) H) (hD : va_D A (w0 ++ T)) (hS : va_S A H0 H locs) (hA : ∀ q, H0.size ≤ q → A q)
    (isC isR : List Nat) (hC : isC.map (fun i => w0[i]?) = wc.map some) (hR : isR.map (fun i => w0[i]?) = wr.map some) (hn : va_nd (isC ++ isR) = true)
    (kk : ∀ (r : Int64) (u : U) (H : Heap) (locs : List Loc), post r u → va_P G vwCl ((wr ++ wf u) ++ T) H → va_D A ((wr ++ wf u) ++ T) → va_S A H0 H locs → W p l e R s m args below meth c H locs cells slots Q (F0 m (pc + 3) ls (.long r :: rest))) :
    W p l e R s m args below meth c H locs cells slots Q (F0 m pc ls st0) := by
  have hF := va_free (wc := wc) hD hS hA isC (z_pre hC)
  refine va_calll hr hS (fun q _ h => hF q h) hF (fun r u t H1 locs ht hvm hw hB hz1 hk1 hS => ?_)
  obtain ⟨hP1, -, hD1⟩ := hB
  rw [ht] at hP1
  obtain ⟨hP, hD⟩ := z_joinT hP hD isC isR hC hR hn hk1 hF hP1 hD1
  exact kk r u H1 locs hw hP hD hS
theorem z_backvT {post : U → Prop} {a : Array Value} (hr : va_Run p l e R s m args below meth c H locs cells slots 0 0 (F0 m pc ls st0) rest (va_Qv post (zAt G ts (va_A wc H.size) wf) (va_A wc H.size) a) (va_A wc H.size))
    (hP : va_P G vwCl (w0 ++ T) H) (hD : va_D A (w0 ++ T)) (hS : va_S A H0 H locs) (hA : ∀ q, H0.size ≤ q → A q)
    (isC isR : List Nat) (hC : isC.map (fun i => w0[i]?) = wc.map some) (hR : isR.map (fun i => w0[i]?) = wr.map some) (hn : va_nd (isC ++ isR) = true)
    (kk : ∀ (u : U) (H : Heap) (locs : List Loc), post u → va_P G vwCl ((wr ++ wf u) ++ T) H → va_D A ((wr ++ wf u) ++ T) → va_S A H0 H locs → W p l e R s m args below meth c H locs cells slots Q (F0 m (pc + 3) ls rest)) :
    W p l e R s m args below meth c H locs cells slots Q (F0 m pc ls st0) := by
  have hF := va_free (wc := wc) hD hS hA isC (z_pre hC)
  refine va_callv hr hS (fun q _ h => hF q h) hF (fun u t H1 locs ht hvm hw hB hz1 hk1 hS => ?_)
  obtain ⟨hP1, -, hD1⟩ := hB
  rw [ht] at hP1
  obtain ⟨hP, hD⟩ := z_joinT hP hD isC isR hC hR hn hk1 hF hP1 hD1
  exact kk u H1 locs hw hP hD hS
theorem z_backrT {post : U → Prop} {pa : U → Nat → Prop} {a : Array Value} (hr : va_Run p l e R s m args below meth c H locs cells slots 0 0 (F0 m pc ls st0) rest (va_Qr post (fun u a t => pa u a ∧ zAt G ts (va_A wc H.size) wf u t) (va_A wc H.size) a) (va_A wc H.size))
    (hP : va_P G vwCl (w0 ++ T) H) (hD : va_D A (w0 ++ T)) (hS : va_S A H0 H locs) (hA : ∀ q, H0.size ≤ q → A q)
    (isC isR : List Nat) (hC : isC.map (fun i => w0[i]?) = wc.map some) (hR : isR.map (fun i => w0[i]?) = wr.map some) (hn : va_nd (isC ++ isR) = true)
    (kk : ∀ (r : Nat) (u : U) (H : Heap) (locs : List Loc), post u → pa u r → va_P G vwCl ((wr ++ wf u) ++ T) H → va_D A ((wr ++ wf u) ++ T) → va_S A H0 H locs → W p l e R s m args below meth c H locs cells slots Q (F0 m (pc + 3) ls (.ref r :: rest))) :
    W p l e R s m args below meth c H locs cells slots Q (F0 m pc ls st0) := by
  have hF := va_free (wc := wc) hD hS hA isC (z_pre hC)
  refine va_callr hr hS (fun q _ h => hF q h) hF (fun u r t H1 locs ht hvm hw hB hz1 hk1 hS => ?_)
  obtain ⟨hpa, hP1, -, hD1⟩ := hB
  rw [ht] at hP1
  obtain ⟨hP, hD⟩ := z_joinT hP hD isC isR hC hR hn hk1 hF hP1 hD1
  exact kk r u H1 locs hw hpa hP hD hS
theorem z_backXiT {V : Type} {q : (Nat ⊕ V) × U} {post : Int32 → U → Prop} {a : Array Value} (hr : vx_Run p l e R s m args below meth c H locs cells slots mc ms (F0 m pc ls st0) rest (va_Qi post (zAt G ts (va_A wc H.size) wf) (va_A wc H.size) a) (zXC q G ts wf (va_A wc H.size)) (va_A wc H.size))
    (hP : va_P G vwCl (w0 ++ T) H) (hD : va_D A (w0 ++ T)) (hS : va_S A H0 H locs) (hA : ∀ q, H0.size ≤ q → A q)
    (isC isR : List Nat) (hC : isC.map (fun i => w0[i]?) = wc.map some) (hR : isR.map (fun i => w0[i]?) = wr.map some) (hn : va_nd (isC ++ isR) = true)
    (kx : ∀ (k : Nat) (ce : Cell) (q9 : Addr) (u : U) (H : Heap) (locs : List Loc), u = q.2 → q.1 = .inl k → va_P G vwCl ((wr ++ wf u) ++ T) H → va_D A ((wr ++ wf u) ++ T) → va_S A H0 H locs → H[q9]? = some ce → ce.vm = .none → s.vm.findClass (zEx k) = some ce.cls → vx_W p l e R s m args below meth c H locs (cells + mc) (slots + ms) Q (F0 m pc ls rest) q9)
    (kk : ∀ (r : Int32) (u : U) (H : Heap) (locs : List Loc), post r u → va_P G vwCl ((wr ++ wf u) ++ T) H → va_D A ((wr ++ wf u) ++ T) → va_S A H0 H locs → W p l e R s m args below meth c H locs (cells + mc) (slots + ms) Q (F0 m (pc + 3) ls (.int r :: rest))) :
    W p l e R s m args below meth c H locs cells slots Q (F0 m pc ls st0) := by
  have hF := va_free (wc := wc) hD hS hA isC (z_pre hC)
  refine vx_calli hr hS (fun q _ h => hF q h) hF (fun q _ h => hF q h) (fun E ce q9 u t H1 locs ht hvm hw hB hz1 hk1 hS hce hcv hcl => ?_) (fun r u t H1 locs ht hvm hw hB hz1 hk1 hS => ?_)
  · obtain ⟨⟨k, hk, rfl⟩, hP1, -, hD1⟩ := hB
    rw [ht] at hP1
    obtain ⟨hP, hD⟩ := z_joinT hP hD isC isR hC hR hn hk1 hF hP1 hD1
    exact kx k ce q9 u H1 locs hw hk hP hD hS hce hcv hcl
  · obtain ⟨hP1, -, hD1⟩ := hB
    rw [ht] at hP1
    obtain ⟨hP, hD⟩ := z_joinT hP hD isC isR hC hR hn hk1 hF hP1 hD1
    exact kk r u H1 locs hw hP hD hS
theorem z_backXvT {V : Type} {q : (Nat ⊕ V) × U} {post : U → Prop} {a : Array Value} (hr : vx_Run p l e R s m args below meth c H locs cells slots mc ms (F0 m pc ls st0) rest (va_Qv post (zAt G ts (va_A wc H.size) wf) (va_A wc H.size) a) (zXC q G ts wf (va_A wc H.size)) (va_A wc H.size))
    (hP : va_P G vwCl (w0 ++ T) H) (hD : va_D A (w0 ++ T)) (hS : va_S A H0 H locs) (hA : ∀ q, H0.size ≤ q → A q)
    (isC isR : List Nat) (hC : isC.map (fun i => w0[i]?) = wc.map some) (hR : isR.map (fun i => w0[i]?) = wr.map some) (hn : va_nd (isC ++ isR) = true)
    (kx : ∀ (k : Nat) (ce : Cell) (q9 : Addr) (u : U) (H : Heap) (locs : List Loc), u = q.2 → q.1 = .inl k → va_P G vwCl ((wr ++ wf u) ++ T) H → va_D A ((wr ++ wf u) ++ T) → va_S A H0 H locs → H[q9]? = some ce → ce.vm = .none → s.vm.findClass (zEx k) = some ce.cls → vx_W p l e R s m args below meth c H locs (cells + mc) (slots + ms) Q (F0 m pc ls rest) q9)
    (kk : ∀ (u : U) (H : Heap) (locs : List Loc), post u → va_P G vwCl ((wr ++ wf u) ++ T) H → va_D A ((wr ++ wf u) ++ T) → va_S A H0 H locs → W p l e R s m args below meth c H locs (cells + mc) (slots + ms) Q (F0 m (pc + 3) ls rest)) :
    W p l e R s m args below meth c H locs cells slots Q (F0 m pc ls st0) := by
  have hF := va_free (wc := wc) hD hS hA isC (z_pre hC)
  refine vx_callv hr hS (fun q _ h => hF q h) hF (fun q _ h => hF q h) (fun E ce q9 u t H1 locs ht hvm hw hB hz1 hk1 hS hce hcv hcl => ?_) (fun u t H1 locs ht hvm hw hB hz1 hk1 hS => ?_)
  · obtain ⟨⟨k, hk, rfl⟩, hP1, -, hD1⟩ := hB
    rw [ht] at hP1
    obtain ⟨hP, hD⟩ := z_joinT hP hD isC isR hC hR hn hk1 hF hP1 hD1
    exact kx k ce q9 u H1 locs hw hk hP hD hS hce hcv hcl
  · obtain ⟨hP1, -, hD1⟩ := hB
    rw [ht] at hP1
    obtain ⟨hP, hD⟩ := z_joinT hP hD isC isR hC hR hn hk1 hF hP1 hD1
    exact kk u H1 locs hw hP hD hS
/-- an exception that goes on to the caller -/
theorem z_freeK {w0 T wc : va_W} {A : Nat → Prop} {H0 H : Heap} {locs : List Loc} (hD : va_D A (w0 ++ T)) (hS : va_S A H0 H locs) (hA : ∀ q, H0.size ≤ q → A q) (isC : List Nat) (hC : isC.map (fun i => w0[i]?) = wc.map some) : ∀ q, va_A (wc ++ T) H.size q → A q := by
  intro q hq
  rcases hq with ⟨k, e, h⟩ | h
  · rcases List.mem_append.mp (List.mem_of_getElem? h) with m | m
    · have : some (q, e) ∈ wc.map some := List.mem_map.mpr ⟨_, m, rfl⟩
      rw [← hC] at this
      obtain ⟨i, -, hi⟩ := List.mem_map.mp this
      exact (zD_all.mp hD).2 (q, e) (List.mem_append_left _ (List.mem_of_getElem? hi))
    · exact (zD_all.mp hD).2 (q, e) (List.mem_append_right _ m)
  · exact hA q (Nat.le_trans hS.1 h)
theorem z_backvK {post : U → Prop} {a : Array Value} (hr : va_Run p l e R s m args below meth c H locs cells slots 0 0 (F0 m pc ls st0) rest (va_Qv post (zAt G ts (va_A (wc ++ T) H.size) wf) (va_A (wc ++ T) H.size) a) (va_A (wc ++ T) H.size))
    (hP : va_P G vwCl (w0 ++ T) H) (hD : va_D A (w0 ++ T)) (hS : va_S A H0 H locs) (hA : ∀ q, H0.size ≤ q → A q)
    (isC isR : List Nat) (hC : isC.map (fun i => w0[i]?) = wc.map some) (hR : isR.map (fun i => w0[i]?) = wr.map some) (hn : va_nd (isC ++ isR) = true)
    (kk : ∀ (u : U) (H : Heap) (locs : List Loc), post u → va_P G vwCl (wr ++ wf u) H → va_D A (wr ++ wf u) → va_S A H0 H locs → W p l e R s m args below meth c H locs cells slots Q (F0 m (pc + 3) ls rest)) :
    W p l e R s m args below meth c H locs cells slots Q (F0 m pc ls st0) := by
  have hF : ∀ q, va_A (wc ++ T) H.size q → A q := z_freeK hD hS hA isC hC
  refine va_callv hr hS (fun q _ h => hF q h) hF (fun u t H1 locs ht hvm hw hB hz1 hk1 hS => ?_)
  obtain ⟨hP1, -, hD1⟩ := hB
  rw [ht] at hP1
  obtain ⟨hP, hD⟩ := z_joinK hP hD isC isR hC hR hn hk1 hF hP1 hD1
  exact kk u H1 locs hw hP hD hS
theorem z_first {w T : va_W} {x : Nat × va_E} (h : w[0]? = some x) : (w ++ T)[0]? = some x := by
  obtain ⟨l, -⟩ := List.getElem?_eq_some_iff.mp h
  rw [List.getElem?_append_left l]; exact h
theorem z_goVK (S : CallFix p m c cc nL s args Ts own) (hK : va_K G vwCl ts s) (hN : zN s) (hP : va_P G vwCl (w0 ++ T) H) (hD : va_D A (w0 ++ T))
    {Qc : Array Value → State → Outcome → State → Prop} {free : Addr → Prop}
    (hM : Met l y wy rm (zPre G ts (.ref b :: As) H.size (wc ++ T)) Qc 0 0 free) (cw : CallW R s args own C index y bytes maxL ret wy rm 0 0 n)
    (isC : List Nat) (hC : isC.map (fun i => w0[i]?) = wc.map some) (hn : va_nd isC = true) {ci : Nat} {fs : List Value} {T : u_T} {N : Nat} (hb0 : wc[0]? = some (b, .inr (ci, fs))) (hci : vwCl[ci]? = some (C, T, N))
    (hl : As.length = n) (hsz : ls.size = nL) (hst : st0 = As.reverse ++ .ref b :: rest) (hr8 : (rest.map fun v => v.category).sum ≤ 8) (hdg : decode cc pc = .ok (.invokevirtual index, 3)) (hroom : cells ≤ R.cells ∧ slots ≤ R.slots) :
    va_Run p l e R s m args below meth c H locs cells slots 0 0 (F0 m pc ls st0) rest (Qc (Value.ref b :: As).toArray) free := by
  have hPc := z_subP hP isC hC
  have hDc := z_subD hD isC hn hC
  exact va_runV S hM cw ⟨z_blind, va_recv hK hPc hci (z_first hb0), fun U hU hW => ⟨rfl, by rw [hU], by rw [hU]; exact hPc, va_K.moved hW.alike hK, hDc.weaken (fun _ _ _ _ => trivial), hN.warm hW⟩⟩ rfl hl hsz hst (lv_room hr8) hdg hroom
end ZT
