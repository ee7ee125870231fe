/-! contracts over a larger world; the calls of the law -/
theorem z_permI {w0 wc : va_W} (isC isR : List Nat) (n : Nat) (hn : w0.length = n) (hC : isC.map (fun i => w0[i]?) = wc.map some) (hp : (isC ++ isR).Perm (List.range n)) : w0.Perm (wc ++ isR.filterMap (fun i => w0[i]?)) := by
  subst hn
  have h0 : (List.range w0.length).map (fun i => w0[i]?) = w0.map some := by
    apply List.ext_getElem
    · simp
    · intro i h1 h2
      simp
  have h1 := z_pick h0
  have h2 : (isC ++ isR).filterMap (fun i => w0[i]?) = wc ++ isR.filterMap (fun i => w0[i]?) := by rw [List.filterMap_append, z_pick hC]
  have h3 := (hp.filterMap (fun i => w0[i]?)).symm
  rw [h1, h2] at h3
  exact h3
/-- a world within a larger one, and what comes back of it -/
def zLft {U : Type} (wl wc : va_W) (wf wf' : U → va_W) : Prop := ∃ wr : va_W, wl.Perm (wc ++ wr) ∧ ∀ u, (wr ++ wf u).Perm (wf' u)
theorem zLft_N {U : Type} {w0 T wc : va_W} {wf wf0 : U → va_W} (isC isR : List Nat) (n : Nat) (hn : w0.length = n) (hn' : ∀ u, (wf0 u).length = n) (hC : isC.map (fun i => w0[i]?) = wc.map some) (hC' : ∀ u, isC.map (fun i => (wf0 u)[i]?) = (wf u).map some) (hR : ∀ u, isR.map (fun i => (wf0 u)[i]?) = isR.map (fun i => w0[i]?)) (hp : (isC ++ isR).Perm (List.range n)) : zLft (w0 ++ T) wc wf (fun u => wf0 u ++ T) := by
  refine ⟨isR.filterMap (fun i => w0[i]?) ++ T, ?_, fun u => ?_⟩
  · rw [← List.append_assoc]
    exact List.Perm.append_right T (z_permI isC isR n hn hC hp)
  · have h := z_permI isC isR n (hn' u) (hC' u) hp
    have e : isR.filterMap (fun i => (wf0 u)[i]?) = isR.filterMap (fun i => w0[i]?) := by
      have h1 : ∀ (f : Nat → Option (Nat × va_E)) (l : List Nat), l.filterMap f = (l.map f).filterMap id := fun f l => by rw [List.filterMap_map]; rfl
      rw [h1, h1 (fun i => w0[i]?), hR u]
    rw [e] at h
    refine List.Perm.trans ?_ (List.Perm.append_right T h.symm)
    rw [List.append_assoc]
    refine List.perm_append_comm.trans ?_
    rw [List.append_assoc]
    exact List.perm_append_comm
theorem zLft_K {U : Type} {w0 T wc : va_W} {wf wf0 Tf : U → va_W} (isC isR : List Nat) (n : Nat) (hn : w0.length = n) (hn' : ∀ u, (wf0 u).length = n) (hC : isC.map (fun i => w0[i]?) = wc.map some) (hC' : ∀ u, isC.map (fun i => (wf0 u)[i]?) = (wf u).map some) (hR : ∀ u, isR.map (fun i => (wf0 u)[i]?) = isR.map (fun i => w0[i]?)) (hp : (isC ++ isR).Perm (List.range n)) : zLft (w0 ++ T) (wc ++ T) (fun u => wf u ++ Tf u) (fun u => wf0 u ++ Tf u) := by
  refine ⟨isR.filterMap (fun i => w0[i]?), ?_, fun u => ?_⟩
  · refine (List.Perm.append_right T (z_permI isC isR n hn hC hp)).trans ?_
    rw [List.append_assoc, List.append_assoc]
    exact List.Perm.append_left _ List.perm_append_comm
  · have h := z_permI isC isR n (hn' u) (hC' u) hp
    have e : isR.filterMap (fun i => (wf0 u)[i]?) = isR.filterMap (fun i => w0[i]?) := by
      have h1 : ∀ (f : Nat → Option (Nat × va_E)) (l : List Nat), l.filterMap f = (l.map f).filterMap id := fun f l => by rw [List.filterMap_map]; rfl
      rw [h1, h1 (fun i => w0[i]?), hR u]
    rw [e] at h
    refine List.Perm.trans ?_ (List.Perm.append_right (Tf u) h.symm)
    rw [← List.append_assoc]
    exact List.Perm.append_right _ List.perm_append_comm
theorem zA_sub {wl wc wr : va_W} {sz : Nat} (hp : wl.Perm (wc ++ wr)) : ∀ q, va_A wc sz q → va_A wl sz q := by
  intro q h
  rcases h with ⟨k, e, h⟩ | h
  · have m : (q, e) ∈ wl := hp.mem_iff.mpr (List.mem_append_left _ (List.mem_of_getElem? h))
    obtain ⟨j, hj⟩ := List.mem_iff_getElem?.mp m
    exact Or.inl ⟨j, e, hj⟩
  · exact Or.inr h
theorem zP_left {G : va_G} {wc wr : va_W} {H : Heap} (h : va_P G vwCl (wc ++ wr) H) : va_P G vwCl wc H := zP_all.mpr fun q hq => zP_all.mp h q (List.mem_append_left _ hq)
theorem zD_left {A : Nat → Prop} {wc wr : va_W} (h : va_D A (wc ++ wr)) : va_D A wc := by
  obtain ⟨h1, h2⟩ := zD_all.mp h
  rw [List.map_append] at h1
  exact zD_all.mpr ⟨(List.nodup_append.mp h1).1, fun q hq => h2 q (List.mem_append_left _ hq)⟩
section ZLF
variable {l : Launch} {y : MethodName} {wsy : List Cond} {rm : Room} {G : va_G} {ts : List (ClassId × FieldType)} {sa : Nat → Nat} {as : List Value} {sz mc ms : Nat} {U V : Type} {wl wc : va_W} {wf wf' : U → va_W}
theorem z_lq (hL : zLft wl wc wf wf') {s t : State} (hsz : s.heap.size = sz) (hP : va_P G vwCl wl s.heap) (hD : va_D (fun _ => True) wl) {u : U} (h : zAt G ts (va_A wc sz) wf u t) (hF : va_F (va_A wc sz) s t) : zAt G ts (va_A wl sz) wf' u t ∧ va_F (va_A wl sz) s t := by
  obtain ⟨wr, hp, hq⟩ := hL
  subst hsz
  have hs := zA_sub (sz := s.heap.size) hp
  obtain ⟨h1, h2, h3⟩ := h
  obtain ⟨a, b⟩ := z_joinG (A := va_A wl s.heap.size) (zP_perm hp hP) (zD_perm hp hD.self) hF.2 hs h1 h3
  exact ⟨⟨zP_perm (hq u) a, h2, zD_perm (hq u) b⟩, hF.1, fun q q1 q2 => hF.2 q q1 (fun h => q2 (hs q h))⟩
theorem z_liftM {Pc Pc' : Array Value → State → Prop} {Qc Qc' : Array Value → State → Outcome → State → Prop} {f f' : Addr → Prop} (hM : Met l y wsy rm Pc Qc mc ms f) (hP : ∀ a s, Pc' a s → Pc a s) (hf : ∀ q, f q → f' q) (hQ : ∀ a s o t, Pc' a s → Qc a s o t → Qc' a s o t) : Met l y wsy rm Pc' Qc' mc ms f' := by
  intro p e h1 h2 h3 s m args below h4 h5 h6 h7
  obtain ⟨n, o, a, b, c, d, L, e1, e2⟩ := hM p e h1 h2 h3 s m args below h4 h5 (hP _ _ h6) trivial
  exact ⟨n, o, a, b, c, hQ _ _ _ _ h6 d, L, e1, fun q hq => hf _ (e2 q hq)⟩
theorem z_liftX {Pc Pc' : Array Value → State → Prop} {Qc Qc' : Array Value → State → Outcome → State → Prop} {XC XC' : String → State → State → Prop} {f f' : Addr → Prop} (hM : vx_Met l y wsy rm Pc Qc XC mc ms f) (hP : ∀ a s, Pc' a s → Pc a s) (hf : ∀ q, f q → f' q) (hQ : ∀ a s o t, Pc' a s → Qc a s o t → Qc' a s o t) (hX : ∀ a s E t, Pc' a s → XC E s t → XC' E s t) : vx_Met l y wsy rm Pc' Qc' XC' mc ms f' := by
  intro p e h1 h2 h3 s m args below h4 h5 h6 h7
  obtain ⟨n, o, a, b, c, d⟩ := hM p e h1 h2 h3 s m args below h4 h5 (hP _ _ h6) trivial
  refine ⟨n, o, a, b, c, ?_⟩
  rcases d with ⟨d, L, e1, e2⟩ | ⟨q, d, E, ce, L, e1, e2, e3, e4, e5, e6, e7⟩
  · exact Or.inl ⟨hQ _ _ _ _ h6 d, L, e1, fun q hq => hf _ (e2 q hq)⟩
  · exact Or.inr ⟨q, d, E, ce, L, hX _ _ _ _ h6 e1, e2, e3, e4, e5, e6, fun q hq => hf _ (e7 q hq)⟩
theorem z_preX (hL : zLft wl wc wf wf') : ∀ a s, zPreX G ts sa as sz wl a s → zPreX G ts sa as sz wc a s := by
  intro a s h
  obtain ⟨wr, hp, hq⟩ := hL
  obtain ⟨q0, q1, qP, qK, qD, qN, qX⟩ := h
  exact ⟨q0, q1, zP_left (zP_perm hp qP), qK, zD_left (zD_perm hp qD), qN, qX.sub (State.WarmedH.refl s) rfl va_S.rf (zA_sub hp)⟩
theorem z_preN (hL : zLft wl wc wf wf') : ∀ a s, zPre G ts as sz wl a s → zPre G ts as sz wc a s := by
  intro a s h
  obtain ⟨wr, hp, hq⟩ := hL
  obtain ⟨q0, q1, qP, qK, qD, qN⟩ := h
  exact ⟨q0, q1, zP_left (zP_perm hp qP), qK, zD_left (zD_perm hp qD), qN⟩
theorem z_subA (hL : zLft wl wc wf wf') : ∀ q, va_A wc sz q → va_A wl sz q := by
  obtain ⟨wr, hp, hq⟩ := hL
  exact zA_sub hp
theorem z_lXC (hL : zLft wl wc wf wf') {RR : (Nat ⊕ V) × U} : ∀ a s E t, zPreX G ts sa as sz wl a s → zXC RR G ts wf (va_A wc sz) E s t → zXC RR G ts wf' (va_A wl sz) E s t := by
  intro a s E t h hX
  obtain ⟨q0, q1, qP, qK, qD, qN, qX⟩ := h
  obtain ⟨u, hu, ⟨hk, hB⟩, hF⟩ := hX
  obtain ⟨h1, h2⟩ := z_lq hL q1 qP qD hB hF
  exact ⟨u, hu, ⟨hk, h1⟩, h2⟩
theorem z_liftXi (hL : zLft wl wc wf wf') {post : Int32 → U → Prop} {RR : (Nat ⊕ V) × U} (hM : vx_Met l y wsy rm (zPreX G ts sa as sz wc) (va_Qi post (zAt G ts (va_A wc sz) wf) (va_A wc sz)) (zXC RR G ts wf (va_A wc sz)) mc ms (va_A wc sz)) :
    vx_Met l y wsy rm (zPreX G ts sa as sz wl) (va_Qi post (zAt G ts (va_A wl sz) wf') (va_A wl sz)) (zXC RR G ts wf' (va_A wl sz)) mc ms (va_A wl sz) :=
  z_liftX hM (z_preX hL) (z_subA hL) (fun a s o t h q => by
    obtain ⟨⟨r, u, e1, e2, e3⟩, e4⟩ := q
    obtain ⟨h1, h2⟩ := z_lq hL h.2.1 h.2.2.1 h.2.2.2.2.1 e3 e4
    exact ⟨⟨r, u, e1, e2, h1⟩, h2⟩) (z_lXC hL)
theorem z_liftXl (hL : zLft wl wc wf wf') {post : Int64 → U → Prop} {RR : (Nat ⊕ V) × U} (hM : vx_Met l y wsy rm (zPreX G ts sa as sz wc) (va_Ql post (zAt G ts (va_A wc sz) wf) (va_A wc sz)) (zXC RR G ts wf (va_A wc sz)) mc ms (va_A wc sz)) :
    vx_Met l y wsy rm (zPreX G ts sa as sz wl) (va_Ql post (zAt G ts (va_A wl sz) wf') (va_A wl sz)) (zXC RR G ts wf' (va_A wl sz)) mc ms (va_A wl sz) :=
  z_liftX hM (z_preX hL) (z_subA hL) (fun a s o t h q => by
    obtain ⟨⟨r, u, e1, e2, e3⟩, e4⟩ := q
    obtain ⟨h1, h2⟩ := z_lq hL h.2.1 h.2.2.1 h.2.2.2.2.1 e3 e4
    exact ⟨⟨r, u, e1, e2, h1⟩, h2⟩) (z_lXC hL)
theorem z_lifti (hL : zLft wl wc wf wf') {post : Int32 → U → Prop} (hM : Met l y wsy rm (zPre G ts as sz wc) (va_Qi post (zAt G ts (va_A wc sz) wf) (va_A wc sz)) mc ms (va_A wc sz)) :
    Met l y wsy rm (zPre G ts as sz wl) (va_Qi post (zAt G ts (va_A wl sz) wf') (va_A wl sz)) mc ms (va_A wl sz) :=
  z_liftM hM (z_preN hL) (z_subA hL) (fun a s o t h q => by
    obtain ⟨⟨r, u, e1, e2, e3⟩, e4⟩ := q
    obtain ⟨h1, h2⟩ := z_lq hL h.2.1 h.2.2.1 h.2.2.2.2.1 e3 e4
    exact ⟨⟨r, u, e1, e2, h1⟩, h2⟩)
theorem z_liftl (hL : zLft wl wc wf wf') {post : Int64 → U → Prop} (hM : Met l y wsy rm (zPre G ts as sz wc) (va_Ql post (zAt G ts (va_A wc sz) wf) (va_A wc sz)) mc ms (va_A wc sz)) :
    Met l y wsy rm (zPre G ts as sz wl) (va_Ql post (zAt G ts (va_A wl sz) wf') (va_A wl sz)) mc ms (va_A wl sz) :=
  z_liftM hM (z_preN hL) (z_subA hL) (fun a s o t h q => by
    obtain ⟨⟨r, u, e1, e2, e3⟩, e4⟩ := q
    obtain ⟨h1, h2⟩ := z_lq hL h.2.1 h.2.2.1 h.2.2.2.2.1 e3 e4
    exact ⟨⟨r, u, e1, e2, h1⟩, h2⟩)
theorem z_liftf (hL : zLft wl wc wf wf') {post : UInt32 → U → Prop} (hM : Met l y wsy rm (zPre G ts as sz wc) (va_Qf post (zAt G ts (va_A wc sz) wf) (va_A wc sz)) mc ms (va_A wc sz)) :
    Met l y wsy rm (zPre G ts as sz wl) (va_Qf post (zAt G ts (va_A wl sz) wf') (va_A wl sz)) mc ms (va_A wl sz) :=
  z_liftM hM (z_preN hL) (z_subA hL) (fun a s o t h q => by
    obtain ⟨⟨r, u, e1, e2, e3⟩, e4⟩ := q
    obtain ⟨h1, h2⟩ := z_lq hL h.2.1 h.2.2.1 h.2.2.2.2.1 e3 e4
    exact ⟨⟨r, u, e1, e2, h1⟩, h2⟩)
theorem z_liftd (hL : zLft wl wc wf wf') {post : UInt64 → U → Prop} (hM : Met l y wsy rm (zPre G ts as sz wc) (va_Qd post (zAt G ts (va_A wc sz) wf) (va_A wc sz)) mc ms (va_A wc sz)) :
    Met l y wsy rm (zPre G ts as sz wl) (va_Qd post (zAt G ts (va_A wl sz) wf') (va_A wl sz)) mc ms (va_A wl sz) :=
  z_liftM hM (z_preN hL) (z_subA hL) (fun a s o t h q => by
    obtain ⟨⟨r, u, e1, e2, e3⟩, e4⟩ := q
    obtain ⟨h1, h2⟩ := z_lq hL h.2.1 h.2.2.1 h.2.2.2.2.1 e3 e4
    exact ⟨⟨r, u, e1, e2, h1⟩, h2⟩)
end ZLF
/-- which thrown class is no other -/
def zNc (U : State) : Prop := ∀ i j, i < 4 → j < 4 → i ≠ j → va_Nc (zEx i) (zEx j) U
theorem zNc.moved {u U : State} (hvm : u.vm.Alike U.vm) (h : zNc u) : zNc U := fun i j hi hj hn => va_Nc.moved hvm (h i j hi hj hn)
def zPreL (G : va_G) (ts : List (ClassId × FieldType)) (sa : Nat → Nat) (as : List Value) (sz : Nat) (ws : va_W) : Array Value → State → Prop := fun a U => zPreX G ts sa as sz ws a U ∧ zNc U
theorem z_blindL {G : va_G} {ts : List (ClassId × FieldType)} {sa : Nat → Nat} {as : List Value} {sz : Nat} {ws : va_W} : FrameBlind (zPreL G ts sa as sz ws) := fun a U g mk q => ⟨z_blindX a U g mk q.1, zNc.moved (u := U) (U := U.calling g mk a) (Vm.Alike.refl U.vm) q.2⟩
theorem zX_cast {sa : Nat → Nat} {A : Nat → Prop} {s : State} {args : Array Value} (hX : zX sa A s) : ∀ k, k < 4 → (Cond.castable (zEx k) (zEx k)).before args s = true := by
  intro k hk
  obtain ⟨h1, -, h3⟩ := hX.1 s (State.WarmedH.refl s)
  rcases (show k = 0 ∨ k = 1 ∨ k = 2 ∨ k = 3 by omega) with rfl | rfl | rfl | rfl
  · exact h1 (238, 242, "java/lang/IndexOutOfBoundsException") (List.mem_of_getElem? (i := 0) rfl) _ (by decide +kernel) args
  · exact h1 (97, 101, "java/lang/IllegalArgumentException") (List.mem_of_getElem? (i := 1) rfl) _ (by decide +kernel) args
  · exact h1 (107, 111, "java/lang/IllegalStateException") (List.mem_of_getElem? (i := 2) rfl) _ (by decide +kernel) args
  · exact h3 _ (by decide +kernel) args
section ZLW
variable {p : Program} {l : Launch} {e : Env} {R : Room} {s : State} {m : MethodId} {args : Array Value} {below : List Frame} {meth : Method} {c : Code} {H : Heap} {locs : List Loc} {cells slots : Nat} {Q : State → Prop}
variable {cc bytes : ByteArray} {nL maxL n index pc mc ms : Nat} {ret : Option FieldType} {wy : List Cond} {rm : Room} {Ts : List Cond} {own C : String} {y : MethodName} {b : Addr} {As rest st0 : List Value} {ls : Array Slot}
variable {G : va_G} {ts : List (ClassId × FieldType)} {A : Nat → Prop} {wc wr : va_W} {U V : Type} {wf : U → va_W} {sa : Nat → Nat}
theorem z_freeG {H0 : Heap} (hD : va_D A (wc ++ wr)) (hS : va_S A H0 H locs) (hA : ∀ q, H0.size ≤ q → A q) : ∀ q, va_A wc H.size q → A q := by
  intro q hq
  rcases hq with ⟨k, e, h⟩ | h
  · exact (zD_all.mp hD).2 (q, e) (List.mem_append_left _ (List.mem_of_getElem? h))
  · exact hA q (Nat.le_trans hS.1 h)
/-- a call of a method that may throw -/
theorem z_callXi (S : CallFix p m c cc nL s args Ts own) (hK : va_K G vwCl ts s) (hN : zN s) (hX : zX sa A s) (hP : va_P G vwCl (wc ++ wr) H) (hD : va_D A (wc ++ wr)) (hS : va_S A s.heap H locs) (hA : ∀ q, s.heap.size ≤ q → A q)
    {post : Int32 → U → Prop} {RR : (Nat ⊕ V) × U}
    (hM : vx_Met l y wy rm (zPreX G ts sa (.ref b :: As) H.size wc) (va_Qi post (zAt G ts (va_A wc H.size) wf) (va_A wc H.size)) (zXC RR G ts wf (va_A wc H.size)) mc ms (va_A wc H.size)) (cw : CallW R s args own C index y bytes maxL ret wy rm mc ms n)
    {ci : Nat} {fs : List Value} {T : u_T} {N : Nat} (hb0 : wc[0]? = some (b, .inr (ci, fs))) (hci : vwCl[ci]? = some (C, T, N))
    (hl : As.length = n) (hsz : ls.size = nL) (hst : st0 = As.reverse ++ .ref b :: rest) (hr8 : (rest.map fun v => v.category).sum ≤ 8) (hdg : decode cc pc = .ok (.invokevirtual index, 3)) (hroom : cells + mc ≤ R.cells ∧ slots + ms ≤ R.slots)
    (kx : ∀ (k : Nat) (ce : Cell) (q9 : Addr) (H : Heap) (locs : List Loc), RR.1 = .inl k → va_P G vwCl (wr ++ wf RR.2) H → va_D A (wr ++ wf RR.2) → va_S A s.heap H locs → H[q9]? = some ce → ce.vm = .none → s.vm.findClass (zEx k) = some ce.cls → vx_W p l e R s m args below meth c H locs (cells + mc) (slots + ms) Q (F0 m pc ls rest) q9)
    (kk : ∀ (r : Int32) (u : U) (H : Heap) (locs : List Loc), post r u → va_P G vwCl (wr ++ wf u) H → va_D A (wr ++ wf u) → va_S A s.heap H locs → W p l e R s m args below meth c H locs (cells + mc) (slots + ms) Q (F0 m (pc + 3) ls (.int r :: rest))) :
    W p l e R s m args below meth c H locs cells slots Q (F0 m pc ls st0) := by
  have hPc := zP_left hP
  have hDc := zD_left hD
  have hF := z_freeG hD hS hA
  have hr := vx_runV (e := e) (below := below) (meth := meth) (locs := locs) S hM cw ⟨z_blindX, va_recv hK hPc hci hb0, fun U hU hW => ⟨rfl, by rw [hU], by rw [hU]; exact hPc, va_K.moved hW.alike hK, hDc.weaken (fun _ _ _ _ => trivial), hN.warm hW, hX.sub hW hU hS hF⟩⟩ (g := F0 m pc ls st0) (rest := rest) rfl hl hsz hst (lv_room hr8) hdg hroom
  refine vx_calli hr hS (fun q _ h => hF q h) hF (fun q _ h => hF q h) (fun E ce q9 u t H1 locs ht hvm hw hB hz1 hk1 hS hce hcv hcl => ?_) (fun r u t H1 locs ht hvm hw hB hz1 hk1 hS => ?_)
  · obtain ⟨⟨k, hk, rfl⟩, hP1, -, hD1⟩ := hB
    subst hw
    rw [ht] at hP1
    obtain ⟨hP, hD⟩ := z_joinG hP hD hk1 hF hP1 hD1
    exact kx k ce q9 H1 locs hk hP hD hS hce hcv hcl
  · obtain ⟨hP1, -, hD1⟩ := hB
    rw [ht] at hP1
    obtain ⟨hP, hD⟩ := z_joinG hP hD hk1 hF hP1 hD1
    exact kk r u H1 locs hw hP hD hS
/-- a call of a method that may throw -/
theorem z_callXl (S : CallFix p m c cc nL s args Ts own) (hK : va_K G vwCl ts s) (hN : zN s) (hX : zX sa A s) (hP : va_P G vwCl (wc ++ wr) H) (hD : va_D A (wc ++ wr)) (hS : va_S A s.heap H locs) (hA : ∀ q, s.heap.size ≤ q → A q)
    {post : Int64 → U → Prop} {RR : (Nat ⊕ V) × U}
    (hM : vx_Met l y wy rm (zPreX G ts sa (.ref b :: As) H.size wc) (va_Ql post (zAt G ts (va_A wc H.size) wf) (va_A wc H.size)) (zXC RR G ts wf (va_A wc H.size)) mc ms (va_A wc H.size)) (cw : CallW R s args own C index y bytes maxL ret wy rm mc ms n)
    {ci : Nat} {fs : List Value} {T : u_T} {N : Nat} (hb0 : wc[0]? = some (b, .inr (ci, fs))) (hci : vwCl[ci]? = some (C, T, N))
    (hl : As.length = n) (hsz : ls.size = nL) (hst : st0 = As.reverse ++ .ref b :: rest) (hr8 : (rest.map fun v => v.category).sum ≤ 8) (hdg : decode cc pc = .ok (.invokevirtual index, 3)) (hroom : cells + mc ≤ R.cells ∧ slots + ms ≤ R.slots)
    (kx : ∀ (k : Nat) (ce : Cell) (q9 : Addr) (H : Heap) (locs : List Loc), RR.1 = .inl k → va_P G vwCl (wr ++ wf RR.2) H → va_D A (wr ++ wf RR.2) → va_S A s.heap H locs → H[q9]? = some ce → ce.vm = .none → s.vm.findClass (zEx k) = some ce.cls → vx_W p l e R s m args below meth c H locs (cells + mc) (slots + ms) Q (F0 m pc ls rest) q9)
    (kk : ∀ (r : Int64) (u : U) (H : Heap) (locs : List Loc), post r u → va_P G vwCl (wr ++ wf u) H → va_D A (wr ++ wf u) → va_S A s.heap H locs → W p l e R s m args below meth c H locs (cells + mc) (slots + ms) Q (F0 m (pc + 3) ls (.long r :: rest))) :
    W p l e R s m args below meth c H locs cells slots Q (F0 m pc ls st0) := by
  have hPc := zP_left hP
  have hDc := zD_left hD
  have hF := z_freeG hD hS hA
  have hr := vx_runV (e := e) (below := below) (meth := meth) (locs := locs) S hM cw ⟨z_blindX, va_recv hK hPc hci hb0, fun U hU hW => ⟨rfl, by rw [hU], by rw [hU]; exact hPc, va_K.moved hW.alike hK, hDc.weaken (fun _ _ _ _ => trivial), hN.warm hW, hX.sub hW hU hS hF⟩⟩ (g := F0 m pc ls st0) (rest := rest) rfl hl hsz hst (lv_room hr8) hdg hroom
  refine vx_calll hr hS (fun q _ h => hF q h) hF (fun q _ h => hF q h) (fun E ce q9 u t H1 locs ht hvm hw hB hz1 hk1 hS hce hcv hcl => ?_) (fun r u t H1 locs ht hvm hw hB hz1 hk1 hS => ?_)
  · obtain ⟨⟨k, hk, rfl⟩, hP1, -, hD1⟩ := hB
    subst hw
    rw [ht] at hP1
    obtain ⟨hP, hD⟩ := z_joinG hP hD hk1 hF hP1 hD1
    exact kx k ce q9 H1 locs hk hP hD hS hce hcv hcl
  · obtain ⟨hP1, -, hD1⟩ := hB
    rw [ht] at hP1
    obtain ⟨hP, hD⟩ := z_joinG hP hD hk1 hF hP1 hD1
    exact kk r u H1 locs hw hP hD hS
/-- a static call of a method with a table -/
theorem z_callW {hh : List (Nat × Nat × Nat × Nat)} (S : CallFix p m c cc nL s args Ts own) (hK : va_K G vwCl ts s) (hN : zN s) (hX : zX sa A s) (hL : zNc s) (hP : va_P G vwCl (wc ++ wr) H) (hD : va_D A (wc ++ wr)) (hS : va_S A s.heap H locs) (hA : ∀ q, s.heap.size ≤ q → A q)
    {post : Int32 → U → Prop}
    (hM : Met l y wy rm (zPreL G ts sa As H.size wc) (va_Qi post (zAt G ts (va_A wc H.size) wf) (va_A wc H.size)) mc ms (va_A wc H.size)) (cw : vx_CSW R s args own index y bytes maxL ret hh wy rm mc ms n)
    (hl : As.length = n) (hsz : ls.size = nL) (hst : st0 = As.reverse ++ rest) (hr8 : (rest.map fun v => v.category).sum ≤ 8) (hdg : decode cc pc = .ok (.invokestatic index, 3)) (hroom : cells + mc ≤ R.cells ∧ slots + ms ≤ R.slots)
    (kk : ∀ (r : Int32) (u : U) (H : Heap) (locs : List Loc), post r u → va_P G vwCl (wr ++ wf u) H → va_D A (wr ++ wf u) → va_S A s.heap H locs → W p l e R s m args below meth c H locs (cells + mc) (slots + ms) Q (F0 m (pc + 3) ls (.int r :: rest))) :
    W p l e R s m args below meth c H locs cells slots Q (F0 m pc ls st0) := by
  have hPc := zP_left hP
  have hDc := zD_left hD
  have hF := z_freeG hD hS hA
  have hr := vx_runSW (e := e) (below := below) (meth := meth) (locs := locs) S hM cw ⟨z_blindL, fun U hU hW => ⟨⟨rfl, by rw [hU], by rw [hU]; exact hPc, va_K.moved hW.alike hK, hDc.weaken (fun _ _ _ _ => trivial), hN.warm hW, hX.sub hW hU hS hF⟩, zNc.moved hW.alike hL⟩⟩ (g := F0 m pc ls st0) (rest := rest) rfl hl hsz hst (lv_room hr8) hdg hroom
  refine va_calli hr hS (fun q _ h => hF q h) hF (fun r u t H1 locs ht hvm hw hB hz1 hk1 hS => ?_)
  obtain ⟨hP1, -, hD1⟩ := hB
  rw [ht] at hP1
  obtain ⟨hP, hD⟩ := z_joinG hP hD hk1 hF hP1 hD1
  exact kk r u H1 locs hw hP hD hS
/-- a call of a method that throws nothing -/
theorem z_callVi (S : CallFix p m c cc nL s args Ts own) (hK : va_K G vwCl ts s) (hN : zN s) (hP : va_P G vwCl (wc ++ wr) H) (hD : va_D A (wc ++ wr)) (hS : va_S A s.heap H locs) (hA : ∀ q, s.heap.size ≤ q → A q)
    {post : Int32 → U → Prop}
    (hM : Met l y wy rm (zPre G ts (.ref b :: As) H.size wc) (va_Qi post (zAt G ts (va_A wc H.size) wf) (va_A wc H.size)) 0 0 (va_A wc H.size)) (cw : CallW R s args own C index y bytes maxL ret wy rm 0 0 n)
    {ci : Nat} {fs : List Value} {T : u_T} {N : Nat} (hb0 : wc[0]? = some (b, .inr (ci, fs))) (hci : vwCl[ci]? = some (C, T, N))
    (hl : As.length = n) (hsz : ls.size = nL) (hst : st0 = As.reverse ++ .ref b :: rest) (hr8 : (rest.map fun v => v.category).sum ≤ 8) (hdg : decode cc pc = .ok (.invokevirtual index, 3)) (hroom : cells ≤ R.cells ∧ slots ≤ R.slots)
    (kk : ∀ (r : Int32) (u : U) (H : Heap) (locs : List Loc), post r u → va_P G vwCl (wr ++ wf u) H → va_D A (wr ++ wf u) → va_S A s.heap H locs → W p l e R s m args below meth c H locs cells slots Q (F0 m (pc + 3) ls (.int r :: rest))) :
    W p l e R s m args below meth c H locs cells slots Q (F0 m pc ls st0) := by
  have hPc := zP_left hP
  have hDc := zD_left hD
  have hF := z_freeG hD hS hA
  have hr := va_runV (e := e) (below := below) (meth := meth) (locs := locs) S hM cw ⟨z_blind, va_recv hK hPc hci hb0, fun U hU hW => ⟨rfl, by rw [hU], by rw [hU]; exact hPc, va_K.moved hW.alike hK, hDc.weaken (fun _ _ _ _ => trivial), hN.warm hW⟩⟩ (g := F0 m pc ls st0) (rest := rest) rfl hl hsz hst (lv_room hr8) hdg hroom
  refine va_calli hr hS (fun q _ h => hF q h) hF (fun r u t H1 locs ht hvm hw hB hz1 hk1 hS => ?_)
  obtain ⟨hP1, -, hD1⟩ := hB
  rw [ht] at hP1
  obtain ⟨hP, hD⟩ := z_joinG hP hD hk1 hF hP1 hD1
  exact kk r u H1 locs hw hP hD hS
/-- a call of a method that throws nothing -/
theorem z_callVl (S : CallFix p m c cc nL s args Ts own) (hK : va_K G vwCl ts s) (hN : zN s) (hP : va_P G vwCl (wc ++ wr) H) (hD : va_D A (wc ++ wr)) (hS : va_S A s.heap H locs) (hA : ∀ q, s.heap.size ≤ q → A q)
    {post : Int64 → U → Prop}
    (hM : Met l y wy rm (zPre G ts (.ref b :: As) H.size wc) (va_Ql post (zAt G ts (va_A wc H.size) wf) (va_A wc H.size)) 0 0 (va_A wc H.size)) (cw : CallW R s args own C index y bytes maxL ret wy rm 0 0 n)
    {ci : Nat} {fs : List Value} {T : u_T} {N : Nat} (hb0 : wc[0]? = some (b, .inr (ci, fs))) (hci : vwCl[ci]? = some (C, T, N))
    (hl : As.length = n) (hsz : ls.size = nL) (hst : st0 = As.reverse ++ .ref b :: rest) (hr8 : (rest.map fun v => v.category).sum ≤ 8) (hdg : decode cc pc = .ok (.invokevirtual index, 3)) (hroom : cells ≤ R.cells ∧ slots ≤ R.slots)
    (kk : ∀ (r : Int64) (u : U) (H : Heap) (locs : List Loc), post r u → va_P G vwCl (wr ++ wf u) H → va_D A (wr ++ wf u) → va_S A s.heap H locs → W p l e R s m args below meth c H locs cells slots Q (F0 m (pc + 3) ls (.long r :: rest))) :
    W p l e R s m args below meth c H locs cells slots Q (F0 m pc ls st0) := by
  have hPc := zP_left hP
  have hDc := zD_left hD
  have hF := z_freeG hD hS hA
  have hr := va_runV (e := e) (below := below) (meth := meth) (locs := locs) S hM cw ⟨z_blind, va_recv hK hPc hci hb0, fun U hU hW => ⟨rfl, by rw [hU], by rw [hU]; exact hPc, va_K.moved hW.alike hK, hDc.weaken (fun _ _ _ _ => trivial), hN.warm hW⟩⟩ (g := F0 m pc ls st0) (rest := rest) rfl hl hsz hst (lv_room hr8) hdg hroom
  refine va_calll hr hS (fun q _ h => hF q h) hF (fun r u t H1 locs ht hvm hw hB hz1 hk1 hS => ?_)
  obtain ⟨hP1, -, hD1⟩ := hB
  rw [ht] at hP1
  obtain ⟨hP, hD⟩ := z_joinG hP hD hk1 hF hP1 hD1
  exact kk r u H1 locs hw hP hD hS
/-- a call of a method that throws nothing -/
theorem z_callVf (S : CallFix p m c cc nL s args Ts own) (hK : va_K G vwCl ts s) (hN : zN s) (hP : va_P G vwCl (wc ++ wr) H) (hD : va_D A (wc ++ wr)) (hS : va_S A s.heap H locs) (hA : ∀ q, s.heap.size ≤ q → A q)
    {post : UInt32 → U → Prop}
    (hM : Met l y wy rm (zPre G ts (.ref b :: As) H.size wc) (va_Qf post (zAt G ts (va_A wc H.size) wf) (va_A wc H.size)) 0 0 (va_A wc H.size)) (cw : CallW R s args own C index y bytes maxL ret wy rm 0 0 n)
    {ci : Nat} {fs : List Value} {T : u_T} {N : Nat} (hb0 : wc[0]? = some (b, .inr (ci, fs))) (hci : vwCl[ci]? = some (C, T, N))
    (hl : As.length = n) (hsz : ls.size = nL) (hst : st0 = As.reverse ++ .ref b :: rest) (hr8 : (rest.map fun v => v.category).sum ≤ 8) (hdg : decode cc pc = .ok (.invokevirtual index, 3)) (hroom : cells ≤ R.cells ∧ slots ≤ R.slots)
    (kk : ∀ (r : UInt32) (u : U) (H : Heap) (locs : List Loc), post r u → va_P G vwCl (wr ++ wf u) H → va_D A (wr ++ wf u) → va_S A s.heap H locs → W p l e R s m args below meth c H locs cells slots Q (F0 m (pc + 3) ls (.float r :: rest))) :
    W p l e R s m args below meth c H locs cells slots Q (F0 m pc ls st0) := by
  have hPc := zP_left hP
  have hDc := zD_left hD
  have hF := z_freeG hD hS hA
  have hr := va_runV (e := e) (below := below) (meth := meth) (locs := locs) S hM cw ⟨z_blind, va_recv hK hPc hci hb0, fun U hU hW => ⟨rfl, by rw [hU], by rw [hU]; exact hPc, va_K.moved hW.alike hK, hDc.weaken (fun _ _ _ _ => trivial), hN.warm hW⟩⟩ (g := F0 m pc ls st0) (rest := rest) rfl hl hsz hst (lv_room hr8) hdg hroom
  refine va_callf hr hS (fun q _ h => hF q h) hF (fun r u t H1 locs ht hvm hw hB hz1 hk1 hS => ?_)
  obtain ⟨hP1, -, hD1⟩ := hB
  rw [ht] at hP1
  obtain ⟨hP, hD⟩ := z_joinG hP hD hk1 hF hP1 hD1
  exact kk r u H1 locs hw hP hD hS
/-- a call of a method that throws nothing -/
theorem z_callVd (S : CallFix p m c cc nL s args Ts own) (hK : va_K G vwCl ts s) (hN : zN s) (hP : va_P G vwCl (wc ++ wr) H) (hD : va_D A (wc ++ wr)) (hS : va_S A s.heap H locs) (hA : ∀ q, s.heap.size ≤ q → A q)
    {post : UInt64 → U → Prop}
    (hM : Met l y wy rm (zPre G ts (.ref b :: As) H.size wc) (va_Qd post (zAt G ts (va_A wc H.size) wf) (va_A wc H.size)) 0 0 (va_A wc H.size)) (cw : CallW R s args own C index y bytes maxL ret wy rm 0 0 n)
    {ci : Nat} {fs : List Value} {T : u_T} {N : Nat} (hb0 : wc[0]? = some (b, .inr (ci, fs))) (hci : vwCl[ci]? = some (C, T, N))
    (hl : As.length = n) (hsz : ls.size = nL) (hst : st0 = As.reverse ++ .ref b :: rest) (hr8 : (rest.map fun v => v.category).sum ≤ 8) (hdg : decode cc pc = .ok (.invokevirtual index, 3)) (hroom : cells ≤ R.cells ∧ slots ≤ R.slots)
    (kk : ∀ (r : UInt64) (u : U) (H : Heap) (locs : List Loc), post r u → va_P G vwCl (wr ++ wf u) H → va_D A (wr ++ wf u) → va_S A s.heap H locs → W p l e R s m args below meth c H locs cells slots Q (F0 m (pc + 3) ls (.double r :: rest))) :
    W p l e R s m args below meth c H locs cells slots Q (F0 m pc ls st0) := by
  have hPc := zP_left hP
  have hDc := zD_left hD
  have hF := z_freeG hD hS hA
  have hr := va_runV (e := e) (below := below) (meth := meth) (locs := locs) S hM cw ⟨z_blind, va_recv hK hPc hci hb0, fun U hU hW => ⟨rfl, by rw [hU], by rw [hU]; exact hPc, va_K.moved hW.alike hK, hDc.weaken (fun _ _ _ _ => trivial), hN.warm hW⟩⟩ (g := F0 m pc ls st0) (rest := rest) rfl hl hsz hst (lv_room hr8) hdg hroom
  refine va_calld hr hS (fun q _ h => hF q h) hF (fun r u t H1 locs ht hvm hw hB hz1 hk1 hS => ?_)
  obtain ⟨hP1, -, hD1⟩ := hB
  rw [ht] at hP1
  obtain ⟨hP, hD⟩ := z_joinG hP hD hk1 hF hP1 hD1
  exact kk r u H1 locs hw hP hD hS
end ZLW
/-- the answer's row, and what a call's answer makes of it -/
def zoc (tt : Nat → ClassId) (vo : Nat → Int64) : va_E := .inl (tt 1, 1, .inr (.inl vo))
def zout {V : Type} (cv : V → Int64) (vo : Nat → Int64) (e : Nat ⊕ V) : Nat → Int64 := e.elim (fun _ => vo) (fun v => vp_updL vo 0 (cv v))
def zbL (b : Bool) : Int64 := if b = true then 1 else 0
