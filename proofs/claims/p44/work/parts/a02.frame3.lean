/-! methods that throw: their start, their end, their calls -/
/-- the classes that are thrown: the link to the class, to its constructor, its name -/
def vXC : List (Nat × Nat × String) := [(238, 242, "java/lang/IndexOutOfBoundsException"), (97, 101, "java/lang/IllegalArgumentException"), (107, 111, "java/lang/IllegalStateException")]
def vXN : List String := ["java/lang/RuntimeException", "java/lang/Exception"]
def zEx : Nat → String := fun k => match k with
  | 0 => "java/lang/IndexOutOfBoundsException"
  | 1 => "java/lang/IllegalArgumentException"
  | 2 => "java/lang/IllegalStateException"
  | _ => "java/util/NoSuchElementException"
/-- the texts -/
def vXS : List (Nat × String) := [(99, "a table has 1 to 3 columns"), (109, "there are 5 tables"), (129, "it is a fact"), (135, "the table has 60 facts"), (139, "it is no fact"), (153, "the query has 5 atoms"), (171, "the digits of an order are 0, 1, 2 and 3, each once"), (203, "there are 5 rules"), (208, "the rule has 4 atoms"), (217, "there would be no layers"), (240, "no such row"), (109, "there are 5 tables"), (109, "there are 5 tables"), (109, "there are 5 tables"), (274, "no such answer"), (291, "values are 0 to 7"), (299, "all answers are less"), (354, "no such table"), (356, "no such column"), (358, "no such query"), (360, "no such atom"), (362, "no such variable"), (368, "the variable does not stand in the query"), (370, "no such rule"), (376, "the row is not as told"), (378, "the variables are not as told")]
/-- the words of the class whose constructor has a place of its own -/
def six13 : ByteArray := ⟨#[0x2a, 0x2b, 0xb7, 0x00, 0x0d, 0xb1]⟩
def zXN0 : List Cond := Bundle.throwableAtoms ++ Bundle.throwableSAtoms ++ Bundle.passSAtoms (zEx 3) "java/lang/RuntimeException" 13 six13 ++ Bundle.chainSAtoms "java/lang/RuntimeException" ["java/lang/Exception"] ++
  [.methodLink RX11 141 (Bundle.initS (zEx 3)), .instantiable (zEx 3) 6, .castable (zEx 3) (zEx 3), .selects (zEx 3) Bundle.tFill0 Bundle.tFill0, .selects (zEx 3) Bundle.tFill Bundle.tFill,
   .lays (zEx 3) Bundle.tN "cause" "Ljava/lang/Throwable;", .lays (zEx 3) Bundle.tN "stackTrace" Bundle.steD, .lays (zEx 3) Bundle.tN "suppressedExceptions" Bundle.listD, .lays (zEx 3) Bundle.tN "detailMessage" "Ljava/lang/String;",
   .fieldLink Bundle.tN 198 Bundle.tN "backtrace" "Ljava/lang/Object;", .lays Bundle.tN Bundle.tN "backtrace" "Ljava/lang/Object;", .lays (zEx 3) Bundle.tN "backtrace" "Ljava/lang/Object;"]
/-- the words of a throw of it, but those that the heap says -/
def vXNS : List Cond := Cond.classLink RX11 137 (zEx 3) :: Cond.initialized (zEx 3) :: zXN0.filter vx_no
def zX (sa : Nat → Nat) (A : Nat → Prop) (U : State) : Prop :=
  (∀ U' : State, U.WarmedH U'.vm → (∀ q ∈ vXC, ∀ w ∈ Cond.classLink RX11 q.1 q.2.2 :: Cond.initialized q.2.2 :: vx_atS RX11 q.2.1 q.2.2 vXN, ∀ a : Array Value, w.before a U' = true) ∧ (∀ q ∈ vXS, vk_R RX11 q.1 q.2 (sa q.1) U') ∧ ∀ w ∈ vXNS, ∀ a : Array Value, w.before a U' = true) ∧
  vx_Zq Bundle.tN "UNASSIGNED_STACK" Bundle.steD A U U.heap ∧ vx_Zq Bundle.tN "SUPPRESSED_SENTINEL" Bundle.listD A U U.heap
theorem zX.same {sa : Nat → Nat} {A : Nat → Prop} {u U : State} (e : U.vm = u.vm) (eh : U.heap = u.heap) (h : zX sa A u) : zX sa A U := by
  have hW : u.WarmedH U.vm := by rw [e]; exact State.WarmedH.refl u
  refine ⟨fun U' hU => h.1 U' (State.WarmedH.trans hW hU), ?_, ?_⟩
  · rw [eh]; exact vx_Zq.moved hW.alike h.2.1
  · rw [eh]; exact vx_Zq.moved hW.alike h.2.2
theorem zX.sub {sa : Nat → Nat} {A B : Nat → Prop} {s U : State} {H : Heap} {locs : List Loc} (h : zX sa A s) (hW : s.WarmedH U.vm) (hU : U.heap = H) (hS : va_S A s.heap H locs) (hB : ∀ q, B q → A q) : zX sa B U := by
  refine ⟨fun U' hU => h.1 U' (State.WarmedH.trans hW hU), ?_, ?_⟩
  · rw [hU]; exact (vx_Zq.moved hW.alike (h.2.1.kept hS.2.1)).narrow hB
  · rw [hU]; exact (vx_Zq.moved hW.alike (h.2.2.kept hS.2.1)).narrow hB
def zPreX (G : va_G) (ts : List (ClassId × FieldType)) (sa : Nat → Nat) (as : List Value) (sz : Nat) (ws : va_W) : Array Value → State → Prop :=
  va_Pc as (fun U => U.heap.size = sz ∧ va_P G vwCl ws U.heap ∧ va_K G vwCl ts U ∧ va_D (fun _ => True) ws ∧ zN U ∧ zX sa (va_A ws sz) U)
theorem z_blindX {G : va_G} {ts : List (ClassId × FieldType)} {sa : Nat → Nat} {as : List Value} {sz : Nat} {ws : va_W} : FrameBlind (zPreX G ts sa as sz ws) := fun a U g mk q => by
  obtain ⟨q0, q1, qP, qK, qD, qN, qX⟩ := q
  exact ⟨q0, q1, qP, va_K.moved (u := U) (U := U.calling g mk a) (Vm.Alike.refl U.vm) qK, qD, qN.same rfl, qX.same rfl rfl⟩
theorem z_elim1 {α β γ : Type} {f : α → Option γ} {g : β → Option γ} {x : α ⊕ β} {k : α} {r : γ} (e : x = .inl k) (h : Sum.elim f g x = some r) : f k = some r := by rw [e] at h; exact h
theorem z_elim2 {α β γ : Type} {f : α → Option γ} {g : β → Option γ} {x : α ⊕ β} {k : β} {r : γ} (e : x = .inr k) (h : Sum.elim f g x = some r) : g k = some r := by rw [e] at h; exact h
theorem z_grow {G : va_G} {ws : va_W} {H H1 : Heap} (hP : va_P G vwCl ws H) (h : ∀ q : Nat, q < H.size → H1[q]? = H[q]?) : va_P G vwCl ws H1 := by
  refine hP.kept fun k q hk => h _ ?_
  have h1 := hP k q hk
  unfold va_at at h1
  split at h1
  · exact (Array.getElem?_eq_some_iff.mp h1).1
  · obtain ⟨r, -, cell, h2, -⟩ := h1
    exact (Array.getElem?_eq_some_iff.mp h2).1
theorem vXgood : ∀ q ∈ vXC, ∀ w ∈ Cond.classLink RX11 q.1 q.2.2 :: Cond.initialized q.2.2 :: vx_atS RX11 q.2.1 q.2.2 vXN, vx_ot w = true := by decide +kernel
theorem vXfit : ∀ q ∈ vXC, Bundle.fit q.2.2 = true := by decide +kernel
section ZX
variable {p : Program} {l : Launch} {e : Env} {R : Room} {s : State} {m : MethodId} {args : Array Value} {below : List Frame} {meth : Method} {c : Code} {H : Heap} {locs : List Loc} {cells slots : Nat} {Q : State → Prop}
variable {cc bytes : ByteArray} {nL maxL n index pc mc ms : Nat} {ret : Option FieldType} {wy : List Cond} {rm : Room} {Ts : List Cond} {own C : String} {y : MethodName} {b : Addr} {As rest st0 : List Value} {ls : Array Slot}
variable {G : va_G} {ts : List (ClassId × FieldType)} {A : Nat → Prop} {H0 : Heap} {ws wc wr : va_W} {U : Type} {wf : U → va_W} {sa : Nat → Nat}
theorem z_widen {g : JFrame} {k n : Nat} (h1 : cells ≤ k) (h2 : slots ≤ n) (kk : W p l e R s m args below meth c H locs k n Q g) : W p l e R s m args below meth c H locs cells slots Q g := fun T hT X => kk T hT (stand_widen X h1 h2)
/-- a world thrown from: what the contract says of it -/
def zXC {U V : Type} (RR : (Nat ⊕ V) × U) (G : va_G) (ts : List (ClassId × FieldType)) (wf : U → va_W) (A : Nat → Prop) : String → State → State → Prop :=
  vx_X (fun u : U => u = RR.2) (fun E u t => (∃ k, RR.1 = .inl k ∧ E = zEx k) ∧ zAt G ts A wf u t) A
theorem z_goX (S : CallFix p m c cc nL s args Ts own) (hK : va_K G vwCl ts s) (hN : zN s) (hX : zX sa A s) (hP : va_P G vwCl ws H) (hD : va_D A ws) (hS : va_S A s.heap H locs) (hA : ∀ q, s.heap.size ≤ q → A q)
    {Qc : Array Value → State → Outcome → State → Prop} {XC : String → State → State → Prop} {free : Addr → Prop}
    (hM : vx_Met l y wy rm (zPreX G ts sa (.ref b :: As) H.size wc) Qc XC mc ms free) (cw : CallW R s args own C index y bytes maxL ret wy rm mc ms n)
    (isC : List Nat) (hC : isC.map (fun i => ws[i]?) = wc.map some) (hn : va_nd isC = true) {ci : Nat} {fs : List Value} {T : u_T} {N : Nat} (hb0 : wc[0]? = some (b, .inr (ci, fs))) (hci : vwCl[ci]? = some (C, T, N))
    (hl : As.length = n) (hsz : ls.size = nL) (hst : st0 = As.reverse ++ .ref b :: rest) (hr8 : (rest.map fun v => v.category).sum ≤ 8) (hdg : decode cc pc = .ok (.invokevirtual index, 3)) (hroom : cells + mc ≤ R.cells ∧ slots + ms ≤ R.slots) :
    vx_Run p l e R s m args below meth c H locs cells slots mc ms (F0 m pc ls st0) rest (Qc (Value.ref b :: As).toArray) XC free := by
  have hPc := hP.sub isC (z_pick hC)
  have hDc := hD.sub isC hn hC
  have hF := va_free (wc := wc) hD hS hA isC hC
  exact vx_runV S hM cw ⟨z_blindX, va_recv hK hPc hci hb0, fun U hU hW => ⟨rfl, by rw [hU], by rw [hU]; exact hPc, va_K.moved hW.alike hK, hDc.weaken (fun _ _ _ _ => trivial), hN.warm hW, hX.sub hW hU hS hF⟩⟩ rfl hl hsz hst (lv_room hr8) hdg hroom
theorem z_backXi {V : Type} {q : (Nat ⊕ V) × U} {post : Int32 → U → Prop} {a : Array Value} (hr : vx_Run p l e R s m args below meth c H locs cells slots mc ms (F0 m pc ls st0) rest (va_Qi post (zAt G ts (va_A wc H.size) wf) (va_A wc H.size) a) (zXC q G ts wf (va_A wc H.size)) (va_A wc H.size))
    (hP : va_P G vwCl ws H) (hD : va_D A ws) (hS : va_S A H0 H locs) (hA : ∀ q, H0.size ≤ q → A q)
    (isC isR : List Nat) (hC : isC.map (fun i => ws[i]?) = wc.map some) (hR : isR.map (fun i => ws[i]?) = wr.map some) (hn : va_nd isR = true) (hdis : (isR.all fun i => !(isC.contains i)) = true)
    (kx : ∀ (k : Nat) (ce : Cell) (q9 : Addr) (u : U) (H : Heap) (locs : List Loc), u = q.2 → q.1 = .inl k → va_P G vwCl (wr ++ wf u) H → va_D A (wr ++ wf u) → va_S A H0 H locs → H[q9]? = some ce → ce.vm = .none → s.vm.findClass (zEx k) = some ce.cls → vx_W p l e R s m args below meth c H locs (cells + mc) (slots + ms) Q (F0 m pc ls rest) q9)
    (kk : ∀ (r : Int32) (u : U) (H : Heap) (locs : List Loc), post r u → va_P G vwCl (wr ++ wf u) H → va_D A (wr ++ wf u) → va_S A H0 H locs → W p l e R s m args below meth c H locs (cells + mc) (slots + ms) Q (F0 m (pc + 3) ls (.int r :: rest))) :
    W p l e R s m args below meth c H locs cells slots Q (F0 m pc ls st0) := by
  have hF := va_free (wc := wc) hD hS hA isC hC
  refine vx_calli hr hS (fun q _ h => hF q h) hF (fun q _ h => hF q h) (fun E ce q9 u t H1 locs ht hvm hw hB hz1 hk1 hS hce hcv hcl => ?_) (fun r u t H1 locs ht hvm hw hB hz1 hk1 hS => ?_)
  · obtain ⟨⟨k, hk, rfl⟩, hP1, -, hD1⟩ := hB
    rw [ht] at hP1
    obtain ⟨hP, hD⟩ := z_join hP hD isC isR hC hR hn hdis hk1 hF hP1 hD1
    exact kx k ce q9 u H1 locs hw hk hP hD hS hce hcv hcl
  · obtain ⟨hP1, -, hD1⟩ := hB
    rw [ht] at hP1
    obtain ⟨hP, hD⟩ := z_join hP hD isC isR hC hR hn hdis hk1 hF hP1 hD1
    exact kk r u H1 locs hw hP hD hS
theorem z_backXv {V : Type} {q : (Nat ⊕ V) × U} {post : U → Prop} {a : Array Value} (hr : vx_Run p l e R s m args below meth c H locs cells slots mc ms (F0 m pc ls st0) rest (va_Qv post (zAt G ts (va_A wc H.size) wf) (va_A wc H.size) a) (zXC q G ts wf (va_A wc H.size)) (va_A wc H.size))
    (hP : va_P G vwCl ws H) (hD : va_D A ws) (hS : va_S A H0 H locs) (hA : ∀ q, H0.size ≤ q → A q)
    (isC isR : List Nat) (hC : isC.map (fun i => ws[i]?) = wc.map some) (hR : isR.map (fun i => ws[i]?) = wr.map some) (hn : va_nd isR = true) (hdis : (isR.all fun i => !(isC.contains i)) = true)
    (kx : ∀ (k : Nat) (ce : Cell) (q9 : Addr) (u : U) (H : Heap) (locs : List Loc), u = q.2 → q.1 = .inl k → va_P G vwCl (wr ++ wf u) H → va_D A (wr ++ wf u) → va_S A H0 H locs → H[q9]? = some ce → ce.vm = .none → s.vm.findClass (zEx k) = some ce.cls → vx_W p l e R s m args below meth c H locs (cells + mc) (slots + ms) Q (F0 m pc ls rest) q9)
    (kk : ∀ (u : U) (H : Heap) (locs : List Loc), post u → va_P G vwCl (wr ++ wf u) H → va_D A (wr ++ wf u) → va_S A H0 H locs → W p l e R s m args below meth c H locs (cells + mc) (slots + ms) Q (F0 m (pc + 3) ls rest)) :
    W p l e R s m args below meth c H locs cells slots Q (F0 m pc ls st0) := by
  have hF := va_free (wc := wc) hD hS hA isC hC
  refine vx_callv hr hS (fun q _ h => hF q h) hF (fun q _ h => hF q h) (fun E ce q9 u t H1 locs ht hvm hw hB hz1 hk1 hS hce hcv hcl => ?_) (fun u t H1 locs ht hvm hw hB hz1 hk1 hS => ?_)
  · obtain ⟨⟨k, hk, rfl⟩, hP1, -, hD1⟩ := hB
    rw [ht] at hP1
    obtain ⟨hP, hD⟩ := z_join hP hD isC isR hC hR hn hdis hk1 hF hP1 hD1
    exact kx k ce q9 u H1 locs hw hk hP hD hS hce hcv hcl
  · obtain ⟨hP1, -, hD1⟩ := hB
    rw [ht] at hP1
    obtain ⟨hP, hD⟩ := z_join hP hD isC isR hC hR hn hdis hk1 hF hP1 hD1
    exact kk u H1 locs hw hP hD hS
/-- an exception that goes on to the caller -/
theorem z_out {V : Type} {RR : (Nat ⊕ V) × U} {Qc : Array Value → State → Outcome → State → Prop} {k : Nat} {ce : Cell} {q : Addr} {u : U} (ht : ∀ x ∈ c.exceptionTable.toList, False) (hlocks : meth.locks = false) (hce : H[q]? = some ce) (hv : ce.vm = .none) (hcl : s.vm.findClass (zEx k) = some ce.cls)
    (hu : u = RR.2) (hk : RR.1 = .inl k) (hP : va_P G vwCl (wf u) H) (hD : va_D A (wf u)) (hK : va_K G vwCl ts s) (hS : va_S A s.heap H locs) (hc : cells ≤ mc) (hs : slots ≤ ms) :
    vx_W p l e R s m args below meth c H locs cells slots (vx_MQ below Qc (zXC RR G ts wf A) args s mc ms A) (F0 m pc ls rest) q :=
  vx_out (fun x hx => (ht x hx).elim) hlocks hce hv hcl (fun t hT hal => ⟨u, hu, ⟨⟨k, hk, rfl⟩, by rw [hT]; exact hP, va_K.moved hal hK, hD⟩, hS.F hT⟩) hS.2.2 hc hs
theorem zX_at {sa : Nat → Nat} (hX : zX sa A s) (q : Nat × Nat × String) (hq : q ∈ vXC) : ∀ w ∈ Cond.classLink RX11 q.1 q.2.2 :: Cond.initialized q.2.2 :: vx_atS RX11 q.2.1 q.2.2 vXN, w.before args s = true := fun w hw => (hX.1 s (State.WarmedH.refl s)).1 q hq w hw args
/-- what a throw leaves -/
theorem z_left {V : Type} {RR : (Nat ⊕ V) × U} {k : Nat} {u : U} (hu : u = RR.2) (hk : RR.1 = .inl k) (hP : va_P G vwCl (wf u) H) (hD : va_D A (wf u)) (hK : va_K G vwCl ts s) (hS : va_S A s.heap H locs) (t : State) (hal : s.vm.Alike t.vm) (hz : H.size ≤ t.heap.size) (hq : ∀ q : Nat, q < H.size → t.heap[q]? = H[q]?) : zXC RR G ts wf A (zEx k) s t :=
  ⟨u, hu, ⟨⟨k, hk, rfl⟩, z_grow hP hq, va_K.moved hal hK, hD⟩, ⟨Nat.le_trans hS.1 hz, fun q hq1 hA => by rw [hq q (Nat.lt_of_lt_of_le hq1 hS.1)]; exact hS.2.1 q hq1 hA⟩⟩
theorem z_thr {V : Type} {RR : (Nat ⊕ V) × U} {Qc : Array Value → State → Outcome → State → Prop} {k is ik ic : Nat} {text : String} {u : U} (hexec : p.tables.exec = Jvm.exec) (hb : c.code = cc) (hl : l.stackTraces = false) (hown : s.vm.findClass RX11 = some m.cls) (hX : zX sa A s) (hq : (ik, ic, zEx k) ∈ vXC) (hr : (is, text) ∈ vXS)
    (hu : u = RR.2) (hk : RR.1 = .inl k) (hP : va_P G vwCl (wf u) H) (hD : va_D A (wf u)) (hK : va_K G vwCl ts s) (hS : va_S A s.heap H locs) (hsize : ls.size = c.maxLocals) (ht : ∀ x ∈ c.exceptionTable.toList, False)
    (d0 : decode cc pc = .ok (.new ik, 3)) (d3 : decode cc (pc + 3) = .ok (.dup, 1)) (d4 : decode cc (pc + 4) = .ok (.ldc is, 2)) (d6 : decode cc (pc + 6) = .ok (.invokespecial ic, 3)) (d9 : decode cc (pc + 9) = .ok (.athrow, 1))
    (hRframes : vXN.length + 3 < R.frames) (hRlocals : (rest.map fun v => v.category).sum + (13 * (vXN.length + 1) + 43) ≤ R.locals) (hRcells : cells + 1 ≤ R.cells) (hRslots : slots + 6 ≤ R.slots) (hlocks : meth.locks = false) (hc : cells + 1 ≤ mc) (hs : slots + 6 ≤ ms) :
    W p l e R s m args below meth c H locs cells slots (vx_MQ below Qc (zXC RR G ts wf A) args s mc ms A) (F0 m pc ls rest) :=
  vx_throwS hexec hb hl hown (vXfit _ hq) (by decide +kernel) (zX_at hX _ hq _ List.mem_cons_self) (zX_at hX _ hq _ (List.mem_cons_of_mem _ List.mem_cons_self)) ((hX.1 s (State.WarmedH.refl s)).2.1 _ hr) (fun w hw => zX_at hX _ hq _ (List.mem_cons_of_mem _ (List.mem_cons_of_mem _ hw))) (vXgood _ hq) hX.2.1 hX.2.2 hS hsize d0 d3 d4 d6 d9
    (fun x hx => (ht x hx).elim) hRframes hRlocals hRcells hRslots hlocks (z_left hu hk hP hD hK hS) hS.2.2 hc hs
theorem z_thrW {V : Type} {RR : (Nat ⊕ V) × U} {Qc : Array Value → State → Outcome → State → Prop} {k is ik ic : Nat} {text : String} {u : U} (hexec : p.tables.exec = Jvm.exec) (hb : c.code = cc) (hl : l.stackTraces = false) (hown : s.vm.findClass RX11 = some m.cls) (hX : zX sa A s) (hq : (ik, ic, zEx k) ∈ vXC) (hr : (is, text) ∈ vXS)
    (hu : u = RR.2) (hk : RR.1 = .inl k) (hP : va_P G vwCl (wf u) H) (hD : va_D A (wf u)) (hK : va_K G vwCl ts s) (hS : va_S A s.heap H locs) (hsize : ls.size = c.maxLocals) (ht : ∀ x ∈ c.exceptionTable.toList, False)
    (d0 : decode cc pc = .ok (.new ik, 3)) (d3 : decode cc (pc + 3) = .ok (.dup, 1)) (d4 : decode cc (pc + 4) = .ok (.ldc_w is, 3)) (d7 : decode cc (pc + 7) = .ok (.invokespecial ic, 3)) (d10 : decode cc (pc + 10) = .ok (.athrow, 1))
    (hRframes : vXN.length + 3 < R.frames) (hRlocals : (rest.map fun v => v.category).sum + (13 * (vXN.length + 1) + 43) ≤ R.locals) (hRcells : cells + 1 ≤ R.cells) (hRslots : slots + 6 ≤ R.slots) (hlocks : meth.locks = false) (hc : cells + 1 ≤ mc) (hs : slots + 6 ≤ ms) :
    W p l e R s m args below meth c H locs cells slots (vx_MQ below Qc (zXC RR G ts wf A) args s mc ms A) (F0 m pc ls rest) :=
  vx_throwSW hexec hb hl hown (vXfit _ hq) (by decide +kernel) (zX_at hX _ hq _ List.mem_cons_self) (zX_at hX _ hq _ (List.mem_cons_of_mem _ List.mem_cons_self)) ((hX.1 s (State.WarmedH.refl s)).2.1 _ hr) (fun w hw => zX_at hX _ hq _ (List.mem_cons_of_mem _ (List.mem_cons_of_mem _ hw))) (vXgood _ hq) hX.2.1 hX.2.2 hS hsize d0 d3 d4 d7 d10
    (fun x hx => (ht x hx).elim) hRframes hRlocals hRcells hRslots hlocks (z_left hu hk hP hD hK hS) hS.2.2 hc hs
end ZX
