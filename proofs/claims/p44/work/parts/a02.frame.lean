/-! The start and the end of every method that makes nothing and throws nothing, and its calls, in one row each. -/
/-- the links of one class of the file to a private piece of another -/
def vNF : List (String × Nat × String × String × String × String) := [("LeapTables", 104, "LeapTables$State", "tableTotal", "I", "LeapTables"), ("LeapTables", 151, "LeapTables$AtomList", "size", "I", "LeapTables"), ("LeapTables", 155, "LeapTables$State", "widths", "LLeapTables$Ints;", "LeapTables"), ("LeapTables", 173, "LeapTables$State", "orders", "LLeapTables$Ints;", "LeapTables"), ("LeapTables", 200, "LeapTables$State", "ruleTotal", "I", "LeapTables"), ("LeapTables", 222, "LeapTables$History", "kept", "I", "LeapTables"), ("LeapTables", 228, "LeapTables$Growth", "rows", "LLeapTables$Rows;", "LeapTables"), ("LeapTables", 268, "LeapTables$Answers", "total", "I", "LeapTables"), ("LeapTables", 282, "LeapTables$Answers", "picked", "I", "LeapTables"), ("LeapTables", 301, "LeapTables$Answers", "search", "LLeapTables$Search;", "LeapTables"), ("LeapTables", 305, "LeapTables$Search", "leapTotal", "I", "LeapTables"), ("LeapTables", 321, "LeapTables$Cover", "leastHalves", "I", "LeapTables"), ("LeapTables", 324, "LeapTables$Cover", "leastProduct", "J", "LeapTables"), ("LeapTables", 331, "LeapTables$Growth", "layers", "LLeapTables$Ints;", "LeapTables"), ("LeapTables", 331, "LeapTables$Growth", "layers", "LLeapTables$Ints;", "LeapTables"), ("LeapTables", 331, "LeapTables$Growth", "layers", "LLeapTables$Ints;", "LeapTables"), ("LeapTables", 66, "LeapTables$State", "facts", "LLeapTables$Rows;", "LeapTables"), ("LeapTables$Answers", 40, "LeapTables$Search", "key", "I", "LeapTables"), ("LeapTables$Answers", 50, "LeapTables$Search", "variableTotal", "I", "LeapTables"), ("LeapTables$Answers", 53, "LeapTables$Search", "sequence", "LLeapTables$Ints;", "LeapTables"), ("LeapTables$Cover", 20, "LeapTables$AtomList", "size", "I", "LeapTables"), ("LeapTables$Growth", 124, "LeapTables$Search", "chosen", "I", "LeapTables"), ("LeapTables$Growth", 138, "LeapTables$AtomList", "size", "I", "LeapTables"), ("LeapTables$Growth", 54, "LeapTables$State", "facts", "LLeapTables$Rows;", "LeapTables"), ("LeapTables$Growth", 75, "LeapTables$State", "ruleTotal", "I", "LeapTables"), ("LeapTables$Growth", 97, "LeapTables$State", "heads", "LLeapTables$Ints;", "LeapTables"), ("LeapTables$Search", 45, "LeapTables$AtomList", "size", "I", "LeapTables"), ("LeapTables$Tree", 20, "LeapTables$AtomList", "size", "I", "LeapTables")]
def vNM : List (String × Nat × MethodName × String) := [("LeapTables", 25, ⟨"LeapTables$Growth", "<init>", "()V"⟩, "LeapTables"), ("LeapTables", 32, ⟨"LeapTables$Answers", "<init>", "()V"⟩, "LeapTables"), ("LeapTables", 39, ⟨"LeapTables$Cover", "<init>", "()V"⟩, "LeapTables"), ("LeapTables", 46, ⟨"LeapTables$Tree", "<init>", "()V"⟩, "LeapTables"), ("LeapTables", 53, ⟨"LeapTables$Rows", "<init>", "()V"⟩, "LeapTables"), ("LeapTables$Answers", 11, ⟨"LeapTables$Search", "<init>", "()V"⟩, "LeapTables"), ("LeapTables$Atom", 27, ⟨"LeapTables", "valueIn", "(II)I"⟩, "LeapTables"), ("LeapTables$Growth", 11, ⟨"LeapTables$Search", "<init>", "()V"⟩, "LeapTables"), ("LeapTables$Growth", 20, ⟨"LeapTables$Rows", "<init>", "()V"⟩, "LeapTables"), ("LeapTables$Search", 11, ⟨"LeapTables$AtomList", "<init>", "()V"⟩, "LeapTables"), ("LeapTables$Search", 69, ⟨"LeapTables", "digitOf", "(II)I"⟩, "LeapTables"), ("LeapTables$State", 22, ⟨"LeapTables$Rows", "<init>", "()V"⟩, "LeapTables"), ("LeapTables$State", 42, ⟨"LeapTables$AtomList", "<init>", "()V"⟩, "LeapTables"), ("LeapTablesLaw", 212, ⟨"LeapTablesLaw$Told", "<init>", "()V"⟩, "LeapTablesLaw")]
def zN (U : State) : Prop := (∀ q ∈ vNF, va_Nw (.fieldLinkNest q.1 q.2.1 q.2.2.1 q.2.2.2.1 q.2.2.2.2.1 q.2.2.2.2.2) U) ∧ ∀ q ∈ vNM, va_Nw (.methodLinkNest q.1 q.2.1 q.2.2.1 q.2.2.2) U
theorem zN.warm {s U : State} (hW : s.WarmedH U.vm) (h : zN s) : zN U := ⟨fun q hq => va_Nw.warmF hW (h.1 q hq), fun q hq => va_Nw.warmM hW (h.2 q hq)⟩
theorem zN.same {u U : State} (e : u.vm = U.vm) (h : zN u) : zN U := ⟨fun q hq => va_Nw.same rfl e (h.1 q hq), fun q hq => va_Nw.same rfl e (h.2 q hq)⟩
/-- a method's start: its arguments, its cells, the tables -/
def zPre (G : va_G) (ts : List (ClassId × FieldType)) (as : List Value) (sz : Nat) (ws : va_W) : Array Value → State → Prop :=
  va_Pc as (fun U => U.heap.size = sz ∧ va_P G vwCl ws U.heap ∧ va_K G vwCl ts U ∧ va_D (fun _ => True) ws ∧ zN U)
/-- a method's end: its cells -/
def zAt (G : va_G) (ts : List (ClassId × FieldType)) (A : Nat → Prop) {S : Type} (wf : S → va_W) (u : S) (t : State) : Prop :=
  va_P G vwCl (wf u) t.heap ∧ va_K G vwCl ts t ∧ va_D A (wf u)
theorem z_blind {G : va_G} {ts : List (ClassId × FieldType)} {as : List Value} {sz : Nat} {ws : va_W} : FrameBlind (zPre G ts as sz ws) := fun a U g mk q => by
  obtain ⟨q0, q1, qP, qK, qD, qN⟩ := q
  exact ⟨q0, q1, qP, va_K.moved (u := U) (U := U.calling g mk a) (Vm.Alike.refl U.vm) qK, qD, qN.same rfl⟩
/-- an index within -/
theorem inB_vp {i : Int32} {n : Nat} (h : inB i n = true) : vp_in i n := by
  unfold inB at h
  intro q
  rcases q with q | q
  · simp [q] at h
  · have : ¬ i.toNatClampNeg < n := Nat.not_lt.mpr q
    simp [this] at h
theorem z_in {α : Type} {i : Int32} {n : Nat} {x : Option α} {r : α} (h : (if inB i n = true then x else none) = some r) : vp_in i n ∧ x = some r := by
  by_cases q : inB i n = true
  · rw [if_pos q] at h; exact ⟨inB_vp q, h⟩
  · rw [if_neg q] at h; cases h
theorem z_ne {α : Type} {y : Int32} {x : Option α} {r : α} (h : (if y = 0 then none else x) = some r) : ¬ y = 0 ∧ x = some r := by
  by_cases q : y = 0
  · rw [if_pos q] at h; cases h
  · rw [if_neg q] at h; exact ⟨q, h⟩
theorem z_neL {α : Type} {y : Int64} {x : Option α} {r : α} (h : (if y = 0 then none else x) = some r) : ¬ y = 0 ∧ x = some r := by
  by_cases q : y = 0
  · rw [if_pos q] at h; cases h
  · rw [if_neg q] at h; exact ⟨q, h⟩
theorem z_t {α : Type} {c : Prop} {i : Decidable c} {x y : Option α} {r : α} (hc : c) (h : (@ite _ c i x y) = some r) : x = some r := by
  rw [if_pos hc] at h; exact h
theorem z_f {α : Type} {c : Prop} {i : Decidable c} {x y : Option α} {r : α} (hc : ¬ c) (h : (@ite _ c i x y) = some r) : y = some r := by
  rw [if_neg hc] at h; exact h
theorem z_bind {α β : Type} {x : Option α} {f : α → Option β} {r : β} (h : x.bind f = some r) : ∃ q, x = some q ∧ f q = some r := by
  cases x with
  | none => cases h
  | some q => exact ⟨q, rfl, h⟩
/-- the arrays' classes -/
abbrev zTy (tt : Nat → ClassId) : List (ClassId × FieldType) := [(tt 0, .int), (tt 1, .long), (tt 2, .boolean), (tt 3, .object "LeapTables$AtomList"), (tt 4, .object "LeapTables$State"), (tt 5, .array .int), (tt 6, .array .boolean)]
/-- a truth as an int -/
theorem bI_nar (b : Bool) : narrow .boolean (.int (bI b)) = .int (bI b) := by cases b <;> rfl
theorem z_bool {α : Type} {x : Int32} {a b : Option α} {r : α} (h : (if x = 0 then a else if x = 1 then b else none) = some r) : (x = 0 ∧ a = some r) ∨ (x = 1 ∧ b = some r) := by
  by_cases h0 : x = 0
  · rw [if_pos h0] at h; exact Or.inl ⟨h0, h⟩
  · rw [if_neg h0] at h
    by_cases h1 : x = 1
    · rw [if_pos h1] at h; exact Or.inr ⟨h1, h⟩
    · rw [if_neg h1] at h; cases h
theorem z_osn {x k : Int32} {a o d : Int} {r : List (Int × Int)} (h : ¬ x = k) (hk : k.toInt = a) : Op.lookupswitch.offset ((a, o) :: r) d x.toInt = Op.lookupswitch.offset r d x.toInt := lv_osw h hk
theorem z_osy {x k : Int32} {a o d : Int} {r : List (Int × Int)} (h : x = k) (hk : k.toInt = a) : Op.lookupswitch.offset ((a, o) :: r) d x.toInt = o := by
  rw [Op.lookupswitch.offset_cons, if_pos (by rw [h, hk])]
/-- a family of contents, changed at one place -/
theorem z_lt {α : Type} {i n : Nat} {x : Option α} {r : α} (h : (if i < n then x else none) = some r) : i < n ∧ x = some r := by
  by_cases q : i < n
  · rw [if_pos q] at h; exact ⟨q, h⟩
  · rw [if_neg q] at h; cases h
theorem z_eq {α β : Type} {i j : β} {d : Decidable (i = j)} {x : Option α} {r : α} (h : (@ite _ (i = j) d x none) = some r) : i = j ∧ x = some r := by
  by_cases q : i = j
  · rw [if_pos q] at h; exact ⟨q, h⟩
  · rw [if_neg q] at h; cases h
theorem z_cases4 {j : Nat} (h : j < 4) : j = 0 ∨ j = 1 ∨ j = 2 ∨ j = 3 := by omega
theorem z_cases5 {j : Nat} (h : j < 5) : j = 0 ∨ j = 1 ∨ j = 2 ∨ j = 3 ∨ j = 4 := by omega
theorem z_cases10 {j : Nat} (h : j < 10) : j = 0 ∨ j = 1 ∨ j = 2 ∨ j = 3 ∨ j = 4 ∨ j = 5 ∨ j = 6 ∨ j = 7 ∨ j = 8 ∨ j = 9 := by omega
section ZC
variable {p : Program} {l : Launch} {e : Env} {R : Room} {s : State} {m : MethodId} {args : Array Value} {below : List Frame} {meth : Method} {c : Code} {H : Heap} {locs : List Loc} {cells slots : Nat} {Q : State → Prop}
variable {cc bytes : ByteArray} {nL maxL n index pc : Nat} {ret : Option FieldType} {wy : List Cond} {rm : Room} {Ts : List Cond} {own C : String} {y : MethodName} {b : Addr} {As rest st0 : List Value} {ls : Array Slot}
variable {G : va_G} {ts : List (ClassId × FieldType)} {A : Nat → Prop} {H0 : Heap} {ws wc wr : va_W} {U : Type} {wf : U → va_W}
theorem z_join (hP : va_P G vwCl ws H) (hD : va_D A ws) (isC isR : List Nat) (hC : isC.map (fun i => ws[i]?) = wc.map some) (hR : isR.map (fun i => ws[i]?) = wr.map some) (hn : va_nd isR = true) (hdis : (isR.all fun i => !(isC.contains i)) = true)
    {w1 : va_W} {H1 : Heap} (hk : ∀ q : Nat, q < H.size → ¬ va_A wc H.size q → H1[q]? = H[q]?) (hF : ∀ q, va_A wc H.size q → A q) (hP1 : va_P G vwCl w1 H1) (hD1 : va_D (va_A wc H.size) w1) : va_P G vwCl (wr ++ w1) H1 ∧ va_D A (wr ++ w1) :=
  va_join hP hD isC isR hC hR hn (fun i hi hc => by
    have h1 := List.all_eq_true.mp hdis i hi
    have h2 : isC.contains i = true := by simpa using hc
    rw [h2] at h1
    cases h1) hk hF hP1 hD1
theorem z_pick {w w' : va_W} {is : List Nat} (h : is.map (fun i => w[i]?) = w'.map some) : is.filterMap (fun i => w[i]?) = w' := by
  induction is generalizing w' with
  | nil => cases w' with
    | nil => rfl
    | cons x t => cases h
  | cons i is ih => cases w' with
    | nil => cases h
    | cons x t =>
      simp only [List.map_cons, List.cons.injEq] at h
      rw [List.filterMap_cons, h.1, ih h.2]
/-- what a call of a method with a receiver wants ahead -/
theorem z_goV (S : CallFix p m c cc nL s args Ts own) (hK : va_K G vwCl ts s) (hN : zN s) (hP : va_P G vwCl ws H) (hD : va_D A ws)
    {Qc : Array Value → State → Outcome → State → Prop} {free : Addr → Prop}
    (hM : Met l y wy rm (zPre G ts (.ref b :: As) H.size wc) Qc 0 0 free) (cw : CallW R s args own C index y bytes maxL ret wy rm 0 0 n)
    (isC : List Nat) (hC : isC.map (fun i => ws[i]?) = wc.map some) (hn : va_nd isC = true) {ci : Nat} {fs : List Value} {T : u_T} {N : Nat} (hb0 : wc[0]? = some (b, .inr (ci, fs))) (hci : vwCl[ci]? = some (C, T, N))
    (hl : As.length = n) (hsz : ls.size = nL) (hst : st0 = As.reverse ++ .ref b :: rest) (hr8 : (rest.map fun v => v.category).sum ≤ 8) (hdg : decode cc pc = .ok (.invokevirtual index, 3)) (hroom : cells ≤ R.cells ∧ slots ≤ R.slots) :
    va_Run p l e R s m args below meth c H locs cells slots 0 0 (F0 m pc ls st0) rest (Qc (Value.ref b :: As).toArray) free := by
  have hPc := hP.sub isC (z_pick hC)
  have hDc := hD.sub isC hn hC
  exact va_runV S hM cw ⟨z_blind, va_recv hK hPc hci hb0, fun U hU hW => ⟨rfl, by rw [hU], by rw [hU]; exact hPc, va_K.moved hW.alike hK, hDc.weaken (fun _ _ _ _ => trivial), hN.warm hW⟩⟩ rfl hl hsz hst (lv_room hr8) hdg hroom
theorem z_goS (S : CallFix p m c cc nL s args Ts own) (hK : va_K G vwCl ts s) (hN : zN s) (hP : va_P G vwCl ws H) (hD : va_D A ws)
    {Qc : Array Value → State → Outcome → State → Prop} {free : Addr → Prop}
    (hM : Met l y wy rm (zPre G ts As H.size wc) Qc 0 0 free) (cw : CallB R s args own index y bytes maxL ret wy rm 0 0 n ∧ (Cond.static y).before args s = true)
    (isC : List Nat) (hC : isC.map (fun i => ws[i]?) = wc.map some) (hn : va_nd isC = true)
    (hl : As.length = n) (hsz : ls.size = nL) (hst : st0 = As.reverse ++ rest) (hr8 : (rest.map fun v => v.category).sum ≤ 8) (hdg : decode cc pc = .ok (.invokestatic index, 3)) (hroom : cells ≤ R.cells ∧ slots ≤ R.slots) :
    va_Run p l e R s m args below meth c H locs cells slots 0 0 (F0 m pc ls st0) rest (Qc As.toArray) free := by
  have hPc := hP.sub isC (z_pick hC)
  have hDc := hD.sub isC hn hC
  exact va_runS S hM cw ⟨z_blind, fun U hU hW => ⟨rfl, by rw [hU], by rw [hU]; exact hPc, va_K.moved hW.alike hK, hDc.weaken (fun _ _ _ _ => trivial), hN.warm hW⟩⟩ rfl hl hsz hst (lv_room hr8) hdg hroom
/-- behind a call that answers an int: the world goes on with the rest beside what came back -/
theorem z_backi {post : Int32 → U → Prop} {a : Array Value} (hr : va_Run p l e R s m args below meth c H locs cells slots 0 0 (F0 m pc ls st0) rest (va_Qi post (zAt G ts (va_A wc H.size) wf) (va_A wc H.size) a) (va_A wc H.size))
    (hP : va_P G vwCl ws H) (hD : va_D A ws) (hS : va_S A H0 H locs) (hA : ∀ q, H0.size ≤ q → A q)
    (isC isR : List Nat) (hC : isC.map (fun i => ws[i]?) = wc.map some) (hR : isR.map (fun i => ws[i]?) = wr.map some) (hn : va_nd isR = true) (hdis : (isR.all fun i => !(isC.contains i)) = true)
    (kk : ∀ (r : Int32) (u : U) (H : Heap) (locs : List Loc), post r u → va_P G vwCl (wr ++ wf u) H → va_D A (wr ++ wf u) → va_S A H0 H locs → W p l e R s m args below meth c H locs cells slots Q (F0 m (pc + 3) ls (.int r :: rest))) :
    W p l e R s m args below meth c H locs cells slots Q (F0 m pc ls st0) := by
  have hF := va_free (wc := wc) hD hS hA isC hC
  refine va_calli hr hS (fun q _ h => hF q h) hF (fun r u t H1 locs ht hvm hw hB hz1 hk1 hS => ?_)
  obtain ⟨hP1, -, hD1⟩ := hB
  rw [ht] at hP1
  obtain ⟨hP, hD⟩ := z_join hP hD isC isR hC hR hn hdis hk1 hF hP1 hD1
  exact kk r u H1 locs hw hP hD hS
theorem z_backl {post : Int64 → U → Prop} {a : Array Value} (hr : va_Run p l e R s m args below meth c H locs cells slots 0 0 (F0 m pc ls st0) rest (va_Ql post (zAt G ts (va_A wc H.size) wf) (va_A wc H.size) a) (va_A wc H.size))
    (hP : va_P G vwCl ws H) (hD : va_D A ws) (hS : va_S A H0 H locs) (hA : ∀ q, H0.size ≤ q → A q)
    (isC isR : List Nat) (hC : isC.map (fun i => ws[i]?) = wc.map some) (hR : isR.map (fun i => ws[i]?) = wr.map some) (hn : va_nd isR = true) (hdis : (isR.all fun i => !(isC.contains i)) = true)
    (kk : ∀ (r : Int64) (u : U) (H : Heap) (locs : List Loc), post r u → va_P G vwCl (wr ++ wf u) H → va_D A (wr ++ wf u) → va_S A H0 H locs → W p l e R s m args below meth c H locs cells slots Q (F0 m (pc + 3) ls (.long r :: rest))) :
    W p l e R s m args below meth c H locs cells slots Q (F0 m pc ls st0) := by
  have hF := va_free (wc := wc) hD hS hA isC hC
  refine va_calll hr hS (fun q _ h => hF q h) hF (fun r u t H1 locs ht hvm hw hB hz1 hk1 hS => ?_)
  obtain ⟨hP1, -, hD1⟩ := hB
  rw [ht] at hP1
  obtain ⟨hP, hD⟩ := z_join hP hD isC isR hC hR hn hdis hk1 hF hP1 hD1
  exact kk r u H1 locs hw hP hD hS
theorem z_backv {post : U → Prop} {a : Array Value} (hr : va_Run p l e R s m args below meth c H locs cells slots 0 0 (F0 m pc ls st0) rest (va_Qv post (zAt G ts (va_A wc H.size) wf) (va_A wc H.size) a) (va_A wc H.size))
    (hP : va_P G vwCl ws H) (hD : va_D A ws) (hS : va_S A H0 H locs) (hA : ∀ q, H0.size ≤ q → A q)
    (isC isR : List Nat) (hC : isC.map (fun i => ws[i]?) = wc.map some) (hR : isR.map (fun i => ws[i]?) = wr.map some) (hn : va_nd isR = true) (hdis : (isR.all fun i => !(isC.contains i)) = true)
    (kk : ∀ (u : U) (H : Heap) (locs : List Loc), post u → va_P G vwCl (wr ++ wf u) H → va_D A (wr ++ wf u) → va_S A H0 H locs → W p l e R s m args below meth c H locs cells slots Q (F0 m (pc + 3) ls rest)) :
    W p l e R s m args below meth c H locs cells slots Q (F0 m pc ls st0) := by
  have hF := va_free (wc := wc) hD hS hA isC hC
  refine va_callv hr hS (fun q _ h => hF q h) hF (fun u t H1 locs ht hvm hw hB hz1 hk1 hS => ?_)
  obtain ⟨hP1, -, hD1⟩ := hB
  rw [ht] at hP1
  obtain ⟨hP, hD⟩ := z_join hP hD isC isR hC hR hn hdis hk1 hF hP1 hD1
  exact kk u H1 locs hw hP hD hS
theorem z_goSN {host : String} (S : CallFix p m c cc nL s args Ts own) (hK : va_K G vwCl ts s) (hN : zN s) (hP : va_P G vwCl ws H) (hD : va_D A ws)
    {Qc : Array Value → State → Outcome → State → Prop} {free : Addr → Prop}
    (hM : Met l y wy rm (zPre G ts As H.size wc) Qc 0 0 free) (cw : va_CN R s args own index y host bytes maxL ret wy rm 0 0 n ∧ (Cond.static y).before args s = true ∧ True)
    (isC : List Nat) (hC : isC.map (fun i => ws[i]?) = wc.map some) (hn : va_nd isC = true)
    (hl : As.length = n) (hsz : ls.size = nL) (hst : st0 = As.reverse ++ rest) (hr8 : (rest.map fun v => v.category).sum ≤ 8) (hdg : decode cc pc = .ok (.invokestatic index, 3)) (hroom : cells ≤ R.cells ∧ slots ≤ R.slots) :
    va_Run p l e R s m args below meth c H locs cells slots 0 0 (F0 m pc ls st0) rest (Qc As.toArray) free := by
  have hPc := hP.sub isC (z_pick hC)
  have hDc := hD.sub isC hn hC
  exact va_runSN S hM cw ⟨z_blind, fun U hU hW => ⟨rfl, by rw [hU], by rw [hU]; exact hPc, va_K.moved hW.alike hK, hDc.weaken (fun _ _ _ _ => trivial), hN.warm hW⟩⟩ rfl hl hsz hst (lv_room hr8) hdg hroom
theorem z_lmin (hexec : p.tables.exec = Jvm.exec) (hb : c.code = cc) (hml : c.maxLocals = ls.size) {own : String} {index : Nat} (hown : s.vm.findClass own = some m.cls) (hlink : (Cond.methodLink own index Lib.MathLoose.min_long.x).before args s = true) (hstat : (Cond.static Lib.MathLoose.min_long.x).before args s = true) (hini : (Cond.initialized "java/lang/Math").before args s = true) (hcode : (Cond.code Lib.MathLoose.min_long.x Lib.MathLoose.min_long.code 4 (some .long)).before args s = true)
    (hframes : 1 ≤ R.frames) (hlocals : (rest.map fun v => v.category).sum + 15 ≤ R.locals) (hc : cells ≤ R.cells) (hs : slots ≤ R.slots) {x y : Int64} (hdg : decode cc pc = .ok (.invokestatic index, 3))
    (kk : W p l e R s m args below meth c H locs cells slots Q (F0 m (pc + 3) ls (.long (if y < x then y else x) :: rest))) : W p l e R s m args below meth c H locs cells slots Q (F0 m pc ls (.long y :: .long x :: rest)) := by
  intro T hT X
  obtain ⟨vm', X', st⟩ := va_min_longV X hexec hown hlink hstat hini hcode (g := F0 m pc ls (.long y :: .long x :: rest)) rfl (by show ls.size = _; rw [hml]) (a := x) (b := y) (rest := rest) rfl (by rw [hb]; exact hdg) hframes (by show 2 * 0 + _ + 15 ≤ _; omega) hc hs
  obtain ⟨t, a1, b1⟩ := kk (T.setVm vm') hT X'
  exact ⟨t, st t a1, b1⟩
/-- a read of an array of references -/
theorem z_aldq {a : Addr} {tys : List (ClassId × FieldType)} {f : Nat → Nat} (hexec : p.tables.exec = Jvm.exec) (hb : c.code = cc) (hK : va_K G vwCl tys s) (hP : va_P G vwCl ws H) (q0 t0 : Nat) {cA : ClassId} {C : String} {n : Nat} (ha : ws[q0]? = some (a, .inl (cA, n, .inr (.inr (.inr (.inr (fun j => some (f j)))))))) (ht : tys[t0]? = some (cA, .object C)) {i : Int32} (hin : vp_in i n) (hdg : decode cc pc = .ok (.aaload, 1))
    (kk : W p l e R s m args below meth c H locs cells slots Q (F0 m (pc + 1) ls (.ref (f i.toNatClampNeg) :: rest))) : W p l e R s m args below meth c H locs cells slots Q (F0 m pc ls (.int i :: .ref a :: rest)) :=
  va_aldq hexec hb hK hP q0 t0 ha ht hin hdg kk
theorem z_backr {post : U → Prop} {pa : U → Nat → Prop} {a : Array Value} (hr : va_Run p l e R s m args below meth c H locs cells slots 0 0 (F0 m pc ls st0) rest (va_Qr post (fun u a t => pa u a ∧ zAt G ts (va_A wc H.size) wf u t) (va_A wc H.size) a) (va_A wc H.size))
    (hP : va_P G vwCl ws H) (hD : va_D A ws) (hS : va_S A H0 H locs) (hA : ∀ q, H0.size ≤ q → A q)
    (isC isR : List Nat) (hC : isC.map (fun i => ws[i]?) = wc.map some) (hR : isR.map (fun i => ws[i]?) = wr.map some) (hn : va_nd isR = true) (hdis : (isR.all fun i => !(isC.contains i)) = true)
    (kk : ∀ (r : Nat) (u : U) (H : Heap) (locs : List Loc), post u → pa u r → va_P G vwCl (wr ++ wf u) H → va_D A (wr ++ wf u) → va_S A H0 H locs → W p l e R s m args below meth c H locs cells slots Q (F0 m (pc + 3) ls (.ref r :: rest))) :
    W p l e R s m args below meth c H locs cells slots Q (F0 m pc ls st0) := by
  have hF := va_free (wc := wc) hD hS hA isC hC
  refine va_callr hr hS (fun q _ h => hF q h) hF (fun u r t H1 locs ht hvm hw hB hz1 hk1 hS => ?_)
  obtain ⟨hpa, hP1, -, hD1⟩ := hB
  rw [ht] at hP1
  obtain ⟨hP, hD⟩ := z_join hP hD isC isR hC hR hn hdis hk1 hF hP1 hD1
  exact kk r u H1 locs hw hpa hP hD hS
end ZC
