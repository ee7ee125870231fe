/-! the law's methods: their start, their calls, arrays of arrays -/
theorem zAA.alike {u U : State} (hvm : u.vm.Alike U.vm) (h : zAA u) : zAA U := ⟨va_AOA.alike hvm h.1, va_AOA.alike hvm h.2⟩
def zPreQ (G : va_G) (ts : List (ClassId × FieldType)) (sa : Nat → Nat) (as : List Value) (sz : Nat) (ws : va_W) : Array Value → State → Prop :=
  va_Pc as (fun U => U.heap.size = sz ∧ va_P G vwCl ws U.heap ∧ va_K G vwCl ts U ∧ va_D (fun _ => True) ws ∧ zN U ∧ zX sa (va_A ws sz) U ∧ zAO U ∧ zAA U)
theorem z_blindQ {G : va_G} {ts : List (ClassId × FieldType)} {sa : Nat → Nat} {as : List Value} {sz : Nat} {ws : va_W} : FrameBlind (zPreQ G ts sa as sz ws) := fun a U g mk q => by
  obtain ⟨q0, q1, qP, qK, qD, qN, qX, qO, qA⟩ := q
  exact ⟨q0, q1, qP, va_K.moved (u := U) (U := U.calling g mk a) (Vm.Alike.refl U.vm) qK, qD, qN.same rfl, qX.same rfl rfl, zAO.moved (u := U) (U := U.calling g mk a) (Vm.Alike.refl U.vm) qO, zAA.alike (u := U) (U := U.calling g mk a) (Vm.Alike.refl U.vm) qA⟩
theorem s_free {A : Nat → Prop} {L C Rs : List va_W} {H0 H : Heap} {locs : List Loc} (hp : (zW L).Perm (zW C ++ zW Rs)) (hD : va_D A (zW L)) (hS : va_S A H0 H locs) (hA : ∀ q, H0.size ≤ q → A q) : ∀ q, va_A (zW C) H.size q → A q := by
  intro q hq
  rcases hq with ⟨k, e, h⟩ | h
  · exact (zD_all.mp hD).2 (q, e) (hp.mem_iff.mpr (List.mem_append_left _ (List.mem_of_getElem? h)))
  · exact hA q (Nat.le_trans hS.1 h)
/-- how many arrays are made -/
theorem zmany_0 {n : Int32} {B : Nat} (h : zmany n B = true) : ¬ n < 0 := by
  unfold zmany at h
  simp only [Bool.and_eq_true, Bool.not_eq_true', decide_eq_false_iff_not] at h
  exact h.1
theorem zmany_5 {n : Int32} {B : Nat} (h : zmany n B = true) : n.toNatClampNeg ≤ B := by
  unfold zmany at h
  simp only [Bool.and_eq_true, decide_eq_true_eq] at h
  exact h.2
theorem wA_pl (f : Nat → va_E) (r : Nat → Nat) (cy : ClassId) (N K : Nat) : va_pl ([] ++ (List.range N).map r) (vr_up f ((List.range N).map r) (.inl (cy, (K, .inl (fun _ => (0 : Int32)))))) = wA r cy N K (fun _ _ => (0 : Int32)) := by
  unfold va_pl wA
  rw [List.nil_append, List.map_map]
  apply List.map_congr_left
  intro j hj
  show (r j, vr_up f ((List.range N).map r) _ (r j)) = _
  rw [vr_up_in (List.mem_map.mpr ⟨j, hj, rfl⟩)]
section ZR
variable {p : Program} {l : Launch} {e : Env} {R : Room} {s : State} {m : MethodId} {args : Array Value} {below : List Frame} {meth : Method} {c : Code} {H : Heap} {locs : List Loc} {cells slots : Nat} {Q : State → Prop}
variable {cc bytes : ByteArray} {nL maxL n index pc mc ms : Nat} {ret : Option FieldType} {wy : List Cond} {rm : Room} {Ts : List Cond} {own CN : String} {y : MethodName} {b : Addr} {As rest st0 : List Value} {ls : Array Slot}
variable {G : va_G} {ts tys : List (ClassId × FieldType)} {A : Nat → Prop} {H0 : Heap} {ws : va_W} {L C Rs : List va_W} {U : Type} {Cf : U → List va_W} {sa : Nat → Nat}
theorem s_goV (S : CallFix p m c cc nL s args Ts own) (hK : va_K G vwCl ts s) (hN : zN s) (hX : zX sa A s) (hO : zAO s) (hAA : zAA s) (hp : (zW L).Perm (zW C ++ zW Rs)) (hP : va_P G vwCl (zW L) H) (hD : va_D A (zW L)) (hS : va_S A s.heap H locs) (hA : ∀ q, s.heap.size ≤ q → A q)
    {Qc : Array Value → State → Outcome → State → Prop} {free : Addr → Prop}
    (hM : Met l y wy rm (zPreQ G ts sa (.ref b :: As) H.size (zW C)) Qc mc ms free) (cw : CallW R s args own CN index y bytes maxL ret wy rm mc ms n)
    {ci : Nat} {fs : List Value} {T : u_T} {N : Nat} (hb0 : (zW C)[0]? = some (b, .inr (ci, fs))) (hci : vwCl[ci]? = some (CN, T, N))
    (hl : As.length = n) (hsz : ls.size = nL) (hst : st0 = As.reverse ++ .ref b :: rest) (hr8 : (rest.map fun v => v.category).sum ≤ 8) (hdg : decode cc pc = .ok (.invokevirtual index, 3)) (hroom : cells + mc ≤ R.cells ∧ slots + ms ≤ R.slots) :
    va_Run p l e R s m args below meth c H locs cells slots mc ms (F0 m pc ls st0) rest (Qc (Value.ref b :: As).toArray) free := by
  have hPc := zS_subP hp hP
  have hDc := zS_subD hp hD
  have hF := s_free hp hD hS hA
  exact va_runV S hM cw ⟨z_blindQ, va_recv hK hPc hci hb0, fun U hU hW => ⟨rfl, by rw [hU], by rw [hU]; exact hPc, va_K.moved hW.alike hK, hDc.weaken (fun _ _ _ _ => trivial), hN.warm hW, hX.sub hW hU hS hF, zAO.moved hW.alike hO, zAA.alike hW.alike hAA⟩⟩ rfl hl hsz hst (lv_room hr8) hdg hroom
theorem s_goS (S : CallFix p m c cc nL s args Ts own) (hK : va_K G vwCl ts s) (hN : zN s) (hX : zX sa A s) (hO : zAO s) (hAA : zAA s) (hp : (zW L).Perm (zW C ++ zW Rs)) (hP : va_P G vwCl (zW L) H) (hD : va_D A (zW L)) (hS : va_S A s.heap H locs) (hA : ∀ q, s.heap.size ≤ q → A q)
    {Qc : Array Value → State → Outcome → State → Prop} {free : Addr → Prop}
    (hM : Met l y wy rm (zPreQ G ts sa As H.size (zW C)) Qc mc ms free) (cw : CallB R s args own index y bytes maxL ret wy rm mc ms n ∧ (Cond.static y).before args s = true)
    (hl : As.length = n) (hsz : ls.size = nL) (hst : st0 = As.reverse ++ rest) (hr8 : (rest.map fun v => v.category).sum ≤ 8) (hdg : decode cc pc = .ok (.invokestatic index, 3)) (hroom : cells + mc ≤ R.cells ∧ slots + ms ≤ R.slots) :
    va_Run p l e R s m args below meth c H locs cells slots mc ms (F0 m pc ls st0) rest (Qc As.toArray) free := by
  have hPc := zS_subP hp hP
  have hDc := zS_subD hp hD
  have hF := s_free hp hD hS hA
  exact va_runS S hM cw ⟨z_blindQ, fun U hU hW => ⟨rfl, by rw [hU], by rw [hU]; exact hPc, va_K.moved hW.alike hK, hDc.weaken (fun _ _ _ _ => trivial), hN.warm hW, hX.sub hW hU hS hF, zAO.moved hW.alike hO, zAA.alike hW.alike hAA⟩⟩ rfl hl hsz hst (lv_room hr8) hdg hroom
theorem s_goI (S : CallFix p m c cc nL s args Ts own) (hK : va_K G vwCl ts s) (hN : zN s) (hX : zX sa A s) (hO : zAO s) (hAA : zAA s) (hp : (zW L).Perm (zW C ++ zW Rs)) (hP : va_P G vwCl (zW L) H) (hD : va_D A (zW L)) (hS : va_S A s.heap H locs) (hA : ∀ q, s.heap.size ≤ q → A q)
    {Qc : Array Value → State → Outcome → State → Prop} {free : Addr → Prop}
    (hM : Met l y wy rm (zPreQ G ts sa (.ref b :: As) H.size (zW C)) Qc mc ms free) (cw : CallB R s args own index y bytes maxL none wy rm mc ms n ∧ y.name = "<init>" ∧ (Cond.instanceMethod y).before args s = true)
    (hl : As.length = n) (hsz : ls.size = nL) (hst : st0 = As.reverse ++ .ref b :: rest) (hr8 : (rest.map fun v => v.category).sum ≤ 8) (hdg : decode cc pc = .ok (.invokespecial index, 3)) (hroom : cells + mc ≤ R.cells ∧ slots + ms ≤ R.slots) :
    va_Run p l e R s m args below meth c H locs cells slots mc ms (F0 m pc ls st0) rest (Qc (Value.ref b :: As).toArray) free := by
  have hPc := zS_subP hp hP
  have hDc := zS_subD hp hD
  have hF := s_free hp hD hS hA
  exact va_runI S hM cw ⟨z_blindQ, fun U hU hW => ⟨rfl, by rw [hU], by rw [hU]; exact hPc, va_K.moved hW.alike hK, hDc.weaken (fun _ _ _ _ => trivial), hN.warm hW, hX.sub hW hU hS hF, zAO.moved hW.alike hO, zAA.alike hW.alike hAA⟩⟩ rfl hl hsz hst (lv_room hr8) hdg hroom
theorem s_goSW {hh : List (Nat × Nat × Nat × Nat)} (S : CallFix p m c cc nL s args Ts own) (hK : va_K G vwCl ts s) (hN : zN s) (hX : zX sa A s) (hO : zAO s) (hAA : zAA s) (hp : (zW L).Perm (zW C ++ zW Rs)) (hP : va_P G vwCl (zW L) H) (hD : va_D A (zW L)) (hS : va_S A s.heap H locs) (hA : ∀ q, s.heap.size ≤ q → A q)
    {Qc : Array Value → State → Outcome → State → Prop} {free : Addr → Prop}
    (hM : Met l y wy rm (zPreQ G ts sa As H.size (zW C)) Qc mc ms free) (cw : vx_CSW R s args own index y bytes maxL ret hh wy rm mc ms n)
    (hl : As.length = n) (hsz : ls.size = nL) (hst : st0 = As.reverse ++ rest) (hr8 : (rest.map fun v => v.category).sum ≤ 8) (hdg : decode cc pc = .ok (.invokestatic index, 3)) (hroom : cells + mc ≤ R.cells ∧ slots + ms ≤ R.slots) :
    va_Run p l e R s m args below meth c H locs cells slots mc ms (F0 m pc ls st0) rest (Qc As.toArray) free := by
  have hPc := zS_subP hp hP
  have hDc := zS_subD hp hD
  have hF := s_free hp hD hS hA
  exact vx_runSW S hM cw ⟨z_blindQ, fun U hU hW => ⟨rfl, by rw [hU], by rw [hU]; exact hPc, va_K.moved hW.alike hK, hDc.weaken (fun _ _ _ _ => trivial), hN.warm hW, hX.sub hW hU hS hF, zAO.moved hW.alike hO, zAA.alike hW.alike hAA⟩⟩ rfl hl hsz hst (lv_room hr8) hdg hroom
theorem s_backr {post : U → Prop} {pa : U → Nat → Prop} {a : Array Value} (hr : va_Run p l e R s m args below meth c H locs cells slots mc ms (F0 m pc ls st0) rest (va_Qr post (fun u a t => pa u a ∧ zAt G ts (va_A (zW C) H.size) (fun u => zW (Cf u)) u t) (va_A (zW C) H.size) a) (va_A (zW C) H.size))
    (hp : (zW L).Perm (zW C ++ zW Rs)) (hP : va_P G vwCl (zW L) H) (hD : va_D A (zW L)) (hS : va_S A H0 H locs) (hA : ∀ q, H0.size ≤ q → A q)
    (kk : ∀ (r : Nat) (u : U) (H : Heap) (locs : List Loc), post u → pa u r → va_P G vwCl (zW (Rs ++ Cf u)) H → va_D A (zW (Rs ++ Cf u)) → va_S A H0 H locs → W p l e R s m args below meth c H locs (cells + mc) (slots + ms) Q (F0 m (pc + 3) ls (.ref r :: rest))) :
    W p l e R s m args below meth c H locs cells slots Q (F0 m pc ls st0) := by
  have hF := s_free hp hD hS hA
  refine va_callr hr hS (fun q _ h => hF q h) hF (fun u r t H1 locs ht hvm hw hB hz1 hk1 hS => ?_)
  obtain ⟨hpa, hP1, -, hD1⟩ := hB
  rw [ht] at hP1
  obtain ⟨hP, hD⟩ := z_joinG (zP_perm hp hP) (zD_perm hp hD) hk1 hF hP1 hD1
  exact kk r u H1 locs hw hpa (by rw [zW_app]; exact hP) (by rw [zW_app]; exact hD) hS
theorem s_backi {post : Int32 → U → Prop} {a : Array Value} (hr : va_Run p l e R s m args below meth c H locs cells slots mc ms (F0 m pc ls st0) rest (va_Qi post (zAt G ts (va_A (zW C) H.size) (fun u => zW (Cf u))) (va_A (zW C) H.size) a) (va_A (zW C) H.size))
    (hp : (zW L).Perm (zW C ++ zW Rs)) (hP : va_P G vwCl (zW L) H) (hD : va_D A (zW L)) (hS : va_S A H0 H locs) (hA : ∀ q, H0.size ≤ q → A q)
    (kk : ∀ (r : Int32) (u : U) (H : Heap) (locs : List Loc), post r u → va_P G vwCl (zW (Rs ++ Cf u)) H → va_D A (zW (Rs ++ Cf u)) → va_S A H0 H locs → W p l e R s m args below meth c H locs (cells + mc) (slots + ms) Q (F0 m (pc + 3) ls (.int r :: rest))) :
    W p l e R s m args below meth c H locs cells slots Q (F0 m pc ls st0) := by
  have hF := s_free hp hD hS hA
  refine va_calli hr hS (fun q _ h => hF q h) hF (fun r u t H1 locs ht hvm hw hB hz1 hk1 hS => ?_)
  obtain ⟨hP1, -, hD1⟩ := hB
  rw [ht] at hP1
  obtain ⟨hP, hD⟩ := z_joinG (zP_perm hp hP) (zD_perm hp hD) hk1 hF hP1 hD1
  exact kk r u H1 locs hw (by rw [zW_app]; exact hP) (by rw [zW_app]; exact hD) hS
theorem s_backl {post : Int64 → U → Prop} {a : Array Value} (hr : va_Run p l e R s m args below meth c H locs cells slots mc ms (F0 m pc ls st0) rest (va_Ql post (zAt G ts (va_A (zW C) H.size) (fun u => zW (Cf u))) (va_A (zW C) H.size) a) (va_A (zW C) H.size))
    (hp : (zW L).Perm (zW C ++ zW Rs)) (hP : va_P G vwCl (zW L) H) (hD : va_D A (zW L)) (hS : va_S A H0 H locs) (hA : ∀ q, H0.size ≤ q → A q)
    (kk : ∀ (r : Int64) (u : U) (H : Heap) (locs : List Loc), post r u → va_P G vwCl (zW (Rs ++ Cf u)) H → va_D A (zW (Rs ++ Cf u)) → va_S A H0 H locs → W p l e R s m args below meth c H locs (cells + mc) (slots + ms) Q (F0 m (pc + 3) ls (.long r :: rest))) :
    W p l e R s m args below meth c H locs cells slots Q (F0 m pc ls st0) := by
  have hF := s_free hp hD hS hA
  refine va_calll hr hS (fun q _ h => hF q h) hF (fun r u t H1 locs ht hvm hw hB hz1 hk1 hS => ?_)
  obtain ⟨hP1, -, hD1⟩ := hB
  rw [ht] at hP1
  obtain ⟨hP, hD⟩ := z_joinG (zP_perm hp hP) (zD_perm hp hD) hk1 hF hP1 hD1
  exact kk r u H1 locs hw (by rw [zW_app]; exact hP) (by rw [zW_app]; exact hD) hS
theorem s_backv {post : U → Prop} {a : Array Value} (hr : va_Run p l e R s m args below meth c H locs cells slots mc ms (F0 m pc ls st0) rest (va_Qv post (zAt G ts (va_A (zW C) H.size) (fun u => zW (Cf u))) (va_A (zW C) H.size) a) (va_A (zW C) H.size))
    (hp : (zW L).Perm (zW C ++ zW Rs)) (hP : va_P G vwCl (zW L) H) (hD : va_D A (zW L)) (hS : va_S A H0 H locs) (hA : ∀ q, H0.size ≤ q → A q)
    (kk : ∀ (u : U) (H : Heap) (locs : List Loc), post u → va_P G vwCl (zW (Rs ++ Cf u)) H → va_D A (zW (Rs ++ Cf u)) → va_S A H0 H locs → W p l e R s m args below meth c H locs (cells + mc) (slots + ms) Q (F0 m (pc + 3) ls rest)) :
    W p l e R s m args below meth c H locs cells slots Q (F0 m pc ls st0) := by
  have hF := s_free hp hD hS hA
  refine va_callv hr hS (fun q _ h => hF q h) hF (fun u t H1 locs ht hvm hw hB hz1 hk1 hS => ?_)
  obtain ⟨hP1, -, hD1⟩ := hB
  rw [ht] at hP1
  obtain ⟨hP, hD⟩ := z_joinG (zP_perm hp hP) (zD_perm hp hD) hk1 hF hP1 hD1
  exact kk u H1 locs hw (by rw [zW_app]; exact hP) (by rw [zW_app]; exact hD) hS
/-- a read of an array of arrays -/
theorem zA_aald {a : Addr} {f : Nat → Nat} (hexec : p.tables.exec = Jvm.exec) (hb : c.code = cc) (hK : va_K G vwCl tys s) (hP : va_P G vwCl ws H) (q0 t0 : Nat) {cA : ClassId} {ty : FieldType} {n : Nat} (ha : ws[q0]? = some (a, .inl (cA, n, .inr (.inr (.inr (.inr (fun j => some (f j)))))))) (ht : tys[t0]? = some (cA, .array ty)) {i : Int32} (hin : vp_in i n) (hdg : decode cc pc = .ok (.aaload, 1))
    (kk : W p l e R s m args below meth c H locs cells slots Q (F0 m (pc + 1) ls (.ref (f i.toNatClampNeg) :: rest))) : W p l e R s m args below meth c H locs cells slots Q (F0 m pc ls (.int i :: .ref a :: rest)) := by
  have hlt : i.toNatClampNeg < n := zlt_of hin
  exact W.aald (v := .ref (f i.toNatClampNeg)) (ty := .array ty) hexec hb (hP q0 _ ha) ((hK.2 t0 _ ht).1 n (fun j => va_rf (some (f j)))) rfl (fun q => by cases q) (by show ¬ (i < 0 ∨ (arrV _ _ _).slots.size ≤ _); rw [arrV_size]; exact hin) (by show (arrV _ _ _).slots[_]? = _; rw [arrV_read _ _ hlt]; rfl) rfl rfl hdg kk
/-- new arrays of arrays of zeros -/
theorem zA_mnaG {ty : FieldType} {N' K' : Nat} {n k : Int32} (hexec : p.tables.exec = Jvm.exec) (hb : c.code = cc) (hown : s.vm.findClass own = some m.cls) (hclink : (Cond.classLink own index ("[" ++ (FieldType.array ty).toString)).before args s = true) (hover : va_AOA ty s) (harr : (Cond.arrayClass ty).before args s = true) (hK : va_K G vwCl tys s) (t0 t1 : Nat) {cI cQ : ClassId} (ht0 : tys[t0]? = some (cI, ty)) (ht1 : tys[t1]? = some (cQ, .array ty)) (hcy : s.vm.findClass (FieldType.array ty).toString = some cI)
    (hP : va_P G vwCl (zW L) H) (hD : va_D A (zW L)) (hS : va_S A H0 H locs) (hA : ∀ q, H0.size ≤ q → A q) (hn : ¬ n < 0) (hk : ¬ k < 0) (hN : n.toNatClampNeg = N') (hKk : k.toNatClampNeg = K') (hB : N' ≤ 5) (hK5 : K' ≤ 512) (hcb : componentBytes ty ≤ 8) (hdf : fits ty (defaultValue ty) = true) (hdd : (defaultValue ty).isDefault = true) (hdv : defaultValue ty = .int 0)
    (hcells : cells + 6 ≤ R.cells) (hslots : slots + (5 + 5 * K') ≤ R.slots) (hdg : decode cc pc = .ok (.multianewarray index 2, 4))
    (kk : ∀ (q : Nat) (r : Nat → Nat) (H1 : Heap), va_P G vwCl (zW (L ++ [[(q, .inl (cQ, N', .inr (.inr (.inr (.inr (fun j => some (r j)))))))], wA r cI N' K' (fun _ _ => (0 : Int32))])) H1 → va_D A (zW (L ++ [[(q, .inl (cQ, N', .inr (.inr (.inr (.inr (fun j => some (r j)))))))], wA r cI N' K' (fun _ _ => (0 : Int32))])) → va_S A H0 H1 locs →
      W p l e R s m args below meth c H1 locs (cells + 6) (slots + (5 + 5 * K')) Q (F0 m (pc + 4) ls (.ref q :: rest))) : W p l e R s m args below meth c H locs cells slots Q (F0 m pc ls (.int k :: .int n :: rest)) := by
  have hNK : N' * K' ≤ 5 * K' := Nat.mul_le_mul_right _ hB
  have e0 : zW L = zW L ++ va_pl [] (fun _ => .inr (0, [])) := (List.append_nil _).symm
  rw [e0] at hP hD
  refine va_mna (z := (K', .inl (fun _ => (0 : Int32)))) hexec hb hown hclink hover harr hcy hK hP hD hS hA hn hk hN hKk (by omega) (Nat.le_trans (Nat.mul_le_mul hK5 hcb) (by decide)) (by omega) hdf hdd (by omega) (by omega) (fun c => ?_) hdg (fun q r cA H1 _ _ hK1 hP1 hD1 hS1 => ?_)
  · rw [hdv]
    exact arrV_new c K' (.int 0)
  · have e1 : cA = cQ := z_sameA (hK1.2 tys.length (cA, .array ty) (by simp)).2 (hK.2 t1 _ ht1).2
    subst e1
    rw [wA_pl, ← zW_1 (wA r cI N' K' _), ← zW_1 [(q, _)], ← zW_app, ← zW_app, List.append_assoc] at hP1 hD1
    obtain ⟨k9, h9, s9⟩ := zW_at (L := L ++ ([[(q, (Sum.inl (cA, N', .inr (.inr (.inr (.inr (fun i => if i < N' then some (r i) else none))))) : va_E))]] ++ [wA r cI N' K' (fun _ _ => (0 : Int32))])) (i := L.length) (j := 0) (by rw [List.getElem?_append_right (Nat.le_refl _), Nat.sub_self]; rfl) rfl
    obtain ⟨hP2, hD2⟩ := z_setQ k9 (fun j => some (r j)) hP1 hD1 h9 (fun j hj => by rw [if_pos hj])
    rw [s9] at hP2 hD2
    have e2 : (L ++ ([[(q, (Sum.inl (cA, N', .inr (.inr (.inr (.inr (fun i => if i < N' then some (r i) else none))))) : va_E))]] ++ [wA r cI N' K' (fun _ _ => (0 : Int32))])).set L.length ([(q, (Sum.inl (cA, N', .inr (.inr (.inr (.inr (fun i => if i < N' then some (r i) else none))))) : va_E))].set 0 (q, .inl (cA, N', .inr (.inr (.inr (.inr (fun j => some (r j)))))))) = L ++ [[(q, .inl (cA, N', .inr (.inr (.inr (.inr (fun j => some (r j)))))))], wA r cI N' K' (fun _ _ => (0 : Int32))] := by
      rw [List.set_append_right _ _ (Nat.le_refl _), Nat.sub_self]; rfl
    rw [e2] at hP2 hD2
    exact z_widen (by omega) (by omega) (kk q r H1 hP2 hD2 hS1)
/-- a new array for arrays -/
theorem zA_newq {ty : FieldType} (hexec : p.tables.exec = Jvm.exec) (hb : c.code = cc) (hown : s.vm.findClass own = some m.cls) (hclink : (Cond.classLink own index (FieldType.array ty).toString).before args s = true) (hover : va_AOA ty s) (hK : va_K G vwCl tys s) (t1 : Nat) {cQ : ClassId} (ht1 : tys[t1]? = some (cQ, .array ty))
    (hP : va_P G vwCl ws H) (hD : va_D A ws) (hS : va_S A H0 H locs) (hA : ∀ q, H0.size ≤ q → A q) {n : Int32} {N' : Nat} (hn : ¬ n < 0) (hN : n.toNatClampNeg = N') (hbytes : N' * 4 ≤ 536870912) (hcells : cells + 1 ≤ R.cells) (hslots : slots + N' ≤ R.slots) (hdg : decode cc pc = .ok (.anewarray index, 3))
    (kk : ∀ (q : Nat) (H1 : Heap), va_P G vwCl (ws ++ [(q, .inl (cQ, N', .inr (.inr (.inr (.inr (fun _ => none))))))]) H1 → va_D A (ws ++ [(q, .inl (cQ, N', .inr (.inr (.inr (.inr (fun _ => none))))))]) → va_S A H0 H1 locs →
      W p l e R s m args below meth c H1 locs (cells + 1) (slots + N') Q (F0 m (pc + 3) ls (.ref q :: rest))) : W p l e R s m args below meth c H locs cells slots Q (F0 m pc ls (.int n :: rest)) := by
  subst hN
  refine W.anewA hexec hb hown hclink (va_AOA.use hover) rfl hdg rfl hn hbytes hcells hslots fun cA kA comp f1 f2 f3 f4 => ?_
  have hR : s.vm.findClass ("[" ++ (FieldType.array ty).toString) = some cQ := (hK.2 t1 _ ht1).2
  have e0 : cA = cQ := Option.some.inj (f1.symm.trans hR)
  subst e0
  have e1 : (H.push ({ cls := cA, slots := Array.replicate n.toNatClampNeg .null, vm := .none } : Cell))[H.size]? = some (arrV cA n.toNatClampNeg (fun _ => .null)) := by rw [Array.getElem?_push_size, ← arrV_new]
  have z1 : (H.push ({ cls := cA, slots := Array.replicate n.toNatClampNeg .null, vm := .none } : Cell)).size = H.size + 1 := Array.size_push _
  have o1 : ∀ q : Nat, q < H.size → (H.push ({ cls := cA, slots := Array.replicate n.toNatClampNeg .null, vm := .none } : Cell))[q]? = H[q]? := fun q hq => by rw [Array.getElem?_push, if_neg (Nat.ne_of_lt hq)]
  refine kk H.size _ ((hP.kept (fun k x hx => o1 x.1 ((hP k x hx).lt))).app (fun k x hx => ?_)) (hD.push hP rfl (hA _ hS.1)) ⟨Nat.le_trans hS.1 (by omega), fun x h1 h2 => (o1 x (Nat.lt_of_lt_of_le h1 hS.1)).trans (hS.2.1 x h1 h2), hS.2.2⟩
  have hz : k < 1 := (List.getElem?_eq_some_iff.mp hx).1
  rw [show k = 0 by omega] at hx
  cases hx
  show _ = some (vp_cell _ _)
  rw [vp_cell_q]
  exact e1
/-- an array put into an array of arrays -/
theorem zA_aast {a : Addr} {ty : FieldType} (hexec : p.tables.exec = Jvm.exec) (hb : c.code = cc) (hK : va_K G vwCl tys s) (hover : va_AOA ty s) (hP : va_P G vwCl ws H) (hD : va_D A ws) (hS : va_S A H0 H locs) (q0 t0 qk : Nat) {cA cI : ClassId} {n v N1 : Nat} {f : Nat → Option Nat} {g : Nat → Int32} (ha : ws[q0]? = some (a, .inl (cA, n, .inr (.inr (.inr (.inr f)))))) (ht : tys[t0]? = some (cA, .array ty)) (hv : ws[qk]? = some (v, .inl (cI, N1, .inl g))) (hcy : s.vm.findClass (FieldType.array ty).toString = some cI) {i : Int32} (hin : vp_in i n) (hdg : decode cc pc = .ok (.aastore, 1))
    (kk : ∀ (H1 : Heap) (locs1 : List Loc), va_P G vwCl (ws.set q0 (a, .inl (cA, n, .inr (.inr (.inr (.inr (va_up f i.toNatClampNeg (some v)))))))) H1 → va_D A (ws.set q0 (a, .inl (cA, n, .inr (.inr (.inr (.inr (va_up f i.toNatClampNeg (some v)))))))) → va_S A H0 H1 locs1 → W p l e R s m args below meth c H1 locs1 cells slots Q (F0 m (pc + 1) ls rest)) : W p l e R s m args below meth c H locs cells slots Q (F0 m pc ls (.ref v :: .int i :: .ref a :: rest)) := by
  have hlt : i.toNatClampNeg < n := zlt_of hin
  have h0 : ¬ i < 0 := fun q => hin (Or.inl q)
  have g1 : H[v]? = some (arrV cI N1 (fun j => .int (g j))) := hP qk _ hv
  obtain ⟨comp, cA2, kA, k3, -, k1, k2, k4⟩ := arrayOverA_spec (va_AOA.use (a := args) hover)
  have hR : s.vm.findClass ("[" ++ (FieldType.array ty).toString) = some cA := (hK.2 t0 _ ht).2
  cases hR.symm.trans k4
  cases k3.symm.trans hcy
  obtain ⟨kE, hkE, -⟩ := Vm.findClass_spec k3
  refine W.aast hexec hb (hP q0 _ ha) (fun q h => by cases h) (fun h => by cases h) k1 k2 rfl hkE ⟨h0, by show _ < (arrV _ _ _).slots.size; rw [arrV_size]; exact hlt⟩ g1 (fun q h => by cases h) hkE (va_asg _ _) rfl rfl hdg fun H1 e1 z oq => ?_
  refine kk H1 _ (hP.set hD ha ?_ oq) (hD.set ha) (hS.put z oq (hD.2 q0 _ ha))
  show H1[a]? = some (vp_cell _ _)
  rw [e1, vp_cell_q, vp_cell_q, arrV_store]
  congr 2
  funext q
  by_cases hq : q = i.toNatClampNeg
  · subst hq
    simp [updV, va_up, va_rf]
  · simp [updV, va_up, hq]
end ZR
theorem zclk {own a b : String} {i : Nat} {args : Array Value} {s : State} (e : a = b) (h : (Cond.classLink own i b).before args s = true) : (Cond.classLink own i a).before args s = true := by rw [e]; exact h
