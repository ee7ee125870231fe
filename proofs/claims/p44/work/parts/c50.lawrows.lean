/-! the law's own calls -/
section ZRL
variable {p : Program} {l : Launch} {e : Env} {R : Room} {s : State} {m : MethodId} {args : Array Value} {below : List Frame} {meth : Method} {c : Code} {H : Heap} {locs : List Loc} {cells slots : Nat} {Q : State → Prop}
variable {cc bytes : ByteArray} {nL maxL n index pc mc ms : Nat} {ret : Option FieldType} {wy : List Cond} {rm : Room} {Ts : List Cond} {own CN : String} {y : MethodName} {b : Addr} {As rest st0 : List Value} {ls : Array Slot}
variable {G : va_G} {ts tys : List (ClassId × FieldType)} {A : Nat → Prop} {H0 : Heap} {ws : va_W} {L C Rs : List va_W} {U : Type} {Cf : U → List va_W} {sa : Nat → Nat}
theorem s_goIN {host : String} (S : CallFix p m c cc nL s args Ts own) (hK : va_K G vwCl ts s) (hN : zN s) (hX : zX sa A s) (hO : zAO s) (hAA : zAA s) (hp : (zW L).Perm (zW C ++ zW Rs)) (hP : va_P G vwCl (zW L) H) (hD : va_D A (zW L)) (hS : va_S A s.heap H locs) (hA : ∀ q, s.heap.size ≤ q → A q)
    {Qc : Array Value → State → Outcome → State → Prop} {free : Addr → Prop}
    (hM : Met l y wy rm (zPreQ G ts sa (.ref b :: As) H.size (zW C)) Qc mc ms free) (cw : va_CN R s args own index y host bytes maxL none wy rm mc ms n ∧ y.name = "<init>" ∧ (Cond.instanceMethod y).before args s = true)
    (hl : As.length = n) (hsz : ls.size = nL) (hst : st0 = As.reverse ++ .ref b :: rest) (hr8 : (rest.map fun v => v.category).sum ≤ 8) (hdg : decode cc pc = .ok (.invokespecial index, 3)) (hroom : cells + mc ≤ R.cells ∧ slots + ms ≤ R.slots) :
    va_Run p l e R s m args below meth c H locs cells slots mc ms (F0 m pc ls st0) rest (Qc (Value.ref b :: As).toArray) free := by
  have hPc := zS_subP hp hP
  have hDc := zS_subD hp hD
  have hF := s_free hp hD hS hA
  exact va_runIN S hM cw ⟨z_blindQ, fun U hU hW => ⟨rfl, by rw [hU], by rw [hU]; exact hPc, va_K.moved hW.alike hK, hDc.weaken (fun _ _ _ _ => trivial), hN.warm hW, hX.sub hW hU hS hF, zAO.moved hW.alike hO, zAA.alike hW.alike hAA⟩⟩ rfl hl hsz hst (lv_room hr8) hdg hroom
theorem s_goID {b9 L9 : Nat} {xs9 : Nat → Int32} (S : CallFix p m c cc nL s args Ts own) (hK : va_K G vwCl ts s) (hN : zN s) (hX : zX sa A s) (hO : zAO s) (hAA : zAA s) (hXs : va_X b9 L9 xs9 s s.heap) (hbl : b9 < s.heap.size) (hbA : ¬ A b9) (hp : (zW L).Perm (zW C ++ zW Rs)) (hP : va_P G vwCl (zW L) H) (hD : va_D A (zW L)) (hS : va_S A s.heap H locs) (hA : ∀ q, s.heap.size ≤ q → A q)
    {Qc : Array Value → State → Outcome → State → Prop} {free : Addr → Prop}
    (hM : Met l y wy rm (fun a U => zPreQ G ts sa (.ref b :: As) H.size (zW C) a U ∧ va_X b9 L9 xs9 U U.heap) Qc mc ms free) (cw : CallB R s args own index y bytes maxL none wy rm mc ms n ∧ y.name = "<init>" ∧ (Cond.instanceMethod y).before args s = true)
    (hl : As.length = n) (hsz : ls.size = nL) (hst : st0 = As.reverse ++ .ref b :: rest) (hr8 : (rest.map fun v => v.category).sum ≤ 8) (hdg : decode cc pc = .ok (.invokespecial index, 3)) (hroom : cells + mc ≤ R.cells ∧ slots + ms ≤ R.slots) :
    va_Run p l e R s m args below meth c H locs cells slots mc ms (F0 m pc ls st0) rest (Qc (Value.ref b :: As).toArray) free := by
  have hPc := zS_subP hp hP
  have hDc := zS_subD hp hD
  have hF := s_free hp hD hS hA
  exact va_runI S hM cw ⟨fun a U g mk q => ⟨z_blindQ a U g mk q.1, va_X.moved (u := U) (U := U.calling g mk a) (Vm.Alike.refl U.vm) q.2⟩, fun U hU hW => ⟨⟨rfl, by rw [hU], by rw [hU]; exact hPc, va_K.moved hW.alike hK, hDc.weaken (fun _ _ _ _ => trivial), hN.warm hW, hX.sub hW hU hS hF, zAO.moved hW.alike hO, zAA.alike hW.alike hAA⟩, by rw [hU]; exact (va_X.moved hW.alike hXs).kept (hS.2.1 b9 hbl hbA)⟩⟩ rfl hl hsz hst (lv_room hr8) hdg hroom
end ZRL
theorem zflags {l : Launch} (h : l.flags = flags0) : l.stackTraces = false := by
  unfold Launch.stackTraces
  rw [h]
  rfl
theorem zcol_told : upd (upd (upd (upd (upd (fun _ => (0 : Int32)) (0 : Int32).toNatClampNeg (2 : Int32)) (1 : Int32).toNatClampNeg (2 : Int32)) (2 : Int32).toNatClampNeg (1 : Int32)) (3 : Int32).toNatClampNeg (0 : Int32)) (4 : Int32).toNatClampNeg (0 : Int32) = zcol0 := by
  funext j
  match j with
  | 0 => rfl
  | 1 => rfl
  | 2 => rfl
  | 3 => rfl
  | 4 => rfl
  | (k + 5) =>
    show (if k + 5 = 4 then (0 : Int32) else if k + 5 = 3 then 0 else if k + 5 = 2 then 1 else if k + 5 = 1 then 2 else if k + 5 = 0 then 2 else 0) = (if k + 5 = 0 then 2 else if k + 5 = 1 then 2 else if k + 5 = 2 then 1 else 0)
    have h : ∀ n : Nat, n < 5 → ¬ k + 5 = n := by intro n hn; omega
    simp only [if_neg (h 4 (by omega)), if_neg (h 3 (by omega)), if_neg (h 2 (by omega)), if_neg (h 1 (by omega)), if_neg (h 0 (by omega))]
