/-! worlds in pieces: cells, families of arrays, whole objects -/
def zW (L : List va_W) : va_W := L.flatten
theorem zW_nil : zW [] = [] := rfl
theorem zW_cons (S : va_W) (L : List va_W) : zW (S :: L) = S ++ zW L := rfl
theorem zW_app (L M : List va_W) : zW (L ++ M) = zW L ++ zW M := List.flatten_append
theorem zW_1 (w : va_W) : zW [w] = w := List.append_nil w
theorem zW_perm {L M : List va_W} (h : L.Perm M) : (zW L).Perm (zW M) := h.flatten
/-- a place of a piece is a place of the world -/
theorem zW_at : ∀ {L : List va_W} {i : Nat} {S : va_W} {j : Nat} {x : Nat × va_E}, L[i]? = some S → S[j]? = some x → ∃ k, (zW L)[k]? = some x ∧ ∀ y, (zW L).set k y = zW (L.set i (S.set j y))
  | [], i, S, j, x, h, _ => by cases h
  | T :: L, 0, S, j, x, h, hx => by
    have e : T = S := Option.some.inj h
    subst e
    obtain ⟨l, -⟩ := List.getElem?_eq_some_iff.mp hx
    refine ⟨j, ?_, fun y => ?_⟩
    · rw [zW_cons, List.getElem?_append_left l]; exact hx
    · rw [zW_cons, List.set_append_left _ _ l]; rfl
  | T :: L, i + 1, S, j, x, h, hx => by
    have h' : L[i]? = some S := h
    obtain ⟨k, h1, h2⟩ := zW_at h' hx
    refine ⟨T.length + k, ?_, fun y => ?_⟩
    · rw [zW_cons, List.getElem?_append_right (Nat.le_add_right _ _), Nat.add_sub_cancel_left]; exact h1
    · rw [zW_cons, List.set_append_right _ _ (Nat.le_add_right _ _), Nat.add_sub_cancel_left, h2 y]; rfl
/-- the pieces picked by their numbers -/
theorem zL_perm {α : Type} {L M : List α} {is : List Nat} (n : Nat) (hn : L.length = n) (hM : is.map (fun i => L[i]?) = M.map some) (hp : is.Perm (List.range n)) : L.Perm M := by
  subst hn
  have h0 : (List.range L.length).map (fun i => L[i]?) = L.map some := by
    apply List.ext_getElem
    · simp
    · intro i h1 h2
      simp
  have h1 := (hp.map (fun i => L[i]?))
  rw [h0, hM] at h1
  have h2 := h1.filterMap id
  rw [List.filterMap_map, List.filterMap_map] at h2
  have e : ∀ l : List α, l.filterMap (id ∘ some) = l := fun l => by
    induction l with
    | nil => rfl
    | cons x l ih => rw [List.filterMap_cons]; show x :: _ = _; rw [ih]
  rw [e, e] at h2
  exact h2.symm
theorem zS_perm {L M : List va_W} {is : List Nat} (n : Nat) (hn : L.length = n) (hM : is.map (fun i => L[i]?) = M.map some) (hp : is.Perm (List.range n)) : (zW L).Perm (zW M) := zW_perm (zL_perm n hn hM hp)
theorem zS_cut {L C R : List va_W} {is js : List Nat} (n : Nat) (hn : L.length = n) (hC : is.map (fun i => L[i]?) = C.map some) (hR : js.map (fun i => L[i]?) = R.map some) (hp : (is ++ js).Perm (List.range n)) : (zW L).Perm (zW C ++ zW R) := by
  rw [← zW_app]
  exact zS_perm (is := is ++ js) n hn (by rw [List.map_append, List.map_append, hC, hR]) hp
/-- pieces left out -/
theorem zS_subP {G : va_G} {L M R : List va_W} {H : Heap} (hp : (zW L).Perm (zW M ++ zW R)) (h : va_P G vwCl (zW L) H) : va_P G vwCl (zW M) H := zP_left (zP_perm hp h)
theorem zS_subD {A : Nat → Prop} {L M R : List va_W} (hp : (zW L).Perm (zW M ++ zW R)) (h : va_D A (zW L)) : va_D A (zW M) := zD_left (zD_perm hp h)
/-- a family of arrays of ints or truths, all of one length -/
def wA (e : Nat → Nat) (cA : ClassId) (N ln : Nat) (A : Nat → Nat → Int32) : va_W := (List.range N).map (fun j => (e j, .inl (cA, ln, .inl (A j))))
def wAx (e : Nat → Nat) (cA : ClassId) (N ln : Nat) (A : Nat → Nat → Int32) (k : Nat) : va_W := ((List.range N).erase k).map (fun j => (e j, .inl (cA, ln, .inl (A j))))
theorem wA_get (e : Nat → Nat) (cA : ClassId) {N : Nat} (ln : Nat) (A : Nat → Nat → Int32) {j : Nat} (h : j < N) : (wA e cA N ln A)[j]? = some (e j, .inl (cA, ln, .inl (A j))) := by
  unfold wA
  rw [List.getElem?_map, List.getElem?_range h]
  rfl
theorem wA_set (e : Nat → Nat) (cA : ClassId) {N : Nat} (ln : Nat) (A : Nat → Nat → Int32) {j : Nat} (h : j < N) (v : Nat → Int32) : (wA e cA N ln A).set j (e j, .inl (cA, ln, .inl v)) = wA e cA N ln (zup A j v) := by
  apply List.ext_getElem?
  intro i
  rw [List.getElem?_set]
  by_cases hi : i < N
  · rw [wA_get e cA ln (zup A j v) hi]
    by_cases hij : j = i
    · subst hij
      rw [if_pos rfl, if_pos (by unfold wA; rw [List.length_map, List.length_range]; exact h)]
      show _ = some (e j, (Sum.inl (cA, ln, .inl (if j = j then v else A j)) : va_E))
      rw [if_pos rfl]
    · rw [if_neg hij, wA_get e cA ln A hi]
      show _ = some (e i, (Sum.inl (cA, ln, .inl (if i = j then v else A i)) : va_E))
      rw [if_neg (fun q => hij q.symm)]
  · have l1 : (wA e cA N ln (zup A j v))[i]? = none := List.getElem?_eq_none (by unfold wA; rw [List.length_map, List.length_range]; omega)
    have l2 : (wA e cA N ln A)[i]? = none := List.getElem?_eq_none (by unfold wA; rw [List.length_map, List.length_range]; omega)
    rw [l1, if_neg (by omega), l2]
theorem zS_fam {G : va_G} {H : Heap} {L : List va_W} (_hP : va_P G vwCl (zW L) H) (i : Nat) {e : Nat → Nat} {cA : ClassId} {N ln : Nat} {A : Nat → Nat → Int32} (h : L[i]? = some (wA e cA N ln A)) {j : Nat} (hj : j < N) : ∃ k, (zW L)[k]? = some (e j, .inl (cA, ln, .inl (A j))) ∧ ∀ v, (zW L).set k (e j, .inl (cA, ln, .inl v)) = zW (L.set i (wA e cA N ln (zup A j v))) := by
  obtain ⟨k, h1, h2⟩ := zW_at h (wA_get e cA ln A hj)
  exact ⟨k, h1, fun v => by rw [h2, wA_set e cA ln A hj]⟩
theorem zS_one {G : va_G} {H : Heap} {L : List va_W} (_hP : va_P G vwCl (zW L) H) (i : Nat) {x : Nat × va_E} (h : L[i]? = some [x]) : ∃ k, (zW L)[k]? = some x ∧ ∀ y, (zW L).set k y = zW (L.set i [y]) := by
  obtain ⟨k, h1, h2⟩ := zW_at (j := 0) h rfl
  exact ⟨k, h1, h2⟩
/-- an array of a family taken out, and put back -/
theorem wA_pull (e : Nat → Nat) (cA : ClassId) {N : Nat} (ln : Nat) (A : Nat → Nat → Int32) {j : Nat} (h : j < N) : (wA e cA N ln A).Perm ([(e j, .inl (cA, ln, .inl (A j)))] ++ wAx e cA N ln A j) := by
  unfold wA wAx
  exact (List.perm_cons_erase (List.mem_range.mpr h)).map _
theorem wA_push (e : Nat → Nat) (cA : ClassId) {N : Nat} (ln : Nat) (A : Nat → Nat → Int32) {j : Nat} (h : j < N) (v : Nat → Int32) : (([(e j, .inl (cA, ln, .inl v))] : va_W) ++ wAx e cA N ln A j).Perm (wA e cA N ln (zup A j v)) := by
  have h1 := wA_pull e cA ln (zup A j v) h
  have e1 : zup A j v j = v := if_pos rfl
  have e2 : wAx e cA N ln (zup A j v) j = wAx e cA N ln A j := by
    unfold wAx
    apply List.map_congr_left
    intro i hi
    have hne : i ≠ j := fun q => by
      subst q
      exact absurd hi (List.Nodup.not_mem_erase List.nodup_range)
    show (e i, (Sum.inl (cA, ln, .inl (if i = j then v else A i)) : va_E)) = _
    rw [if_neg hne]
  rw [e1, e2] at h1
  exact h1.symm
theorem zS_pull {L C : List va_W} {is : List Nat} (n : Nat) (hn : L.length = n) (i : Nat) {e : Nat → Nat} {cA : ClassId} {N ln : Nat} {A : Nat → Nat → Int32} (h : L[i]? = some (wA e cA N ln A)) {j : Nat} (hj : j < N) (hR : is.map (fun i => L[i]?) = C.map some) (hp : (i :: is).Perm (List.range n)) : (zW L).Perm (zW (C ++ [[(e j, .inl (cA, ln, .inl (A j)))], wAx e cA N ln A j])) := by
  have h1 := zS_perm (L := L) (M := wA e cA N ln A :: C) (is := i :: is) n hn (by rw [List.map_cons, List.map_cons, h, hR]) hp
  refine h1.trans ?_
  rw [zW_app, zW_cons]
  refine List.perm_append_comm.trans (List.Perm.append_left _ ?_)
  show (wA e cA N ln A).Perm _
  refine (wA_pull e cA ln A hj).trans ?_
  rw [zW_cons, zW_1]
theorem zS_push {L C : List va_W} {is : List Nat} (n : Nat) (hn : L.length = n) (i k : Nat) {e : Nat → Nat} {cA : ClassId} {N ln : Nat} {A : Nat → Nat → Int32} {j : Nat} {v : Nat → Int32} (h : L[i]? = some [(e j, .inl (cA, ln, .inl v))]) (hk : L[k]? = some (wAx e cA N ln A j)) (hj : j < N) (hR : is.map (fun i => L[i]?) = C.map some) (hp : (i :: k :: is).Perm (List.range n)) : (zW L).Perm (zW (C ++ [wA e cA N ln (zup A j v)])) := by
  have h1 := zS_perm (L := L) (M := [(e j, .inl (cA, ln, .inl v))] :: wAx e cA N ln A j :: C) (is := i :: k :: is) n hn (by rw [List.map_cons, List.map_cons, List.map_cons, List.map_cons, h, hk, hR]) hp
  refine h1.trans ?_
  rw [zW_app, zW_cons, zW_cons, zW_1, ← List.append_assoc]
  exact List.perm_append_comm.trans (List.Perm.append_left _ (wA_push e cA ln A hj v))
/-- the classes of the arrays of arrays -/
def zAA (U : State) : Prop := va_AOA .int U ∧ va_AOA .boolean U
theorem zlt_of {i : Int32} {n : Nat} (h : vp_in i n) : i.toNatClampNeg < n := Nat.not_le.mp fun q => h (Or.inr q)
theorem zS_stay {L C : List va_W} {is : List Nat} (n : Nat) (hn : L.length = n) (i k : Nat) {e : Nat → Nat} {cA : ClassId} {N ln : Nat} {A : Nat → Nat → Int32} {j : Nat} (h : L[i]? = some [(e j, .inl (cA, ln, .inl (A j)))]) (hk : L[k]? = some (wAx e cA N ln A j)) (hj : j < N) (hR : is.map (fun i => L[i]?) = C.map some) (hp : (i :: k :: is).Perm (List.range n)) : (zW L).Perm (zW (C ++ [wA e cA N ln A])) := by
  have h1 := zS_perm (L := L) (M := [(e j, .inl (cA, ln, .inl (A j)))] :: wAx e cA N ln A j :: C) (is := i :: k :: is) n hn (by rw [List.map_cons, List.map_cons, List.map_cons, List.map_cons, h, hk, hR]) hp
  refine h1.trans ?_
  rw [zW_app, zW_cons, zW_cons, zW_1, ← List.append_assoc]
  exact List.perm_append_comm.trans (List.Perm.append_left _ (wA_pull e cA ln A hj).symm)
