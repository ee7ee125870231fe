/-! the class's first state -/
theorem zi_nine (K : Nat) (hK : 10 < K) : ∃ od, (∀ i, i < 4 → od i = 123) ∧ fX9_init K = some ((fun _ => (0 : Int32)), (fun _ => (0 : Int64)), od, (fun _ => (0 : Int32)), z4 (fun _ => (0 : Int32)) (fun _ => (0 : Int32)) (fun _ => (0 : Int32)) (fun _ => (0 : Int32)), z4 (0 : Int32) 0 0 0, z5 (fun _ => (0 : Int32)) (fun _ => (0 : Int32)) (fun _ => (0 : Int32)) (fun _ => (0 : Int32)) (fun _ => (0 : Int32)), z5 (0 : Int32) 0 0 0 0, (0 : Int32), (0 : Int32)) := by
  obtain ⟨od, e, h⟩ := zX6_fill K 4 (by omega) (by omega) (123 : Int32) (fun _ => (0 : Int32))
  refine ⟨od, fun i hi => by rw [h i, if_pos hi], ?_⟩
  unfold fX9_init fX6_initN5 fX6_initN4 fX7_init fX2_init fX6_initN5
  simp only [Option.bind_some]
  rw [e, Option.bind_some]
theorem zi_five (K : Nat) (hK : 10 < K) : ∃ H : zH12, fX5_init K = some H ∧ H.2.2.2.2.2.2.2.2.2.2.1 = 0 ∧ H.2.2.2.2.2.2.2.2.2.2.2 = 0 := by
  obtain ⟨od, _, e⟩ := zi_nine K hK
  unfold fX5_init
  rw [e]
  exact ⟨_, rfl, rfl, rfl⟩
