/-! covers in the reference -/
theorem zqv_bit {s : Nat → Nat} {q v : Nat} (hQ : zQ s q) (hv : v < 4) : (zqv s q).testBit v = zany (fun i => zaH (zqa s q i) v) (zqn s q) := by
  unfold zqv
  rw [zLV_bit hv hQ.2]
  apply zany_cong
  intro i _
  rw [decide_eq_true rfl, Bool.true_and]
