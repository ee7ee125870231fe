/-! the reference's loops over the answers -/
/-- the value of a variable in an answer -/
def zvy (s : Nat → Nat) (q y v : Nat) : Nat := zpk (zqpl s q) (zqc s q) y (zqc s q) v % 8
theorem zvy_at {s : Nat → Nat} {q : Nat} (ho : zOr (zqo s q)) (y : Nat) {m : Nat} (hm : m < zqc s q) : zvy s q y (zqpl s q m) = zdig (zqc s q) y m := by
  unfold zvy
  rw [zpk_at (zqD ho) (zqc s q) m (by omega) hm (Nat.le_refl _)]
  unfold zdig; omega
theorem zvy_lt (s : Nat → Nat) (q y v : Nat) : zvy s q y v < 8 := Nat.mod_lt _ (by decide)
/-- a number of choices -/
def zall8 (s : Nat → Nat) (q : Nat) : Nat := if zqc s q = 0 then 0 else 8 ^ zqc s q
theorem zall8_le (s : Nat → Nat) (q : Nat) : zall8 s q ≤ 4096 := by
  have := zp8 (zqc_le s q)
  unfold zall8; split <;> omega
theorem zqP_out {R : Nat → Nat → Bool} {s : Nat → Nat} {q y : Nat} (h : zall8 s q ≤ y) : zqP R s q y = false := by
  unfold zqP zans
  unfold zall8 at h
  by_cases g : zqc s q = 0
  · rw [decide_eq_false (by omega)]; rfl
  · rw [if_neg g] at h; rw [decide_eq_false (by omega : ¬ y < 8 ^ zqc s q)]; simp
