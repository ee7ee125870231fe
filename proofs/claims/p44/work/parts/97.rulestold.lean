/-! a rule told, a rule less, a change taken back -/
theorem zX9_openRule (x : Int32) (hd bs : Nat → Int32) {n : Nat} (hn : n < 5) : fX9_openRule x hd bs (nI n) = some (upd hd n x, zup bs n 0, nI (n + 1)) := by
  unfold fX9_openRule
  rw [zX6_put x hd hn (by omega), Option.bind_some, zX9_body hn, Option.bind_some, if_pos hn, ← nI_succ]
  rfl
