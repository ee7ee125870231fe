/-! a fact told, a fact taken back -/
theorem zin_tab {s : Nat → Nat} {fa : Nat → Int64} {t : Nat} (ht : t < 5) (hfa : zeqR (zw fa) (zfacts s)) : zcnt (zw fa t) 512 = zcnt (zfacts s t) 512 := zcnt_cong (fun j hj => hfa t j ht hj)
