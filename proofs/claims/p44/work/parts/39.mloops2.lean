/-- the rows that an atom makes with the answers -/
def zmade (R : Nat → Nat → Bool) (s : Nat → Nat) (q : Nat) (a : zA) (n k : Nat) : Bool := zany (fun y => zqP R s q y && decide (zaR a (zvy s q y) = k)) n
