/-! calls that look at the rows -/
abbrev zF20 (β : Type) := (Nat → Int32) → Int32 → (Nat → Int32) → (Nat → Int32) → (Nat → Int32) → (Nat → Int32) → (Nat → Int32) → (Nat → Int32) → Int32 → Int32 → Int32 → Int32 → Int32 → (Nat → Int64) → (Nat → Int64) → (Nat → Int32) → (Nat → Int32) → (Nat → Int32) → Int32 → Int32 → β
def zapg {β : Type} (f : zF20 β) (q : zR13) (w fr : Nat → Int64) (g re fi : Nat → Int32) (rt im : Int32) : β :=
  f q.1 q.2.1 q.2.2.1 q.2.2.2.1 q.2.2.2.2.1 q.2.2.2.2.2.1 q.2.2.2.2.2.2.1 q.2.2.2.2.2.2.2.1 q.2.2.2.2.2.2.2.2.1 q.2.2.2.2.2.2.2.2.2.1 q.2.2.2.2.2.2.2.2.2.2.1 q.2.2.2.2.2.2.2.2.2.2.2.1 q.2.2.2.2.2.2.2.2.2.2.2.2 w fr g re fi rt im
/-- what is grown afterwards: as it was, or anew -/
def zGa (s : Nat → Nat) (M : Nat → Nat) (w : Nat → Int64) (g re fi : Nat → Int32) (rt im : Int32) (w' : Nat → Int64) (g' re' fi' : Nat → Int32) (rt' im' : Int32) : Prop :=
  (im' = im ∧ w' = w ∧ g' = g ∧ re' = re ∧ fi' = fi ∧ rt' = rt) ∨ (im' = 1 ∧ zGn s M w' g' re' fi' rt' ∧ (im = 1 → w' = w))
