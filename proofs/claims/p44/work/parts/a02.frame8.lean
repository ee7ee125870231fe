/-! a world and its order, said once -/
/-- the world stands in the heap, its addresses apart -/
abbrev zPD (G : va_G) (A : Nat → Prop) (w : va_W) (H : Heap) : Prop := va_P G vwCl w H ∧ va_D A w
