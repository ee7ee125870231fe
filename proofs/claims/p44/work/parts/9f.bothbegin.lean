/-! both begin alike -/
theorem zi_same64 : ∀ a : Fin 44, ∀ b : Fin 64, zrr4 (64 * a.val + b.val) = zcs19 (64 * a.val + b.val) := by decide +kernel
theorem zi_same : ∀ i, i < 2780 → zrr4 i = zcs19 i := by
  intro i hi
  have h := zi_same64 ⟨i / 64, by omega⟩ ⟨i % 64, by omega⟩
  have e : 64 * (i / 64) + i % 64 = i := by omega
  rw [← e]
  exact h
theorem zi_begin (K : Nat) (hK : 1000000 < K) : ∃ (wd : Nat → Int32) (fa : Nat → Int64) (od hd : Nat → Int32) (qc : Nat → Nat → Int32) (qs : Nat → Int32) (bc : Nat → Nat → Int32) (bs : Nat → Int32) (tt rt : Int32) (H : zH12) (q : zR13) (w fr : Nat → Int64) (g1 g2 re fi : Nat → Int32) (r : zR15) (pk : Int32) (sz : Nat → Int32) (lh : Int32) (lp : Int64) (sets : Nat → Int32) (md : Nat → Int64) (now before : Nat → Int32) (row comes layer : Nat → Int32) (rounds : Int32) (value place made left gone : Nat → Int32),
    fX11_init K = some (wd, fa, od, hd, qc, qs, bc, bs, tt, rt, zgh H (q.1, q.2.1, q.2.2.1, q.2.2.2.1, q.2.2.2.2.1, q.2.2.2.2.2.1, q.2.2.2.2.2.2.1, q.2.2.2.2.2.2.2.1, q.2.2.2.2.2.2.2.2.1, q.2.2.2.2.2.2.2.2.2.1, q.2.2.2.2.2.2.2.2.2.2.1, q.2.2.2.2.2.2.2.2.2.2.2.1, q.2.2.2.2.2.2.2.2.2.2.2.2, w, fr, g1, g2, re, fi, (0 : Int32), (0 : Int32), zpf r (pk, sz, lh, lp, sets, md, (-1 : Int32)))) ∧
    fX12_init K = some (now, before, (0 : Int32), (0 : Int32), row, comes, layer, rounds, value, place, (0 : Int32), made, (0 : Int32), left, gone) ∧
    ∀ g, zIv wd fa od hd qc qs bc bs tt rt H w g re fi (0 : Int32) (0 : Int32) r (-1) now before 0 row layer rounds value := by
  obtain ⟨od, hod, e9⟩ := zi_nine K (by omega)
  obtain ⟨H, e5, hn, hk⟩ := zi_five K (by omega)
  obtain ⟨fa1, fa2, fa3, fa4, fa5, fa6, fa7, ea1, ea2, ea3, ea4, ea5, ea6, ea7, hW, hS⟩ := zi_now od hod
  obtain ⟨now, hm0, er⟩ := zi_ref K
  have hm : zM now zcs19 := fun i hi => by rw [← zi_same i hi]; exact hm0 i hi
  obtain ⟨M, row, comes, layer, rounds, value, a1, a2, ef, a3, a4, a5, a6⟩ := zFol K hK hm hW (fun _ => 0) (fun _ => 0) (fun _ => 0) 0 (value := fun _ => 0) ⟨fun _ => 0, fun v _ => ⟨rfl, by show 0 < 8; omega⟩⟩
  refine ⟨_, _, _, _, _, _, _, _, _, _, H, ((fun _ => (0 : Int32)), (0 : Int32), (fun _ => (0 : Int32)), (fun _ => (0 : Int32)), (fun _ => (0 : Int32)), (fun _ => (0 : Int32)), (fun _ => (0 : Int32)), (fun _ => (0 : Int32)), (0 : Int32), (0 : Int32), (0 : Int32), (0 : Int32), (0 : Int32)), (fun _ => (0 : Int64)), (fun _ => (0 : Int64)), (fun _ => (0 : Int32)), (fun _ => (0 : Int32)), (fun _ => (0 : Int32)), (fun _ => (0 : Int32)), ((fun _ => (0 : Int32)), (0 : Int32), (fun _ => (0 : Int32)), (fun _ => (0 : Int32)), (fun _ => (0 : Int32)), (fun _ => (0 : Int32)), (fun _ => (0 : Int32)), (fun _ => (0 : Int32)), (0 : Int32), (0 : Int32), (0 : Int32), (0 : Int32), (0 : Int32), (fun _ => (0 : Int64)), (0 : Int32)), (0 : Int32), (fun _ => (0 : Int32)), (0 : Int32), (0 : Int64), (fun _ => (0 : Int32)), (fun _ => (0 : Int64)), now, (fun _ => 0), row, comes, layer, rounds, value, (fun _ => 0), (fun _ => 0), (fun _ => 0), (fun _ => 0), ?_, ?_, fun g => ⟨_, M, hW, a1, a2, hS, ?_, Or.inl rfl, Or.inl rfl, hm, a3, a4, a5, a6⟩⟩
  · have e4 : fX4_init = some ((fun _ => (0 : Int32)), (0 : Int32), (fun _ => (0 : Int32)), (fun _ => (0 : Int32)), (fun _ => (0 : Int32)), (fun _ => (0 : Int32)), (fun _ => (0 : Int32)), (fun _ => (0 : Int32)), (0 : Int32), (0 : Int32), (0 : Int32), (0 : Int32), (0 : Int32), (fun _ => (0 : Int64)), (fun _ => (0 : Int64)), (fun _ => (0 : Int32)), (fun _ => (0 : Int32)), (fun _ => (0 : Int32)), (fun _ => (0 : Int32)), (0 : Int32), (0 : Int32)) := rfl
    have e0 : fX0_init = some ((fun _ => (0 : Int32)), (0 : Int32), (fun _ => (0 : Int32)), (fun _ => (0 : Int32)), (fun _ => (0 : Int32)), (fun _ => (0 : Int32)), (fun _ => (0 : Int32)), (fun _ => (0 : Int32)), (0 : Int32), (0 : Int32), (0 : Int32), (0 : Int32), (0 : Int32), (fun _ => (0 : Int64)), (0 : Int32), (0 : Int32)) := rfl
    have e3 : fX3_init = some ((fun _ => (0 : Int32)), (0 : Int32), (0 : Int64)) := rfl
    have e10 : fX10_init = some (fun _ => (0 : Int32)) := rfl
    have e7 : fX7_init = some (fun _ => (0 : Int64)) := rfl
    have yy0 : fX9_openTable (2 : Int32) (fun _ => (0 : Int32)) (0 : Int32) = some (upd (fun _ => (0 : Int32)) 0 (2 : Int32), nI (0 + 1)) := zX9_openTable (nI 2) (fun _ => (0 : Int32)) (n := 0) (by omega)
    have yy1 : fX9_openTable (2 : Int32) (upd (fun _ => (0 : Int32)) 0 (2 : Int32)) (nI (0 + 1)) = some (upd (upd (fun _ => (0 : Int32)) 0 (2 : Int32)) 1 (2 : Int32), nI (1 + 1)) := zX9_openTable (nI 2) (upd (fun _ => (0 : Int32)) 0 (nI 2)) (n := 1) (by omega)
    have yy2 : fX9_openTable (1 : Int32) (upd (upd (fun _ => (0 : Int32)) 0 (2 : Int32)) 1 (2 : Int32)) (nI (1 + 1)) = some (upd (upd (upd (fun _ => (0 : Int32)) 0 (2 : Int32)) 1 (2 : Int32)) 2 (1 : Int32), nI (2 + 1)) := zX9_openTable (nI 1) (upd (upd (fun _ => (0 : Int32)) 0 (nI 2)) 1 (nI 2)) (n := 2) (by omega)
    have yy3 : fX11_rowOf (0 : Int32) (1 : Int32) (0 : Int32) = some (8 : Int32) := by decide
    have yy5 : fX11_rowOf (0 : Int32) (2 : Int32) (0 : Int32) = some (16 : Int32) := by decide
    have yy7 : fX11_rowOf (1 : Int32) (2 : Int32) (0 : Int32) = some (80 : Int32) := by decide
    have yy9 : fX11_rowOf (2 : Int32) (0 : Int32) (0 : Int32) = some (128 : Int32) := by decide
    have yy11 : fX11_rowOf (2 : Int32) (3 : Int32) (0 : Int32) = some (152 : Int32) := by decide
    have yy13 : fX11_rowOf (3 : Int32) (4 : Int32) (0 : Int32) = some (224 : Int32) := by decide
    have yy15 : fX11_rowOf (3 : Int32) (0 : Int32) (0 : Int32) = some (192 : Int32) := by decide
    have yy17 : fX1_code (1 : Int32) (2 : Int32) (0 : Int32) (1 : Int32) (0 : Int32) = some (nI 6289) := by decide +kernel
    have yy18 : fX9_openRule (nI 6289) (fun _ => (0 : Int32)) (z5 (0 : Int32) 0 0 0 0) (0 : Int32) = some (upd (fun _ => (0 : Int32)) 0 (nI 6289), zup (z5 (0 : Int32) 0 0 0 0) 0 0, nI (0 + 1)) := zX9_openRule _ _ _ (n := 0) (by omega)
    have yy19 : fX9_body (0 : Int32) = some 0 := zX9_body (r := 0) (by omega)
    have yy20 : fX1_code (0 : Int32) (2 : Int32) (0 : Int32) (1 : Int32) (0 : Int32) = some (nI 6288) := by decide +kernel
    have yy21 : fX2_add (nI 6288) ((z5 (fun _ => (0 : Int32)) (fun _ => (0 : Int32)) (fun _ => (0 : Int32)) (fun _ => (0 : Int32)) (fun _ => (0 : Int32))) 0) ((zup (z5 (0 : Int32) 0 0 0 0) 0 (0 : Int32)) 0) = some (upd ((z5 (fun _ => (0 : Int32)) (fun _ => (0 : Int32)) (fun _ => (0 : Int32)) (fun _ => (0 : Int32)) (fun _ => (0 : Int32))) 0) 0 (nI 6288), nI (0 + 1)) := zX2_addP _ _ (n := 0) (by omega)
    have yy22 : fX1_code (1 : Int32) (2 : Int32) (0 : Int32) (2 : Int32) (0 : Int32) = some (nI 10513) := by decide +kernel
    have yy23 : fX9_openRule (nI 10513) (upd (fun _ => (0 : Int32)) 0 (nI 6289)) (zup (zup (z5 (0 : Int32) 0 0 0 0) 0 (0 : Int32)) 0 (nI (0 + 1))) (nI (0 + 1)) = some (upd (upd (fun _ => (0 : Int32)) 0 (nI 6289)) 1 (nI 10513), zup (zup (zup (z5 (0 : Int32) 0 0 0 0) 0 (0 : Int32)) 0 (nI (0 + 1))) 1 0, nI (1 + 1)) := zX9_openRule _ _ _ (n := 1) (by omega)
    have yy24 : fX9_body (1 : Int32) = some 1 := zX9_body (r := 1) (by omega)
    have yy25 : fX1_code (1 : Int32) (2 : Int32) (0 : Int32) (1 : Int32) (0 : Int32) = some (nI 6289) := by decide +kernel
    have yy26 : fX2_add (nI 6289) ((zup (z5 (fun _ => (0 : Int32)) (fun _ => (0 : Int32)) (fun _ => (0 : Int32)) (fun _ => (0 : Int32)) (fun _ => (0 : Int32))) 0 (upd ((z5 (fun _ => (0 : Int32)) (fun _ => (0 : Int32)) (fun _ => (0 : Int32)) (fun _ => (0 : Int32)) (fun _ => (0 : Int32))) 0) 0 (nI 6288))) 1) ((zup (zup (zup (z5 (0 : Int32) 0 0 0 0) 0 (0 : Int32)) 0 (nI (0 + 1))) 1 (0 : Int32)) 1) = some (upd ((zup (z5 (fun _ => (0 : Int32)) (fun _ => (0 : Int32)) (fun _ => (0 : Int32)) (fun _ => (0 : Int32)) (fun _ => (0 : Int32))) 0 (upd ((z5 (fun _ => (0 : Int32)) (fun _ => (0 : Int32)) (fun _ => (0 : Int32)) (fun _ => (0 : Int32)) (fun _ => (0 : Int32))) 0) 0 (nI 6288))) 1) 0 (nI 6289), nI (0 + 1)) := zX2_addP _ _ (n := 0) (by omega)
    have yy27 : fX9_body (1 : Int32) = some 1 := zX9_body (r := 1) (by omega)
    have yy28 : fX1_code (0 : Int32) (2 : Int32) (1 : Int32) (2 : Int32) (0 : Int32) = some (nI 12592) := by decide +kernel
    have yy29 : fX2_add (nI 12592) ((zup (zup (z5 (fun _ => (0 : Int32)) (fun _ => (0 : Int32)) (fun _ => (0 : Int32)) (fun _ => (0 : Int32)) (fun _ => (0 : Int32))) 0 (upd ((z5 (fun _ => (0 : Int32)) (fun _ => (0 : Int32)) (fun _ => (0 : Int32)) (fun _ => (0 : Int32)) (fun _ => (0 : Int32))) 0) 0 (nI 6288))) 1 (upd ((zup (z5 (fun _ => (0 : Int32)) (fun _ => (0 : Int32)) (fun _ => (0 : Int32)) (fun _ => (0 : Int32)) (fun _ => (0 : Int32))) 0 (upd ((z5 (fun _ => (0 : Int32)) (fun _ => (0 : Int32)) (fun _ => (0 : Int32)) (fun _ => (0 : Int32)) (fun _ => (0 : Int32))) 0) 0 (nI 6288))) 1) 0 (nI 6289))) 1) ((zup (zup (zup (zup (z5 (0 : Int32) 0 0 0 0) 0 (0 : Int32)) 0 (nI (0 + 1))) 1 (0 : Int32)) 1 (nI (0 + 1))) 1) = some (upd ((zup (zup (z5 (fun _ => (0 : Int32)) (fun _ => (0 : Int32)) (fun _ => (0 : Int32)) (fun _ => (0 : Int32)) (fun _ => (0 : Int32))) 0 (upd ((z5 (fun _ => (0 : Int32)) (fun _ => (0 : Int32)) (fun _ => (0 : Int32)) (fun _ => (0 : Int32)) (fun _ => (0 : Int32))) 0) 0 (nI 6288))) 1 (upd ((zup (z5 (fun _ => (0 : Int32)) (fun _ => (0 : Int32)) (fun _ => (0 : Int32)) (fun _ => (0 : Int32)) (fun _ => (0 : Int32))) 0 (upd ((z5 (fun _ => (0 : Int32)) (fun _ => (0 : Int32)) (fun _ => (0 : Int32)) (fun _ => (0 : Int32)) (fun _ => (0 : Int32))) 0) 0 (nI 6288))) 1) 0 (nI 6289))) 1) 1 (nI 12592), nI (1 + 1)) := zX2_addP _ _ (n := 1) (by omega)
    have yy30 : fX9_query (0 : Int32) = some 0 := zX9_query (r := 0) (by omega)
    have yy31 : fX1_code (0 : Int32) (2 : Int32) (0 : Int32) (1 : Int32) (0 : Int32) = some (nI 6288) := by decide +kernel
    have yy32 : fX2_add (nI 6288) ((z4 (fun _ => (0 : Int32)) (fun _ => (0 : Int32)) (fun _ => (0 : Int32)) (fun _ => (0 : Int32))) 0) ((z4 (0 : Int32) 0 0 0) 0) = some (upd ((z4 (fun _ => (0 : Int32)) (fun _ => (0 : Int32)) (fun _ => (0 : Int32)) (fun _ => (0 : Int32))) 0) 0 (nI 6288), nI (0 + 1)) := zX2_addP _ _ (n := 0) (by omega)
    have yy33 : fX9_query (0 : Int32) = some 0 := zX9_query (r := 0) (by omega)
    have yy34 : fX1_code (0 : Int32) (2 : Int32) (1 : Int32) (2 : Int32) (0 : Int32) = some (nI 12592) := by decide +kernel
    have yy35 : fX2_add (nI 12592) ((zup (z4 (fun _ => (0 : Int32)) (fun _ => (0 : Int32)) (fun _ => (0 : Int32)) (fun _ => (0 : Int32))) 0 (upd ((z4 (fun _ => (0 : Int32)) (fun _ => (0 : Int32)) (fun _ => (0 : Int32)) (fun _ => (0 : Int32))) 0) 0 (nI 6288))) 0) ((zup (z4 (0 : Int32) 0 0 0) 0 (nI (0 + 1))) 0) = some (upd ((zup (z4 (fun _ => (0 : Int32)) (fun _ => (0 : Int32)) (fun _ => (0 : Int32)) (fun _ => (0 : Int32))) 0 (upd ((z4 (fun _ => (0 : Int32)) (fun _ => (0 : Int32)) (fun _ => (0 : Int32)) (fun _ => (0 : Int32))) 0) 0 (nI 6288))) 0) 1 (nI 12592), nI (1 + 1)) := zX2_addP _ _ (n := 1) (by omega)
    have yy36 : fX9_query (0 : Int32) = some 0 := zX9_query (r := 0) (by omega)
    have yy37 : fX1_code (0 : Int32) (2 : Int32) (2 : Int32) (0 : Int32) (0 : Int32) = some (nI 10320) := by decide +kernel
    have yy38 : fX2_add (nI 10320) ((zup (zup (z4 (fun _ => (0 : Int32)) (fun _ => (0 : Int32)) (fun _ => (0 : Int32)) (fun _ => (0 : Int32))) 0 (upd ((z4 (fun _ => (0 : Int32)) (fun _ => (0 : Int32)) (fun _ => (0 : Int32)) (fun _ => (0 : Int32))) 0) 0 (nI 6288))) 0 (upd ((zup (z4 (fun _ => (0 : Int32)) (fun _ => (0 : Int32)) (fun _ => (0 : Int32)) (fun _ => (0 : Int32))) 0 (upd ((z4 (fun _ => (0 : Int32)) (fun _ => (0 : Int32)) (fun _ => (0 : Int32)) (fun _ => (0 : Int32))) 0) 0 (nI 6288))) 0) 1 (nI 12592))) 0) ((zup (zup (z4 (0 : Int32) 0 0 0) 0 (nI (0 + 1))) 0 (nI (1 + 1))) 0) = some (upd ((zup (zup (z4 (fun _ => (0 : Int32)) (fun _ => (0 : Int32)) (fun _ => (0 : Int32)) (fun _ => (0 : Int32))) 0 (upd ((z4 (fun _ => (0 : Int32)) (fun _ => (0 : Int32)) (fun _ => (0 : Int32)) (fun _ => (0 : Int32))) 0) 0 (nI 6288))) 0 (upd ((zup (z4 (fun _ => (0 : Int32)) (fun _ => (0 : Int32)) (fun _ => (0 : Int32)) (fun _ => (0 : Int32))) 0 (upd ((z4 (fun _ => (0 : Int32)) (fun _ => (0 : Int32)) (fun _ => (0 : Int32)) (fun _ => (0 : Int32))) 0) 0 (nI 6288))) 0) 1 (nI 12592))) 0) 2 (nI 10320), nI (2 + 1)) := zX2_addP _ _ (n := 2) (by omega)
    have yy39 : fX9_query (1 : Int32) = some 1 := zX9_query (r := 1) (by omega)
    have yy40 : fX1_code (1 : Int32) (2 : Int32) (0 : Int32) (1 : Int32) (0 : Int32) = some (nI 6289) := by decide +kernel
    have yy41 : fX2_add (nI 6289) ((zup (zup (zup (z4 (fun _ => (0 : Int32)) (fun _ => (0 : Int32)) (fun _ => (0 : Int32)) (fun _ => (0 : Int32))) 0 (upd ((z4 (fun _ => (0 : Int32)) (fun _ => (0 : Int32)) (fun _ => (0 : Int32)) (fun _ => (0 : Int32))) 0) 0 (nI 6288))) 0 (upd ((zup (z4 (fun _ => (0 : Int32)) (fun _ => (0 : Int32)) (fun _ => (0 : Int32)) (fun _ => (0 : Int32))) 0 (upd ((z4 (fun _ => (0 : Int32)) (fun _ => (0 : Int32)) (fun _ => (0 : Int32)) (fun _ => (0 : Int32))) 0) 0 (nI 6288))) 0) 1 (nI 12592))) 0 (upd ((zup (zup (z4 (fun _ => (0 : Int32)) (fun _ => (0 : Int32)) (fun _ => (0 : Int32)) (fun _ => (0 : Int32))) 0 (upd ((z4 (fun _ => (0 : Int32)) (fun _ => (0 : Int32)) (fun _ => (0 : Int32)) (fun _ => (0 : Int32))) 0) 0 (nI 6288))) 0 (upd ((zup (z4 (fun _ => (0 : Int32)) (fun _ => (0 : Int32)) (fun _ => (0 : Int32)) (fun _ => (0 : Int32))) 0 (upd ((z4 (fun _ => (0 : Int32)) (fun _ => (0 : Int32)) (fun _ => (0 : Int32)) (fun _ => (0 : Int32))) 0) 0 (nI 6288))) 0) 1 (nI 12592))) 0) 2 (nI 10320))) 1) ((zup (zup (zup (z4 (0 : Int32) 0 0 0) 0 (nI (0 + 1))) 0 (nI (1 + 1))) 0 (nI (2 + 1))) 1) = some (upd ((zup (zup (zup (z4 (fun _ => (0 : Int32)) (fun _ => (0 : Int32)) (fun _ => (0 : Int32)) (fun _ => (0 : Int32))) 0 (upd ((z4 (fun _ => (0 : Int32)) (fun _ => (0 : Int32)) (fun _ => (0 : Int32)) (fun _ => (0 : Int32))) 0) 0 (nI 6288))) 0 (upd ((zup (z4 (fun _ => (0 : Int32)) (fun _ => (0 : Int32)) (fun _ => (0 : Int32)) (fun _ => (0 : Int32))) 0 (upd ((z4 (fun _ => (0 : Int32)) (fun _ => (0 : Int32)) (fun _ => (0 : Int32)) (fun _ => (0 : Int32))) 0) 0 (nI 6288))) 0) 1 (nI 12592))) 0 (upd ((zup (zup (z4 (fun _ => (0 : Int32)) (fun _ => (0 : Int32)) (fun _ => (0 : Int32)) (fun _ => (0 : Int32))) 0 (upd ((z4 (fun _ => (0 : Int32)) (fun _ => (0 : Int32)) (fun _ => (0 : Int32)) (fun _ => (0 : Int32))) 0) 0 (nI 6288))) 0 (upd ((zup (z4 (fun _ => (0 : Int32)) (fun _ => (0 : Int32)) (fun _ => (0 : Int32)) (fun _ => (0 : Int32))) 0 (upd ((z4 (fun _ => (0 : Int32)) (fun _ => (0 : Int32)) (fun _ => (0 : Int32)) (fun _ => (0 : Int32))) 0) 0 (nI 6288))) 0) 1 (nI 12592))) 0) 2 (nI 10320))) 1) 0 (nI 6289), nI (0 + 1)) := zX2_addP _ _ (n := 0) (by omega)
    have yy42 : fX9_query (1 : Int32) = some 1 := zX9_query (r := 1) (by omega)
    have yy43 : fX1_code (2 : Int32) (1 : Int32) (1 : Int32) (0 : Int32) (0 : Int32) = some (nI 4138) := by decide +kernel
    have yy44 : fX2_add (nI 4138) ((zup (zup (zup (zup (z4 (fun _ => (0 : Int32)) (fun _ => (0 : Int32)) (fun _ => (0 : Int32)) (fun _ => (0 : Int32))) 0 (upd ((z4 (fun _ => (0 : Int32)) (fun _ => (0 : Int32)) (fun _ => (0 : Int32)) (fun _ => (0 : Int32))) 0) 0 (nI 6288))) 0 (upd ((zup (z4 (fun _ => (0 : Int32)) (fun _ => (0 : Int32)) (fun _ => (0 : Int32)) (fun _ => (0 : Int32))) 0 (upd ((z4 (fun _ => (0 : Int32)) (fun _ => (0 : Int32)) (fun _ => (0 : Int32)) (fun _ => (0 : Int32))) 0) 0 (nI 6288))) 0) 1 (nI 12592))) 0 (upd ((zup (zup (z4 (fun _ => (0 : Int32)) (fun _ => (0 : Int32)) (fun _ => (0 : Int32)) (fun _ => (0 : Int32))) 0 (upd ((z4 (fun _ => (0 : Int32)) (fun _ => (0 : Int32)) (fun _ => (0 : Int32)) (fun _ => (0 : Int32))) 0) 0 (nI 6288))) 0 (upd ((zup (z4 (fun _ => (0 : Int32)) (fun _ => (0 : Int32)) (fun _ => (0 : Int32)) (fun _ => (0 : Int32))) 0 (upd ((z4 (fun _ => (0 : Int32)) (fun _ => (0 : Int32)) (fun _ => (0 : Int32)) (fun _ => (0 : Int32))) 0) 0 (nI 6288))) 0) 1 (nI 12592))) 0) 2 (nI 10320))) 1 (upd ((zup (zup (zup (z4 (fun _ => (0 : Int32)) (fun _ => (0 : Int32)) (fun _ => (0 : Int32)) (fun _ => (0 : Int32))) 0 (upd ((z4 (fun _ => (0 : Int32)) (fun _ => (0 : Int32)) (fun _ => (0 : Int32)) (fun _ => (0 : Int32))) 0) 0 (nI 6288))) 0 (upd ((zup (z4 (fun _ => (0 : Int32)) (fun _ => (0 : Int32)) (fun _ => (0 : Int32)) (fun _ => (0 : Int32))) 0 (upd ((z4 (fun _ => (0 : Int32)) (fun _ => (0 : Int32)) (fun _ => (0 : Int32)) (fun _ => (0 : Int32))) 0) 0 (nI 6288))) 0) 1 (nI 12592))) 0 (upd ((zup (zup (z4 (fun _ => (0 : Int32)) (fun _ => (0 : Int32)) (fun _ => (0 : Int32)) (fun _ => (0 : Int32))) 0 (upd ((z4 (fun _ => (0 : Int32)) (fun _ => (0 : Int32)) (fun _ => (0 : Int32)) (fun _ => (0 : Int32))) 0) 0 (nI 6288))) 0 (upd ((zup (z4 (fun _ => (0 : Int32)) (fun _ => (0 : Int32)) (fun _ => (0 : Int32)) (fun _ => (0 : Int32))) 0 (upd ((z4 (fun _ => (0 : Int32)) (fun _ => (0 : Int32)) (fun _ => (0 : Int32)) (fun _ => (0 : Int32))) 0) 0 (nI 6288))) 0) 1 (nI 12592))) 0) 2 (nI 10320))) 1) 0 (nI 6289))) 1) ((zup (zup (zup (zup (z4 (0 : Int32) 0 0 0) 0 (nI (0 + 1))) 0 (nI (1 + 1))) 0 (nI (2 + 1))) 1 (nI (0 + 1))) 1) = some (upd ((zup (zup (zup (zup (z4 (fun _ => (0 : Int32)) (fun _ => (0 : Int32)) (fun _ => (0 : Int32)) (fun _ => (0 : Int32))) 0 (upd ((z4 (fun _ => (0 : Int32)) (fun _ => (0 : Int32)) (fun _ => (0 : Int32)) (fun _ => (0 : Int32))) 0) 0 (nI 6288))) 0 (upd ((zup (z4 (fun _ => (0 : Int32)) (fun _ => (0 : Int32)) (fun _ => (0 : Int32)) (fun _ => (0 : Int32))) 0 (upd ((z4 (fun _ => (0 : Int32)) (fun _ => (0 : Int32)) (fun _ => (0 : Int32)) (fun _ => (0 : Int32))) 0) 0 (nI 6288))) 0) 1 (nI 12592))) 0 (upd ((zup (zup (z4 (fun _ => (0 : Int32)) (fun _ => (0 : Int32)) (fun _ => (0 : Int32)) (fun _ => (0 : Int32))) 0 (upd ((z4 (fun _ => (0 : Int32)) (fun _ => (0 : Int32)) (fun _ => (0 : Int32)) (fun _ => (0 : Int32))) 0) 0 (nI 6288))) 0 (upd ((zup (z4 (fun _ => (0 : Int32)) (fun _ => (0 : Int32)) (fun _ => (0 : Int32)) (fun _ => (0 : Int32))) 0 (upd ((z4 (fun _ => (0 : Int32)) (fun _ => (0 : Int32)) (fun _ => (0 : Int32)) (fun _ => (0 : Int32))) 0) 0 (nI 6288))) 0) 1 (nI 12592))) 0) 2 (nI 10320))) 1 (upd ((zup (zup (zup (z4 (fun _ => (0 : Int32)) (fun _ => (0 : Int32)) (fun _ => (0 : Int32)) (fun _ => (0 : Int32))) 0 (upd ((z4 (fun _ => (0 : Int32)) (fun _ => (0 : Int32)) (fun _ => (0 : Int32)) (fun _ => (0 : Int32))) 0) 0 (nI 6288))) 0 (upd ((zup (z4 (fun _ => (0 : Int32)) (fun _ => (0 : Int32)) (fun _ => (0 : Int32)) (fun _ => (0 : Int32))) 0 (upd ((z4 (fun _ => (0 : Int32)) (fun _ => (0 : Int32)) (fun _ => (0 : Int32)) (fun _ => (0 : Int32))) 0) 0 (nI 6288))) 0) 1 (nI 12592))) 0 (upd ((zup (zup (z4 (fun _ => (0 : Int32)) (fun _ => (0 : Int32)) (fun _ => (0 : Int32)) (fun _ => (0 : Int32))) 0 (upd ((z4 (fun _ => (0 : Int32)) (fun _ => (0 : Int32)) (fun _ => (0 : Int32)) (fun _ => (0 : Int32))) 0) 0 (nI 6288))) 0 (upd ((zup (z4 (fun _ => (0 : Int32)) (fun _ => (0 : Int32)) (fun _ => (0 : Int32)) (fun _ => (0 : Int32))) 0 (upd ((z4 (fun _ => (0 : Int32)) (fun _ => (0 : Int32)) (fun _ => (0 : Int32)) (fun _ => (0 : Int32))) 0) 0 (nI 6288))) 0) 1 (nI 12592))) 0) 2 (nI 10320))) 1) 0 (nI 6289))) 1) 1 (nI 4138), nI (1 + 1)) := zX2_addP _ _ (n := 1) (by omega)
    unfold fX11_init
    rw [e9, Option.bind_some, e5, Option.bind_some, e4, Option.bind_some, e0, Option.bind_some, e3, Option.bind_some, e10, Option.bind_some, e7, Option.bind_some]
    try dsimp only
    first | rw [yy0, Option.bind_some] | rw [Option.bind_some]
    try dsimp only
    first | rw [yy1, Option.bind_some] | rw [Option.bind_some]
    try dsimp only
    first | rw [yy2, Option.bind_some] | rw [Option.bind_some]
    try dsimp only
    first | rw [yy3, Option.bind_some] | rw [Option.bind_some]
    try dsimp only
    first | rw [ea1, Option.bind_some] | rw [Option.bind_some]
    try dsimp only
    first | rw [yy5, Option.bind_some] | rw [Option.bind_some]
    try dsimp only
    first | rw [ea2, Option.bind_some] | rw [Option.bind_some]
    try dsimp only
    first | rw [yy7, Option.bind_some] | rw [Option.bind_some]
    try dsimp only
    first | rw [ea3, Option.bind_some] | rw [Option.bind_some]
    try dsimp only
    first | rw [yy9, Option.bind_some] | rw [Option.bind_some]
    try dsimp only
    first | rw [ea4, Option.bind_some] | rw [Option.bind_some]
    try dsimp only
    first | rw [yy11, Option.bind_some] | rw [Option.bind_some]
    try dsimp only
    first | rw [ea5, Option.bind_some] | rw [Option.bind_some]
    try dsimp only
    first | rw [yy13, Option.bind_some] | rw [Option.bind_some]
    try dsimp only
    first | rw [ea6, Option.bind_some] | rw [Option.bind_some]
    try dsimp only
    first | rw [yy15, Option.bind_some] | rw [Option.bind_some]
    try dsimp only
    first | rw [ea7, Option.bind_some] | rw [Option.bind_some]
    try dsimp only
    first | rw [yy17, Option.bind_some] | rw [Option.bind_some]
    try dsimp only
    first | rw [yy18, Option.bind_some] | rw [Option.bind_some]
    try dsimp only
    first | rw [yy19, Option.bind_some] | rw [Option.bind_some]
    try dsimp only
    first | rw [yy20, Option.bind_some] | rw [Option.bind_some]
    try dsimp only
    first | rw [yy21, Option.bind_some] | rw [Option.bind_some]
    try dsimp only
    first | rw [yy22, Option.bind_some] | rw [Option.bind_some]
    try dsimp only
    first | rw [yy23, Option.bind_some] | rw [Option.bind_some]
    try dsimp only
    first | rw [yy24, Option.bind_some] | rw [Option.bind_some]
    try dsimp only
    first | rw [yy25, Option.bind_some] | rw [Option.bind_some]
    try dsimp only
    first | rw [yy26, Option.bind_some] | rw [Option.bind_some]
    try dsimp only
    first | rw [yy27, Option.bind_some] | rw [Option.bind_some]
    try dsimp only
    first | rw [yy28, Option.bind_some] | rw [Option.bind_some]
    try dsimp only
    first | rw [yy29, Option.bind_some] | rw [Option.bind_some]
    try dsimp only
    first | rw [yy30, Option.bind_some] | rw [Option.bind_some]
    try dsimp only
    first | rw [yy31, Option.bind_some] | rw [Option.bind_some]
    try dsimp only
    first | rw [yy32, Option.bind_some] | rw [Option.bind_some]
    try dsimp only
    first | rw [yy33, Option.bind_some] | rw [Option.bind_some]
    try dsimp only
    first | rw [yy34, Option.bind_some] | rw [Option.bind_some]
    try dsimp only
    first | rw [yy35, Option.bind_some] | rw [Option.bind_some]
    try dsimp only
    first | rw [yy36, Option.bind_some] | rw [Option.bind_some]
    try dsimp only
    first | rw [yy37, Option.bind_some] | rw [Option.bind_some]
    try dsimp only
    first | rw [yy38, Option.bind_some] | rw [Option.bind_some]
    try dsimp only
    first | rw [yy39, Option.bind_some] | rw [Option.bind_some]
    try dsimp only
    first | rw [yy40, Option.bind_some] | rw [Option.bind_some]
    try dsimp only
    first | rw [yy41, Option.bind_some] | rw [Option.bind_some]
    try dsimp only
    first | rw [yy42, Option.bind_some] | rw [Option.bind_some]
    try dsimp only
    first | rw [yy43, Option.bind_some] | rw [Option.bind_some]
    try dsimp only
    first | rw [yy44, Option.bind_some] | rw [Option.bind_some]
    try dsimp only
    rfl
  · rw [er, ef]
    rfl
  · exact ⟨0, 0, fun _ _ => 0, hn, hk, rfl, by omega, by omega, fun j h1 h2 => by omega⟩
