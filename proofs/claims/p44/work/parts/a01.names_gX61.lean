set_option maxRecDepth 100000 in
theorem ggX6_fill_J7_fill_53178 : GoodIn wsX6_fill wsJ7_fill_53178 := (goodIn_sub (List.forall_mem_cons.mpr ⟨List.mem_of_getElem? (i := 5) rfl, fun _ h => absurd h List.not_mem_nil⟩) (by decide +kernel))
set_option maxRecDepth 100000 in
theorem gX6_fill_J7_fill_53178 : GoodIn wsX6_fill (va_wsS RX6 13 yJ7_fill_53178 wsJ7_fill_53178) := goodIn_app (goodIn_sub (ws := [.methodLink RX6 13 yJ7_fill_53178, .static yJ7_fill_53178, .initialized RJ7]) (List.forall_mem_cons.mpr ⟨List.mem_of_getElem? (i := 2) rfl, List.forall_mem_cons.mpr ⟨List.mem_of_getElem? (i := 3) rfl, List.forall_mem_cons.mpr ⟨List.mem_of_getElem? (i := 4) rfl, fun _ h => absurd h List.not_mem_nil⟩⟩⟩) (by decide +kernel)) ggX6_fill_J7_fill_53178
