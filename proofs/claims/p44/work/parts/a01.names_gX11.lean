set_option maxRecDepth 100000 in
theorem ggX1_spread_X1_withValue : GoodIn wsX1_spread wsX1_withValue := (goodIn_sub (List.forall_mem_cons.mpr ⟨List.mem_of_getElem? (i := 4) rfl, fun _ h => absurd h List.not_mem_nil⟩) (by decide +kernel))
set_option maxRecDepth 100000 in
theorem gX1_spread_X1_withValue : GoodIn wsX1_spread (va_wsS RX1 12 yX1_withValue wsX1_withValue) := goodIn_app (goodIn_sub (ws := [.methodLink RX1 12 yX1_withValue, .static yX1_withValue, .initialized RX1]) (List.forall_mem_cons.mpr ⟨List.mem_of_getElem? (i := 1) rfl, List.forall_mem_cons.mpr ⟨List.mem_of_getElem? (i := 2) rfl, List.forall_mem_cons.mpr ⟨List.mem_of_getElem? (i := 3) rfl, fun _ h => absurd h List.not_mem_nil⟩⟩⟩) (by decide +kernel)) ggX1_spread_X1_withValue
set_option maxRecDepth 100000 in
theorem ggX1_row_X1_variable : GoodIn wsX1_row wsX1_variable := (goodIn_sub (List.forall_mem_cons.mpr ⟨List.mem_of_getElem? (i := 4) rfl, fun _ h => absurd h List.not_mem_nil⟩) (by decide +kernel))
set_option maxRecDepth 100000 in
theorem gX1_row_X1_variable : GoodIn wsX1_row (va_wsS RX1 16 yX1_variable wsX1_variable) := goodIn_app (goodIn_sub (ws := [.methodLink RX1 16 yX1_variable, .static yX1_variable, .initialized RX1]) (List.forall_mem_cons.mpr ⟨List.mem_of_getElem? (i := 1) rfl, List.forall_mem_cons.mpr ⟨List.mem_of_getElem? (i := 2) rfl, List.forall_mem_cons.mpr ⟨List.mem_of_getElem? (i := 3) rfl, fun _ h => absurd h List.not_mem_nil⟩⟩⟩) (by decide +kernel)) ggX1_row_X1_variable
set_option maxRecDepth 100000 in
theorem ggX1_row_X1_valueOf : GoodIn wsX1_row wsX1_valueOf := (goodIn_sub (List.forall_mem_cons.mpr ⟨List.mem_of_getElem? (i := 7) rfl, fun _ h => absurd h List.not_mem_nil⟩) (by decide +kernel))
set_option maxRecDepth 100000 in
theorem gX1_row_X1_valueOf : GoodIn wsX1_row (va_wsS RX1 20 yX1_valueOf wsX1_valueOf) := goodIn_app (goodIn_sub (ws := [.methodLink RX1 20 yX1_valueOf, .static yX1_valueOf, .initialized RX1]) (List.forall_mem_cons.mpr ⟨List.mem_of_getElem? (i := 5) rfl, List.forall_mem_cons.mpr ⟨List.mem_of_getElem? (i := 6) rfl, List.forall_mem_cons.mpr ⟨List.mem_of_getElem? (i := 3) rfl, fun _ h => absurd h List.not_mem_nil⟩⟩⟩) (by decide +kernel)) ggX1_row_X1_valueOf
set_option maxRecDepth 100000 in
theorem ggX1_agrees_X1_width : GoodIn wsX1_agrees wsX1_width := (goodIn_sub (List.forall_mem_cons.mpr ⟨List.mem_of_getElem? (i := 4) rfl, fun _ h => absurd h List.not_mem_nil⟩) (by decide +kernel))
set_option maxRecDepth 100000 in
theorem gX1_agrees_X1_width : GoodIn wsX1_agrees (va_wsS RX1 23 yX1_width wsX1_width) := goodIn_app (goodIn_sub (ws := [.methodLink RX1 23 yX1_width, .static yX1_width, .initialized RX1]) (List.forall_mem_cons.mpr ⟨List.mem_of_getElem? (i := 1) rfl, List.forall_mem_cons.mpr ⟨List.mem_of_getElem? (i := 2) rfl, List.forall_mem_cons.mpr ⟨List.mem_of_getElem? (i := 3) rfl, fun _ h => absurd h List.not_mem_nil⟩⟩⟩) (by decide +kernel)) ggX1_agrees_X1_width
set_option maxRecDepth 100000 in
theorem ggX1_agrees_X1_variable : GoodIn wsX1_agrees wsX1_variable := (goodIn_sub (List.forall_mem_cons.mpr ⟨List.mem_of_getElem? (i := 7) rfl, fun _ h => absurd h List.not_mem_nil⟩) (by decide +kernel))
set_option maxRecDepth 100000 in
theorem gX1_agrees_X1_variable : GoodIn wsX1_agrees (va_wsS RX1 16 yX1_variable wsX1_variable) := goodIn_app (goodIn_sub (ws := [.methodLink RX1 16 yX1_variable, .static yX1_variable, .initialized RX1]) (List.forall_mem_cons.mpr ⟨List.mem_of_getElem? (i := 5) rfl, List.forall_mem_cons.mpr ⟨List.mem_of_getElem? (i := 6) rfl, List.forall_mem_cons.mpr ⟨List.mem_of_getElem? (i := 3) rfl, fun _ h => absurd h List.not_mem_nil⟩⟩⟩) (by decide +kernel)) ggX1_agrees_X1_variable
set_option maxRecDepth 100000 in
theorem ggX1_agrees_X11_valueIn : GoodIn wsX1_agrees wsX11_valueIn := (goodIn_sub (List.forall_mem_cons.mpr ⟨List.mem_of_getElem? (i := 10) rfl, fun _ h => absurd h List.not_mem_nil⟩) (by decide +kernel))
set_option maxRecDepth 100000 in
theorem gX1_agrees_X11_valueIn_n27 : GoodIn wsX1_agrees (wsX11_valueIn) := ggX1_agrees_X11_valueIn
set_option maxRecDepth 100000 in
theorem ggX1_agrees_X1_withValue : GoodIn wsX1_agrees wsX1_withValue := (goodIn_sub (List.forall_mem_cons.mpr ⟨List.mem_of_getElem? (i := 13) rfl, fun _ h => absurd h List.not_mem_nil⟩) (by decide +kernel))
set_option maxRecDepth 100000 in
theorem gX1_agrees_X1_withValue : GoodIn wsX1_agrees (va_wsS RX1 12 yX1_withValue wsX1_withValue) := goodIn_app (goodIn_sub (ws := [.methodLink RX1 12 yX1_withValue, .static yX1_withValue, .initialized RX1]) (List.forall_mem_cons.mpr ⟨List.mem_of_getElem? (i := 11) rfl, List.forall_mem_cons.mpr ⟨List.mem_of_getElem? (i := 12) rfl, List.forall_mem_cons.mpr ⟨List.mem_of_getElem? (i := 3) rfl, fun _ h => absurd h List.not_mem_nil⟩⟩⟩) (by decide +kernel)) ggX1_agrees_X1_withValue
set_option maxRecDepth 100000 in
theorem ggX1_agrees_X1_row : GoodIn wsX1_agrees wsX1_row := (goodIn_sub (List.forall_mem_cons.mpr ⟨List.mem_of_getElem? (i := 16) rfl, List.forall_mem_cons.mpr ⟨List.mem_of_getElem? (i := 5) rfl, List.forall_mem_cons.mpr ⟨List.mem_of_getElem? (i := 6) rfl, List.forall_mem_cons.mpr ⟨List.mem_of_getElem? (i := 3) rfl, List.forall_mem_cons.mpr ⟨List.mem_of_getElem? (i := 7) rfl, List.forall_mem_cons.mpr ⟨List.mem_of_getElem? (i := 17) rfl, List.forall_mem_cons.mpr ⟨List.mem_of_getElem? (i := 18) rfl, List.forall_mem_cons.mpr ⟨List.mem_of_getElem? (i := 19) rfl, fun _ h => absurd h List.not_mem_nil⟩⟩⟩⟩⟩⟩⟩⟩) (by decide +kernel))
set_option maxRecDepth 100000 in
theorem gX1_agrees_X1_row : GoodIn wsX1_agrees (va_wsS RX1 30 yX1_row wsX1_row) := goodIn_app (goodIn_sub (ws := [.methodLink RX1 30 yX1_row, .static yX1_row, .initialized RX1]) (List.forall_mem_cons.mpr ⟨List.mem_of_getElem? (i := 14) rfl, List.forall_mem_cons.mpr ⟨List.mem_of_getElem? (i := 15) rfl, List.forall_mem_cons.mpr ⟨List.mem_of_getElem? (i := 3) rfl, fun _ h => absurd h List.not_mem_nil⟩⟩⟩) (by decide +kernel)) ggX1_agrees_X1_row
