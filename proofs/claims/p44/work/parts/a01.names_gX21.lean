theorem zm_wsX2_add_1 : ∀ w ∈ wsX20, w ∈ wsX2_add := fun _ h => (List.mem_cons_of_mem _ (List.mem_append_left _ (List.mem_append_right _ h)))
theorem zm_wsX2_add_2 : ∀ w ∈ wsX60, w ∈ wsX2_add := fun _ h => (List.mem_cons_of_mem _ (List.mem_append_right _ h))
theorem zm_wsX2_at_1 : ∀ w ∈ wsX20, w ∈ wsX2_at := fun _ h => (List.mem_cons_of_mem _ (List.mem_append_left _ (List.mem_append_right _ h)))
theorem zm_wsX2_at_2 : ∀ w ∈ wsX60, w ∈ wsX2_at := fun _ h => (List.mem_cons_of_mem _ (List.mem_append_right _ h))
theorem zm_wsX2_copyFrom_1 : ∀ w ∈ wsX20, w ∈ wsX2_copyFrom := fun _ h => (List.mem_cons_of_mem _ (List.mem_append_left _ (List.mem_append_right _ h)))
theorem zm_wsX2_copyFrom_2 : ∀ w ∈ wsX60, w ∈ wsX2_copyFrom := fun _ h => (List.mem_cons_of_mem _ (List.mem_append_right _ h))
theorem zm_wsX2_init_1 : ∀ w ∈ wsX60, w ∈ wsX2_init := fun _ h => (List.mem_cons_of_mem _ (List.mem_append_left _ (List.mem_append_right _ h)))
theorem zm_wsX2_init_2 : ∀ w ∈ wsX20, w ∈ wsX2_init := fun _ h => (List.mem_cons_of_mem _ (List.mem_append_right _ h))
theorem zm_wsX2_nextWith_1 : ∀ w ∈ wsX20, w ∈ wsX2_nextWith := fun _ h => (List.mem_cons_of_mem _ (List.mem_append_left _ (List.mem_append_right _ h)))
theorem zm_wsX2_nextWith_2 : ∀ w ∈ wsX60, w ∈ wsX2_nextWith := fun _ h => (List.mem_cons_of_mem _ (List.mem_append_right _ h))
theorem zm_wsX2_standing_1 : ∀ w ∈ wsX20, w ∈ wsX2_standing := fun _ h => (List.mem_cons_of_mem _ (List.mem_append_left _ (List.mem_append_right _ h)))
theorem zm_wsX2_standing_2 : ∀ w ∈ wsX60, w ∈ wsX2_standing := fun _ h => (List.mem_cons_of_mem _ (List.mem_append_right _ h))
theorem zm_wsX2_variables_1 : ∀ w ∈ wsX20, w ∈ wsX2_variables := fun _ h => (List.mem_cons_of_mem _ (List.mem_append_left _ (List.mem_append_right _ h)))
theorem zm_wsX2_variables_2 : ∀ w ∈ wsX60, w ∈ wsX2_variables := fun _ h => (List.mem_cons_of_mem _ (List.mem_append_right _ h))
set_option maxRecDepth 100000 in
theorem ggX2_init_X6_init : GoodIn wsX2_init wsX6_init := (goodIn_sub (List.forall_mem_cons.mpr ⟨List.mem_of_getElem? (i := 10) rfl, List.forall_mem_cons.mpr ⟨List.mem_of_getElem? (i := 11) rfl, List.forall_mem_cons.mpr ⟨List.mem_of_getElem? (i := 2) rfl, List.forall_mem_cons.mpr ⟨List.mem_of_getElem? (i := 3) rfl, List.forall_mem_cons.mpr ⟨List.mem_of_getElem? (i := 12) rfl, List.forall_mem_cons.mpr ⟨List.mem_of_getElem? (i := 13) rfl, List.forall_mem_cons.mpr ⟨zm_wsX2_init_1 _ (List.mem_of_getElem? (i := 0) rfl), fun _ h => absurd h List.not_mem_nil⟩⟩⟩⟩⟩⟩⟩) (by decide +kernel))
set_option maxRecDepth 100000 in
theorem gX2_init_X6_init : GoodIn wsX2_init (wsX6_init) := ggX2_init_X6_init
set_option maxRecDepth 100000 in
theorem ggX2_at_X6_at : GoodIn wsX2_at wsX6_at := (goodIn_sub (List.forall_mem_cons.mpr ⟨List.mem_of_getElem? (i := 6) rfl, List.forall_mem_cons.mpr ⟨List.mem_of_getElem? (i := 7) rfl, List.forall_mem_cons.mpr ⟨zm_wsX2_at_2 _ (List.mem_of_getElem? (i := 0) rfl), fun _ h => absurd h List.not_mem_nil⟩⟩⟩) (by decide +kernel))
set_option maxRecDepth 100000 in
theorem gX2_at_X6_at : GoodIn wsX2_at (wsV RX2 20 RX6 yX6_at wsX6_at) := goodIn_app (goodIn_sub (ws := [.methodLink RX2 20 yX6_at, .instanceMethod yX6_at, .selects RX6 yX6_at yX6_at, .initialized RX6]) (List.forall_mem_cons.mpr ⟨List.mem_of_getElem? (i := 2) rfl, List.forall_mem_cons.mpr ⟨List.mem_of_getElem? (i := 3) rfl, List.forall_mem_cons.mpr ⟨List.mem_of_getElem? (i := 4) rfl, List.forall_mem_cons.mpr ⟨List.mem_of_getElem? (i := 5) rfl, fun _ h => absurd h List.not_mem_nil⟩⟩⟩⟩) (by decide +kernel)) ggX2_at_X6_at
set_option maxRecDepth 100000 in
theorem ggX2_add_X6_put : GoodIn wsX2_add wsX6_put := (goodIn_sub (List.forall_mem_cons.mpr ⟨List.mem_of_getElem? (i := 7) rfl, List.forall_mem_cons.mpr ⟨List.mem_of_getElem? (i := 8) rfl, List.forall_mem_cons.mpr ⟨zm_wsX2_add_2 _ (List.mem_of_getElem? (i := 0) rfl), fun _ h => absurd h List.not_mem_nil⟩⟩⟩) (by decide +kernel))
set_option maxRecDepth 100000 in
theorem gX2_add_X6_put : GoodIn wsX2_add (wsV RX2 28 RX6 yX6_put wsX6_put) := goodIn_app (goodIn_sub (ws := [.methodLink RX2 28 yX6_put, .instanceMethod yX6_put, .selects RX6 yX6_put yX6_put, .initialized RX6]) (List.forall_mem_cons.mpr ⟨List.mem_of_getElem? (i := 3) rfl, List.forall_mem_cons.mpr ⟨List.mem_of_getElem? (i := 4) rfl, List.forall_mem_cons.mpr ⟨List.mem_of_getElem? (i := 5) rfl, List.forall_mem_cons.mpr ⟨List.mem_of_getElem? (i := 6) rfl, fun _ h => absurd h List.not_mem_nil⟩⟩⟩⟩) (by decide +kernel)) ggX2_add_X6_put
set_option maxRecDepth 100000 in
theorem ggX2_copyFrom_X6_copyFrom : GoodIn wsX2_copyFrom wsX6_copyFrom := (goodIn_sub (List.forall_mem_cons.mpr ⟨List.mem_of_getElem? (i := 7) rfl, List.forall_mem_cons.mpr ⟨List.mem_of_getElem? (i := 8) rfl, List.forall_mem_cons.mpr ⟨zm_wsX2_copyFrom_2 _ (List.mem_of_getElem? (i := 0) rfl), fun _ h => absurd h List.not_mem_nil⟩⟩⟩) (by decide +kernel))
set_option maxRecDepth 100000 in
theorem gX2_copyFrom_X6_copyFrom : GoodIn wsX2_copyFrom (wsV RX2 32 RX6 yX6_copyFrom wsX6_copyFrom) := goodIn_app (goodIn_sub (ws := [.methodLink RX2 32 yX6_copyFrom, .instanceMethod yX6_copyFrom, .selects RX6 yX6_copyFrom yX6_copyFrom, .initialized RX6]) (List.forall_mem_cons.mpr ⟨List.mem_of_getElem? (i := 3) rfl, List.forall_mem_cons.mpr ⟨List.mem_of_getElem? (i := 4) rfl, List.forall_mem_cons.mpr ⟨List.mem_of_getElem? (i := 5) rfl, List.forall_mem_cons.mpr ⟨List.mem_of_getElem? (i := 6) rfl, fun _ h => absurd h List.not_mem_nil⟩⟩⟩⟩) (by decide +kernel)) ggX2_copyFrom_X6_copyFrom
set_option maxRecDepth 100000 in
theorem ggX2_variables_X6_at : GoodIn wsX2_variables wsX6_at := (goodIn_sub (List.forall_mem_cons.mpr ⟨List.mem_of_getElem? (i := 7) rfl, List.forall_mem_cons.mpr ⟨List.mem_of_getElem? (i := 8) rfl, List.forall_mem_cons.mpr ⟨zm_wsX2_variables_2 _ (List.mem_of_getElem? (i := 0) rfl), fun _ h => absurd h List.not_mem_nil⟩⟩⟩) (by decide +kernel))
set_option maxRecDepth 100000 in
theorem gX2_variables_X6_at : GoodIn wsX2_variables (wsV RX2 20 RX6 yX6_at wsX6_at) := goodIn_app (goodIn_sub (ws := [.methodLink RX2 20 yX6_at, .instanceMethod yX6_at, .selects RX6 yX6_at yX6_at, .initialized RX6]) (List.forall_mem_cons.mpr ⟨List.mem_of_getElem? (i := 3) rfl, List.forall_mem_cons.mpr ⟨List.mem_of_getElem? (i := 4) rfl, List.forall_mem_cons.mpr ⟨List.mem_of_getElem? (i := 5) rfl, List.forall_mem_cons.mpr ⟨List.mem_of_getElem? (i := 6) rfl, fun _ h => absurd h List.not_mem_nil⟩⟩⟩⟩) (by decide +kernel)) ggX2_variables_X6_at
set_option maxRecDepth 100000 in
theorem ggX2_variables_X1_isNot : GoodIn wsX2_variables wsX1_isNot := (goodIn_sub (List.forall_mem_cons.mpr ⟨List.mem_of_getElem? (i := 12) rfl, List.forall_mem_cons.mpr ⟨List.mem_of_getElem? (i := 13) rfl, fun _ h => absurd h List.not_mem_nil⟩⟩) (by decide +kernel))
set_option maxRecDepth 100000 in
theorem gX2_variables_X1_isNot : GoodIn wsX2_variables (va_wsS RX2 36 yX1_isNot wsX1_isNot) := goodIn_app (goodIn_sub (ws := [.methodLink RX2 36 yX1_isNot, .static yX1_isNot, .initialized RX1]) (List.forall_mem_cons.mpr ⟨List.mem_of_getElem? (i := 9) rfl, List.forall_mem_cons.mpr ⟨List.mem_of_getElem? (i := 10) rfl, List.forall_mem_cons.mpr ⟨List.mem_of_getElem? (i := 11) rfl, fun _ h => absurd h List.not_mem_nil⟩⟩⟩) (by decide +kernel)) ggX2_variables_X1_isNot
set_option maxRecDepth 100000 in
theorem ggX2_variables_X1_variables : GoodIn wsX2_variables wsX1_variables := (goodIn_sub (List.forall_mem_cons.mpr ⟨List.mem_of_getElem? (i := 16) rfl, fun _ h => absurd h List.not_mem_nil⟩) (by decide +kernel))
set_option maxRecDepth 100000 in
theorem gX2_variables_X1_variables : GoodIn wsX2_variables (va_wsS RX2 42 yX1_variables wsX1_variables) := goodIn_app (goodIn_sub (ws := [.methodLink RX2 42 yX1_variables, .static yX1_variables, .initialized RX1]) (List.forall_mem_cons.mpr ⟨List.mem_of_getElem? (i := 14) rfl, List.forall_mem_cons.mpr ⟨List.mem_of_getElem? (i := 15) rfl, List.forall_mem_cons.mpr ⟨List.mem_of_getElem? (i := 11) rfl, fun _ h => absurd h List.not_mem_nil⟩⟩⟩) (by decide +kernel)) ggX2_variables_X1_variables
set_option maxRecDepth 100000 in
theorem ggX2_standing_X6_at : GoodIn wsX2_standing wsX6_at := (goodIn_sub (List.forall_mem_cons.mpr ⟨List.mem_of_getElem? (i := 7) rfl, List.forall_mem_cons.mpr ⟨List.mem_of_getElem? (i := 8) rfl, List.forall_mem_cons.mpr ⟨zm_wsX2_standing_2 _ (List.mem_of_getElem? (i := 0) rfl), fun _ h => absurd h List.not_mem_nil⟩⟩⟩) (by decide +kernel))
set_option maxRecDepth 100000 in
theorem gX2_standing_X6_at : GoodIn wsX2_standing (wsV RX2 20 RX6 yX6_at wsX6_at) := goodIn_app (goodIn_sub (ws := [.methodLink RX2 20 yX6_at, .instanceMethod yX6_at, .selects RX6 yX6_at yX6_at, .initialized RX6]) (List.forall_mem_cons.mpr ⟨List.mem_of_getElem? (i := 3) rfl, List.forall_mem_cons.mpr ⟨List.mem_of_getElem? (i := 4) rfl, List.forall_mem_cons.mpr ⟨List.mem_of_getElem? (i := 5) rfl, List.forall_mem_cons.mpr ⟨List.mem_of_getElem? (i := 6) rfl, fun _ h => absurd h List.not_mem_nil⟩⟩⟩⟩) (by decide +kernel)) ggX2_standing_X6_at
set_option maxRecDepth 100000 in
theorem ggX2_standing_X1_stands : GoodIn wsX2_standing wsX1_stands := (goodIn_sub (List.forall_mem_cons.mpr ⟨List.mem_of_getElem? (i := 12) rfl, fun _ h => absurd h List.not_mem_nil⟩) (by decide +kernel))
set_option maxRecDepth 100000 in
theorem gX2_standing_X1_stands : GoodIn wsX2_standing (va_wsS RX2 45 yX1_stands wsX1_stands) := goodIn_app (goodIn_sub (ws := [.methodLink RX2 45 yX1_stands, .static yX1_stands, .initialized RX1]) (List.forall_mem_cons.mpr ⟨List.mem_of_getElem? (i := 9) rfl, List.forall_mem_cons.mpr ⟨List.mem_of_getElem? (i := 10) rfl, List.forall_mem_cons.mpr ⟨List.mem_of_getElem? (i := 11) rfl, fun _ h => absurd h List.not_mem_nil⟩⟩⟩) (by decide +kernel)) ggX2_standing_X1_stands
set_option maxRecDepth 100000 in
theorem ggX2_nextWith_X6_at : GoodIn wsX2_nextWith wsX6_at := (goodIn_sub (List.forall_mem_cons.mpr ⟨List.mem_of_getElem? (i := 7) rfl, List.forall_mem_cons.mpr ⟨List.mem_of_getElem? (i := 8) rfl, List.forall_mem_cons.mpr ⟨zm_wsX2_nextWith_2 _ (List.mem_of_getElem? (i := 0) rfl), fun _ h => absurd h List.not_mem_nil⟩⟩⟩) (by decide +kernel))
set_option maxRecDepth 100000 in
theorem gX2_nextWith_X6_at : GoodIn wsX2_nextWith (wsV RX2 20 RX6 yX6_at wsX6_at) := goodIn_app (goodIn_sub (ws := [.methodLink RX2 20 yX6_at, .instanceMethod yX6_at, .selects RX6 yX6_at yX6_at, .initialized RX6]) (List.forall_mem_cons.mpr ⟨List.mem_of_getElem? (i := 3) rfl, List.forall_mem_cons.mpr ⟨List.mem_of_getElem? (i := 4) rfl, List.forall_mem_cons.mpr ⟨List.mem_of_getElem? (i := 5) rfl, List.forall_mem_cons.mpr ⟨List.mem_of_getElem? (i := 6) rfl, fun _ h => absurd h List.not_mem_nil⟩⟩⟩⟩) (by decide +kernel)) ggX2_nextWith_X6_at
set_option maxRecDepth 100000 in
theorem ggX2_nextWith_X1_stands : GoodIn wsX2_nextWith wsX1_stands := (goodIn_sub (List.forall_mem_cons.mpr ⟨List.mem_of_getElem? (i := 12) rfl, fun _ h => absurd h List.not_mem_nil⟩) (by decide +kernel))
set_option maxRecDepth 100000 in
theorem gX2_nextWith_X1_stands : GoodIn wsX2_nextWith (va_wsS RX2 45 yX1_stands wsX1_stands) := goodIn_app (goodIn_sub (ws := [.methodLink RX2 45 yX1_stands, .static yX1_stands, .initialized RX1]) (List.forall_mem_cons.mpr ⟨List.mem_of_getElem? (i := 9) rfl, List.forall_mem_cons.mpr ⟨List.mem_of_getElem? (i := 10) rfl, List.forall_mem_cons.mpr ⟨List.mem_of_getElem? (i := 11) rfl, fun _ h => absurd h List.not_mem_nil⟩⟩⟩) (by decide +kernel)) ggX2_nextWith_X1_stands
