set_option maxRecDepth 20000 in
theorem wl_26_0 : Cond.code yX6_restore cX6_restore 3 (some .int) ∈ lw_tbl := List.mem_of_getElem? (i := 794) (by decide +kernel)
set_option maxRecDepth 20000 in
theorem wl_26_1 : Cond.methodLink RL 140 yX6_undo ∈ lw_tbl := List.mem_of_getElem? (i := 730) (by decide +kernel)
set_option maxRecDepth 20000 in
theorem wl_26_2 : Cond.instanceMethod yX6_undo ∈ lw_tbl := List.mem_of_getElem? (i := 731) (by decide +kernel)
set_option maxRecDepth 20000 in
theorem wl_26_3 : Cond.selects RX6 yX6_undo yX6_undo ∈ lw_tbl := List.mem_of_getElem? (i := 732) (by decide +kernel)
