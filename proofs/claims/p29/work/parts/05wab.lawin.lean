set_option maxRecDepth 20000 in
theorem wl_26_4 : Cond.code yX6_undo cX6_undo 1 (some .int) ∈ lw_tbl := List.mem_of_getElem? (i := 733) (by decide +kernel)
set_option maxRecDepth 20000 in
theorem wl_26_5 : Cond.methodLink RX6 258 yX1_goBack ∈ lw_tbl := List.mem_of_getElem? (i := 734) (by decide +kernel)
set_option maxRecDepth 20000 in
theorem wl_26_6 : Cond.instanceMethod yX1_goBack ∈ lw_tbl := List.mem_of_getElem? (i := 735) (by decide +kernel)
set_option maxRecDepth 20000 in
theorem wl_26_7 : Cond.selects RX1 yX1_goBack yX1_goBack ∈ lw_tbl := List.mem_of_getElem? (i := 736) (by decide +kernel)
