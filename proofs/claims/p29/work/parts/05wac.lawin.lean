set_option maxRecDepth 20000 in
theorem wl_26_8 : Cond.code yX1_goBack cX1_goBack 3 (some .int) ∈ lw_tbl := List.mem_of_getElem? (i := 737) (by decide +kernel)
set_option maxRecDepth 20000 in
theorem wl_26_9 : Cond.methodLink RL 29 yL_act ∈ lw_tbl := List.mem_of_getElem? (i := 325) (by decide +kernel)
set_option maxRecDepth 20000 in
theorem wl_26_10 : Cond.static yL_act ∈ lw_tbl := List.mem_of_getElem? (i := 326) (by decide +kernel)
