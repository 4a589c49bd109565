set_option maxRecDepth 20000 in
theorem wl_26_21 : Cond.methodLink RL 76 yL_made ∈ lw_tbl := List.mem_of_getElem? (i := 475) (by decide +kernel)
set_option maxRecDepth 20000 in
theorem wl_26_22 : Cond.static yL_made ∈ lw_tbl := List.mem_of_getElem? (i := 476) (by decide +kernel)
