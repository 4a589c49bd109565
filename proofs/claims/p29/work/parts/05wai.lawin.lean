set_option maxRecDepth 20000 in
theorem wl_26_18 : Cond.methodLink RL 62 yL_based ∈ lw_tbl := List.mem_of_getElem? (i := 413) (by decide +kernel)
set_option maxRecDepth 20000 in
theorem wl_26_19 : Cond.static yL_based ∈ lw_tbl := List.mem_of_getElem? (i := 414) (by decide +kernel)
