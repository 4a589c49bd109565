set_option maxRecDepth 20000 in
theorem wl_28_16 : Cond.methodLink RL 36 yL_back ∈ lw_tbl := List.mem_of_getElem? (i := 780) (by decide +kernel)
set_option maxRecDepth 20000 in
theorem wl_28_17 : Cond.static yL_back ∈ lw_tbl := List.mem_of_getElem? (i := 781) (by decide +kernel)
