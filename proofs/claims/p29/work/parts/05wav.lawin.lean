set_option maxRecDepth 20000 in
theorem wl_27_16 : Cond.methodLink RL 126 yL_type ∈ lw_tbl := List.mem_of_getElem? (i := 584) (by decide +kernel)
set_option maxRecDepth 20000 in
theorem wl_27_17 : Cond.static yL_type ∈ lw_tbl := List.mem_of_getElem? (i := 585) (by decide +kernel)
