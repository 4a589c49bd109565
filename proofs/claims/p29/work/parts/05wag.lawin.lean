set_option maxRecDepth 20000 in
theorem wl_26_15 : Cond.methodLink RL 84 yL_good ∈ lw_tbl := List.mem_of_getElem? (i := 393) (by decide +kernel)
set_option maxRecDepth 20000 in
theorem wl_26_16 : Cond.static yL_good ∈ lw_tbl := List.mem_of_getElem? (i := 394) (by decide +kernel)
