set_option maxRecDepth 20000 in
theorem wl_27_6 : Cond.methodLink RL 111 yL_walk ∈ lw_tbl := List.mem_of_getElem? (i := 512) (by decide +kernel)
set_option maxRecDepth 20000 in
theorem wl_27_7 : Cond.static yL_walk ∈ lw_tbl := List.mem_of_getElem? (i := 513) (by decide +kernel)
