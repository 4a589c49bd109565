set_option maxRecDepth 20000 in
theorem wl_27_3 : Cond.methodLink RL 97 yL_come ∈ lw_tbl := List.mem_of_getElem? (i := 509) (by decide +kernel)
set_option maxRecDepth 20000 in
theorem wl_27_4 : Cond.static yL_come ∈ lw_tbl := List.mem_of_getElem? (i := 510) (by decide +kernel)
