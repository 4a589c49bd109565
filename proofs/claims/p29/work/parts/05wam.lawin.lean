set_option maxRecDepth 20000 in
theorem wl_27_0 : Cond.methodLink RL 94 yL_noted ∈ lw_tbl := List.mem_of_getElem? (i := 506) (by decide +kernel)
set_option maxRecDepth 20000 in
theorem wl_27_1 : Cond.static yL_noted ∈ lw_tbl := List.mem_of_getElem? (i := 507) (by decide +kernel)
