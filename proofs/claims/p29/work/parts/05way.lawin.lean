set_option maxRecDepth 20000 in
theorem wl_27_23 : Cond.methodLink RL 133 yL_print ∈ lw_tbl := List.mem_of_getElem? (i := 708) (by decide +kernel)
