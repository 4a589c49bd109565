set_option maxRecDepth 20000 in
theorem wl_28_0 : Cond.static yL_print ∈ lw_tbl := List.mem_of_getElem? (i := 709) (by decide +kernel)
