set_option maxRecDepth 20000 in
theorem wl_28_1 : Cond.code yL_print cL_print 5 (some .long) ∈ lw_tbl := List.mem_of_getElem? (i := 710) rfl
