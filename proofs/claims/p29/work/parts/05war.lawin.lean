set_option maxRecDepth 20000 in
theorem wl_27_8 : Cond.code yL_walk cL_walk 7 (some .int) ∈ lw_tbl := List.mem_of_getElem? (i := 514) rfl
