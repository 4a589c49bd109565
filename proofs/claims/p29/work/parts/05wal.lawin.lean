set_option maxRecDepth 20000 in
theorem wl_26_23 : Cond.code yL_made cL_made 8 (some .boolean) ∈ lw_tbl := List.mem_of_getElem? (i := 477) rfl
