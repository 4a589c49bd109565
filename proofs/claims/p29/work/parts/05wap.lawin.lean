set_option maxRecDepth 20000 in
theorem wl_27_5 : Cond.code yL_come cL_come 19 (some .boolean) ∈ lw_tbl := List.mem_of_getElem? (i := 511) rfl
