set_option maxRecDepth 20000 in
theorem wl_28_15 : Cond.code yL_who cL_who 8 (some .int) ∈ lw_tbl := List.mem_of_getElem? (i := 750) rfl
