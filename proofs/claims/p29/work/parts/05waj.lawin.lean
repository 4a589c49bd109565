set_option maxRecDepth 20000 in
theorem wl_26_20 : Cond.code yL_based cL_based 4 (some .boolean) ∈ lw_tbl := List.mem_of_getElem? (i := 415) rfl
