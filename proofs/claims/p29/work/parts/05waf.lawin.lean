set_option maxRecDepth 20000 in
theorem wl_26_14 : Cond.code yL_changed cL_changed 15 (some .boolean) ∈ lw_tbl := List.mem_of_getElem? (i := 372) rfl
