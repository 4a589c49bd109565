set_option maxRecDepth 20000 in
theorem wl_28_18 : Cond.code yL_back cL_back 7 (some .boolean) ∈ lw_tbl := List.mem_of_getElem? (i := 782) rfl
