set_option maxRecDepth 20000 in
theorem wl_28_12 : Cond.code yL_sound cL_sound 16 (some .boolean) ∈ lw_tbl := List.mem_of_getElem? (i := 747) rfl
