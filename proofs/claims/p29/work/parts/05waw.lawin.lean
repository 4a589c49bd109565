set_option maxRecDepth 20000 in
theorem wl_27_18 : Cond.code yL_type cL_type 11 (some .boolean) ∈ lw_tbl := List.mem_of_getElem? (i := 586) rfl
