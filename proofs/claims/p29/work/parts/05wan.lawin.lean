set_option maxRecDepth 20000 in
theorem wl_27_2 : Cond.code yL_noted cL_noted 5 (some .boolean) ∈ lw_tbl := List.mem_of_getElem? (i := 508) rfl
