set_option maxRecDepth 20000 in
theorem wl_27_11 : Cond.code yL_text cL_text 20 (some .boolean) ∈ lw_tbl := List.mem_of_getElem? (i := 575) rfl
