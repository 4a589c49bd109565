set_option maxRecDepth 20000 in
theorem wl_26_17 : Cond.code yL_good cL_good 3 (some .boolean) ∈ lw_tbl := List.mem_of_getElem? (i := 395) rfl
