set_option maxRecDepth 20000 in
theorem wl_26_11 : Cond.code yL_act cL_act 15 (some .boolean) ∈ lw_tbl := List.mem_of_getElem? (i := 327) rfl
