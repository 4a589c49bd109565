set_option maxRecDepth 20000 in
theorem wl_28_10 : Cond.methodLink RL 33 yL_sound ∈ lw_tbl := List.mem_of_getElem? (i := 745) (by decide +kernel)
set_option maxRecDepth 20000 in
theorem wl_28_11 : Cond.static yL_sound ∈ lw_tbl := List.mem_of_getElem? (i := 746) (by decide +kernel)
