set_option maxRecDepth 20000 in
theorem wl_26_12 : Cond.methodLink RL 65 yL_changed ∈ lw_tbl := List.mem_of_getElem? (i := 370) (by decide +kernel)
set_option maxRecDepth 20000 in
theorem wl_26_13 : Cond.static yL_changed ∈ lw_tbl := List.mem_of_getElem? (i := 371) (by decide +kernel)
