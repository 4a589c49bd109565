set_option maxRecDepth 20000 in
theorem wl_28_13 : Cond.methodLink RL 143 yL_who ∈ lw_tbl := List.mem_of_getElem? (i := 748) (by decide +kernel)
set_option maxRecDepth 20000 in
theorem wl_28_14 : Cond.static yL_who ∈ lw_tbl := List.mem_of_getElem? (i := 749) (by decide +kernel)
