set_option maxRecDepth 20000 in
theorem wl_28_2 : Cond.constantLong RL 39 (7) ∈ lw_tbl := List.mem_of_getElem? (i := 711) (by decide +kernel)
set_option maxRecDepth 20000 in
theorem wl_28_3 : Cond.constantLong RL 41 (31) ∈ lw_tbl := List.mem_of_getElem? (i := 712) (by decide +kernel)
set_option maxRecDepth 20000 in
theorem wl_28_4 : Cond.methodLink RL 104 yX6_flush ∈ lw_tbl := List.mem_of_getElem? (i := 738) (by decide +kernel)
set_option maxRecDepth 20000 in
theorem wl_28_5 : Cond.instanceMethod yX6_flush ∈ lw_tbl := List.mem_of_getElem? (i := 739) (by decide +kernel)
