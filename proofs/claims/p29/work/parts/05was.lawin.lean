set_option maxRecDepth 20000 in
theorem wl_27_9 : Cond.methodLink RL 100 yL_text ∈ lw_tbl := List.mem_of_getElem? (i := 573) (by decide +kernel)
set_option maxRecDepth 20000 in
theorem wl_27_10 : Cond.static yL_text ∈ lw_tbl := List.mem_of_getElem? (i := 574) (by decide +kernel)
