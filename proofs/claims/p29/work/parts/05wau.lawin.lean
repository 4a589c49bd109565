set_option maxRecDepth 20000 in
theorem wl_27_12 : Cond.methodLink RL 123 yX6_wipe ∈ lw_tbl := List.mem_of_getElem? (i := 576) (by decide +kernel)
set_option maxRecDepth 20000 in
theorem wl_27_13 : Cond.instanceMethod yX6_wipe ∈ lw_tbl := List.mem_of_getElem? (i := 577) (by decide +kernel)
set_option maxRecDepth 20000 in
theorem wl_27_14 : Cond.selects RX6 yX6_wipe yX6_wipe ∈ lw_tbl := List.mem_of_getElem? (i := 578) (by decide +kernel)
set_option maxRecDepth 20000 in
theorem wl_27_15 : Cond.code yX6_wipe cX6_wipe 1 (some .int) ∈ lw_tbl := List.mem_of_getElem? (i := 579) (by decide +kernel)
