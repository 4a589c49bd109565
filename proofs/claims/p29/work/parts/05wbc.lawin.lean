set_option maxRecDepth 20000 in
theorem wl_28_6 : Cond.selects RX6 yX6_flush yX6_flush ∈ lw_tbl := List.mem_of_getElem? (i := 740) (by decide +kernel)
set_option maxRecDepth 20000 in
theorem wl_28_7 : Cond.code yX6_flush cX6_flush 1 (some .int) ∈ lw_tbl := List.mem_of_getElem? (i := 741) (by decide +kernel)
set_option maxRecDepth 20000 in
theorem wl_28_8 : Cond.methodLink RX6 82 yX0_allNotes ∈ lw_tbl := List.mem_of_getElem? (i := 742) (by decide +kernel)
set_option maxRecDepth 20000 in
theorem wl_28_9 : Cond.methodLink RX6 88 yX0_wipeThese ∈ lw_tbl := List.mem_of_getElem? (i := 743) (by decide +kernel)
