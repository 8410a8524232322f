set_option maxRecDepth 100000 in
theorem xac_nat : Cond.native arraycopyName ∈ lw_tbl := List.mem_of_getElem? (i := 422) (by decide +kernel)
set_option maxRecDepth 100000 in
theorem xac_sta : Cond.static arraycopyName ∈ lw_tbl := List.mem_of_getElem? (i := 421) (by decide +kernel)
set_option maxRecDepth 100000 in
theorem xac_ini : Cond.initialized "java/lang/System" ∈ lw_tbl := List.mem_of_getElem? (i := 76) (by decide +kernel)
set_option maxRecDepth 100000 in
theorem xmm_sta : Cond.static Lib.Math.min.name ∈ lw_tbl := List.mem_of_getElem? (i := 394) (by decide +kernel)
set_option maxRecDepth 100000 in
theorem xmm_ini : Cond.initialized "java/lang/Math" ∈ lw_tbl := List.mem_of_getElem? (i := 75) (by decide +kernel)
set_option maxRecDepth 100000 in
theorem xmm_cod : Cond.code Lib.Math.min.name Lib.Math.min.code 2 (some .int) ∈ lw_tbl := List.mem_of_getElem? (i := 395) (by decide +kernel)
