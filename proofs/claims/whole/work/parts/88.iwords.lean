def iW (y : MethodName) (cc : ByteArray) (mL : Nat) : List Cond := .code y cc mL none :: xgW
set_option maxRecDepth 100000 in
theorem k_code0_ : Cond.code yX0_init cX0_init 1 none ∈ lw_tbl := List.mem_of_getElem? (i := 115) (rfl)
theorem k_code0 : Cond.code yX0_init cX0_init 1 none ∈ xgW := xg_of k_code0_ rfl
set_option maxRecDepth 100000 in
theorem k_oi0_ : Cond.methodLink RX0 3 objectInit ∈ lw_tbl := List.mem_of_getElem? (i := 116) (by decide +kernel)
theorem k_oi0 : Cond.methodLink RX0 3 objectInit ∈ xgW := xg_of k_oi0_ rfl
set_option maxRecDepth 100000 in
theorem k_inst0_ : Cond.instantiable RX0 19 ∈ lw_tbl := List.mem_of_getElem? (i := 112) (by decide +kernel)
theorem k_inst0 : Cond.instantiable RX0 19 ∈ xgW := xg_of k_inst0_ rfl
set_option maxRecDepth 100000 in
theorem k_ini0_ : Cond.initialized RX0 ∈ lw_tbl := List.mem_of_getElem? (i := 73) (by decide +kernel)
theorem k_ini0 : Cond.initialized RX0 ∈ xgW := xg_of k_ini0_ rfl
set_option maxRecDepth 100000 in
theorem k_im0_ : Cond.instanceMethod yX0_init ∈ lw_tbl := List.mem_of_getElem? (i := 114) (by decide +kernel)
theorem k_im0 : Cond.instanceMethod yX0_init ∈ xgW := xg_of k_im0_ rfl
set_option maxRecDepth 100000 in
theorem k_code1_ : Cond.code yX1_init cX1_init 1 none ∈ lw_tbl := List.mem_of_getElem? (i := 92) (rfl)
theorem k_code1 : Cond.code yX1_init cX1_init 1 none ∈ xgW := xg_of k_code1_ rfl
set_option maxRecDepth 100000 in
theorem k_oi1_ : Cond.methodLink RX1 3 objectInit ∈ lw_tbl := List.mem_of_getElem? (i := 93) (by decide +kernel)
theorem k_oi1 : Cond.methodLink RX1 3 objectInit ∈ xgW := xg_of k_oi1_ rfl
set_option maxRecDepth 100000 in
theorem k_inst1_ : Cond.instantiable RX1 4 ∈ lw_tbl := List.mem_of_getElem? (i := 89) (by decide +kernel)
theorem k_inst1 : Cond.instantiable RX1 4 ∈ xgW := xg_of k_inst1_ rfl
set_option maxRecDepth 100000 in
theorem k_ini1_ : Cond.initialized RX1 ∈ lw_tbl := List.mem_of_getElem? (i := 72) (by decide +kernel)
theorem k_ini1 : Cond.initialized RX1 ∈ xgW := xg_of k_ini1_ rfl
set_option maxRecDepth 100000 in
theorem k_im1_ : Cond.instanceMethod yX1_init ∈ lw_tbl := List.mem_of_getElem? (i := 91) (by decide +kernel)
theorem k_im1 : Cond.instanceMethod yX1_init ∈ xgW := xg_of k_im1_ rfl
set_option maxRecDepth 100000 in
theorem k_code2_ : Cond.code yX2_init cX2_init 2 none ∈ lw_tbl := List.mem_of_getElem? (i := 81) (rfl)
theorem k_code2 : Cond.code yX2_init cX2_init 2 none ∈ xgW := xg_of k_code2_ rfl
set_option maxRecDepth 100000 in
theorem k_oi2_ : Cond.methodLink RX2 3 objectInit ∈ lw_tbl := List.mem_of_getElem? (i := 82) (by decide +kernel)
theorem k_oi2 : Cond.methodLink RX2 3 objectInit ∈ xgW := xg_of k_oi2_ rfl
set_option maxRecDepth 100000 in
theorem k_inst2_ : Cond.instantiable RX2 19 ∈ lw_tbl := List.mem_of_getElem? (i := 78) (by decide +kernel)
theorem k_inst2 : Cond.instantiable RX2 19 ∈ xgW := xg_of k_inst2_ rfl
set_option maxRecDepth 100000 in
theorem k_ini2_ : Cond.initialized RX2 ∈ lw_tbl := List.mem_of_getElem? (i := 71) (by decide +kernel)
theorem k_ini2 : Cond.initialized RX2 ∈ xgW := xg_of k_ini2_ rfl
set_option maxRecDepth 100000 in
theorem k_im2_ : Cond.instanceMethod yX2_init ∈ lw_tbl := List.mem_of_getElem? (i := 80) (by decide +kernel)
theorem k_im2 : Cond.instanceMethod yX2_init ∈ xgW := xg_of k_im2_ rfl
set_option maxRecDepth 100000 in
theorem k_code3_ : Cond.code yX3_init cX3_init 1 none ∈ lw_tbl := List.mem_of_getElem? (i := 529) (rfl)
theorem k_code3 : Cond.code yX3_init cX3_init 1 none ∈ xgW := xg_of k_code3_ rfl
set_option maxRecDepth 100000 in
theorem k_oi3_ : Cond.methodLink RX3 1 objectInit ∈ lw_tbl := List.mem_of_getElem? (i := 530) (by decide +kernel)
theorem k_oi3 : Cond.methodLink RX3 1 objectInit ∈ xgW := xg_of k_oi3_ rfl
set_option maxRecDepth 100000 in
theorem k_inst3_ : Cond.instantiable RX3 41 ∈ lw_tbl := List.mem_of_getElem? (i := 526) (by decide +kernel)
theorem k_inst3 : Cond.instantiable RX3 41 ∈ xgW := xg_of k_inst3_ rfl
set_option maxRecDepth 100000 in
theorem k_ini3_ : Cond.initialized RX3 ∈ lw_tbl := List.mem_of_getElem? (i := 74) (by decide +kernel)
theorem k_ini3 : Cond.initialized RX3 ∈ xgW := xg_of k_ini3_ rfl
set_option maxRecDepth 100000 in
theorem k_im3_ : Cond.instanceMethod yX3_init ∈ lw_tbl := List.mem_of_getElem? (i := 528) (by decide +kernel)
theorem k_im3 : Cond.instanceMethod yX3_init ∈ xgW := xg_of k_im3_ rfl
set_option maxRecDepth 100000 in
theorem k_oim_ : Cond.instanceMethod objectInit ∈ lw_tbl := List.mem_of_getElem? (i := 83) (by decide +kernel)
theorem k_oim : Cond.instanceMethod objectInit ∈ xgW := xg_of k_oim_ rfl
set_option maxRecDepth 100000 in
theorem k_cll2_ : Cond.classLink RL 7 RX2 ∈ lw_tbl := List.mem_of_getElem? (i := 77) (by decide +kernel)
theorem k_cll2 : Cond.classLink RL 7 RX2 ∈ xgW := xg_of k_cll2_ rfl
set_option maxRecDepth 100000 in
theorem k_li2_ : Cond.methodLink RL 9 yX2_init ∈ lw_tbl := List.mem_of_getElem? (i := 79) (by decide +kernel)
theorem k_li2 : Cond.methodLink RL 9 yX2_init ∈ xgW := xg_of k_li2_ rfl
set_option maxRecDepth 100000 in
theorem k_oic_ : Cond.code objectInit ⟨#[0xb1]⟩ 1 none ∈ lw_tbl := List.mem_of_getElem? (i := 84) (rfl)
theorem k_oic : Cond.code objectInit ⟨#[0xb1]⟩ 1 none ∈ xgW := xg_of k_oic_ rfl
set_option maxRecDepth 100000 in
theorem k_cl1_ : Cond.classLink RX2 9 RX1 ∈ lw_tbl := List.mem_of_getElem? (i := 85) (by decide +kernel)
theorem k_cl1 : Cond.classLink RX2 9 RX1 ∈ xgW := xg_of k_cl1_ rfl
set_option maxRecDepth 100000 in
theorem k_ao1 : Cond.arrayOver (.object RX1) ∈ lw_tbl := List.mem_of_getElem? (i := 86) (by decide +kernel)
set_option maxRecDepth 100000 in
theorem k_cl0_ : Cond.classLink RX2 15 RX0 ∈ lw_tbl := List.mem_of_getElem? (i := 87) (by decide +kernel)
theorem k_cl0 : Cond.classLink RX2 15 RX0 ∈ xgW := xg_of k_cl0_ rfl
set_option maxRecDepth 100000 in
theorem k_ao0 : Cond.arrayOver (.object RX0) ∈ lw_tbl := List.mem_of_getElem? (i := 88) (by decide +kernel)
set_option maxRecDepth 100000 in
theorem k_ni1_ : Cond.methodLinkNest RX2 42 yX1_init RX2 ∈ lw_tbl := List.mem_of_getElem? (i := 90) (by decide +kernel)
theorem k_ni1 : Cond.methodLinkNest RX2 42 yX1_init RX2 ∈ xnW := xn_of k_ni1_ rfl
set_option maxRecDepth 100000 in
theorem k_ac_int_ : Cond.arrayClass .int ∈ lw_tbl := List.mem_of_getElem? (i := 110) (by decide +kernel)
theorem k_ac_int : Cond.arrayClass .int ∈ xgW := xg_of k_ac_int_ rfl
set_option maxRecDepth 100000 in
theorem k_ac_boolean_ : Cond.arrayClass .boolean ∈ lw_tbl := List.mem_of_getElem? (i := 111) (by decide +kernel)
theorem k_ac_boolean : Cond.arrayClass .boolean ∈ xgW := xg_of k_ac_boolean_ rfl
set_option maxRecDepth 100000 in
theorem k_ni0_ : Cond.methodLinkNest RX2 43 yX0_init RX2 ∈ lw_tbl := List.mem_of_getElem? (i := 113) (by decide +kernel)
theorem k_ni0 : Cond.methodLinkNest RX2 43 yX0_init RX2 ∈ xnW := xn_of k_ni0_ rfl
set_option maxRecDepth 100000 in
theorem k_l13_ : Cond.methodLink RL 13 yX2_act ∈ lw_tbl := List.mem_of_getElem? (i := 251) (by decide +kernel)
theorem k_l13 : Cond.methodLink RL 13 yX2_act ∈ xgW := xg_of k_l13_ rfl
set_option maxRecDepth 100000 in
theorem k_l18_ : Cond.methodLink RL 18 yX2_wipe ∈ lw_tbl := List.mem_of_getElem? (i := 258) (by decide +kernel)
theorem k_l18 : Cond.methodLink RL 18 yX2_wipe ∈ xgW := xg_of k_l18_ rfl
set_option maxRecDepth 100000 in
theorem k_l23_ : Cond.methodLink RL 23 yX2_boot ∈ lw_tbl := List.mem_of_getElem? (i := 262) (by decide +kernel)
theorem k_l23 : Cond.methodLink RL 23 yX2_boot ∈ xgW := xg_of k_l23_ rfl
set_option maxRecDepth 100000 in
theorem k_l27_ : Cond.methodLink RL 27 yX2_tick ∈ lw_tbl := List.mem_of_getElem? (i := 278) (by decide +kernel)
theorem k_l27 : Cond.methodLink RL 27 yX2_tick ∈ xgW := xg_of k_l27_ rfl
set_option maxRecDepth 100000 in
theorem k_l31_ : Cond.methodLink RL 31 yX2_kill ∈ lw_tbl := List.mem_of_getElem? (i := 481) (by decide +kernel)
theorem k_l31 : Cond.methodLink RL 31 yX2_kill ∈ xgW := xg_of k_l31_ rfl
set_option maxRecDepth 100000 in
theorem k_l36_ : Cond.methodLink RL 36 yX2_entry ∈ lw_tbl := List.mem_of_getElem? (i := 485) (by decide +kernel)
theorem k_l36 : Cond.methodLink RL 36 yX2_entry ∈ xgW := xg_of k_l36_ rfl
set_option maxRecDepth 100000 in
theorem k_l40_ : Cond.methodLink RL 40 yX2_told ∈ lw_tbl := List.mem_of_getElem? (i := 489) (by decide +kernel)
theorem k_l40 : Cond.methodLink RL 40 yX2_told ∈ xgW := xg_of k_l40_ rfl
set_option maxRecDepth 100000 in
theorem k_l44_ : Cond.methodLink RL 44 yX2_register ∈ lw_tbl := List.mem_of_getElem? (i := 493) (by decide +kernel)
theorem k_l44 : Cond.methodLink RL 44 yX2_register ∈ xgW := xg_of k_l44_ rfl
set_option maxRecDepth 100000 in
theorem k_l48_ : Cond.methodLink RL 48 yX2_action ∈ lw_tbl := List.mem_of_getElem? (i := 497) (by decide +kernel)
theorem k_l48 : Cond.methodLink RL 48 yX2_action ∈ xgW := xg_of k_l48_ rfl
set_option maxRecDepth 100000 in
theorem k_l52_ : Cond.methodLink RL 52 yX2_child ∈ lw_tbl := List.mem_of_getElem? (i := 501) (by decide +kernel)
theorem k_l52 : Cond.methodLink RL 52 yX2_child ∈ xgW := xg_of k_l52_ rfl
set_option maxRecDepth 100000 in
theorem k_l56_ : Cond.methodLink RL 56 yX2_members ∈ lw_tbl := List.mem_of_getElem? (i := 505) (by decide +kernel)
theorem k_l56 : Cond.methodLink RL 56 yX2_members ∈ xgW := xg_of k_l56_ rfl
set_option maxRecDepth 100000 in
theorem k_l60_ : Cond.methodLink RL 60 yX2_log ∈ lw_tbl := List.mem_of_getElem? (i := 509) (by decide +kernel)
theorem k_l60 : Cond.methodLink RL 60 yX2_log ∈ xgW := xg_of k_l60_ rfl
set_option maxRecDepth 100000 in
theorem k_l64_ : Cond.methodLink RL 64 yX2_count ∈ lw_tbl := List.mem_of_getElem? (i := 513) (by decide +kernel)
theorem k_l64 : Cond.methodLink RL 64 yX2_count ∈ xgW := xg_of k_l64_ rfl
set_option maxRecDepth 100000 in
theorem k_cll3_ : Cond.classLink RL 10 RX3 ∈ lw_tbl := List.mem_of_getElem? (i := 525) (by decide +kernel)
theorem k_cll3 : Cond.classLink RL 10 RX3 ∈ xgW := xg_of k_cll3_ rfl
set_option maxRecDepth 100000 in
theorem k_li3_ : Cond.methodLink RL 12 yX3_init ∈ lw_tbl := List.mem_of_getElem? (i := 527) (by decide +kernel)
theorem k_li3 : Cond.methodLink RL 12 yX3_init ∈ xgW := xg_of k_li3_ rfl
set_option maxRecDepth 100000 in
theorem k_ac_long_ : Cond.arrayClass .long ∈ lw_tbl := List.mem_of_getElem? (i := 655) (by decide +kernel)
theorem k_ac_long : Cond.arrayClass .long ∈ xgW := xg_of k_ac_long_ rfl
set_option maxRecDepth 100000 in
theorem k_l17_ : Cond.methodLink RL 17 yX3_act ∈ lw_tbl := List.mem_of_getElem? (i := 656) (by decide +kernel)
theorem k_l17 : Cond.methodLink RL 17 yX3_act ∈ xgW := xg_of k_l17_ rfl
set_option maxRecDepth 100000 in
theorem k_l22_ : Cond.methodLink RL 22 yX3_wipe ∈ lw_tbl := List.mem_of_getElem? (i := 664) (by decide +kernel)
theorem k_l22 : Cond.methodLink RL 22 yX3_wipe ∈ xgW := xg_of k_l22_ rfl
set_option maxRecDepth 100000 in
theorem k_l26_ : Cond.methodLink RL 26 yX3_boot ∈ lw_tbl := List.mem_of_getElem? (i := 668) (by decide +kernel)
theorem k_l26 : Cond.methodLink RL 26 yX3_boot ∈ xgW := xg_of k_l26_ rfl
set_option maxRecDepth 100000 in
theorem k_l30_ : Cond.methodLink RL 30 yX3_tick ∈ lw_tbl := List.mem_of_getElem? (i := 676) (by decide +kernel)
theorem k_l30 : Cond.methodLink RL 30 yX3_tick ∈ xgW := xg_of k_l30_ rfl
set_option maxRecDepth 100000 in
theorem k_l35_ : Cond.methodLink RL 35 yX3_kill_ ∈ lw_tbl := List.mem_of_getElem? (i := 781) (by decide +kernel)
theorem k_l35 : Cond.methodLink RL 35 yX3_kill_ ∈ xgW := xg_of k_l35_ rfl
set_option maxRecDepth 100000 in
theorem k_l39_ : Cond.methodLink RL 39 yX3_entry ∈ lw_tbl := List.mem_of_getElem? (i := 785) (by decide +kernel)
theorem k_l39 : Cond.methodLink RL 39 yX3_entry ∈ xgW := xg_of k_l39_ rfl
set_option maxRecDepth 100000 in
theorem k_l43_ : Cond.methodLink RL 43 yX3_told ∈ lw_tbl := List.mem_of_getElem? (i := 790) (by decide +kernel)
theorem k_l43 : Cond.methodLink RL 43 yX3_told ∈ xgW := xg_of k_l43_ rfl
set_option maxRecDepth 100000 in
theorem k_l47_ : Cond.methodLink RL 47 yX3_register ∈ lw_tbl := List.mem_of_getElem? (i := 794) (by decide +kernel)
theorem k_l47 : Cond.methodLink RL 47 yX3_register ∈ xgW := xg_of k_l47_ rfl
set_option maxRecDepth 100000 in
theorem k_l51_ : Cond.methodLink RL 51 yX3_action ∈ lw_tbl := List.mem_of_getElem? (i := 799) (by decide +kernel)
theorem k_l51 : Cond.methodLink RL 51 yX3_action ∈ xgW := xg_of k_l51_ rfl
set_option maxRecDepth 100000 in
theorem k_l55_ : Cond.methodLink RL 55 yX3_child ∈ lw_tbl := List.mem_of_getElem? (i := 803) (by decide +kernel)
theorem k_l55 : Cond.methodLink RL 55 yX3_child ∈ xgW := xg_of k_l55_ rfl
set_option maxRecDepth 100000 in
theorem k_l59_ : Cond.methodLink RL 59 yX3_members ∈ lw_tbl := List.mem_of_getElem? (i := 807) (by decide +kernel)
theorem k_l59 : Cond.methodLink RL 59 yX3_members ∈ xgW := xg_of k_l59_ rfl
set_option maxRecDepth 100000 in
theorem k_l63_ : Cond.methodLink RL 63 yX3_log ∈ lw_tbl := List.mem_of_getElem? (i := 811) (by decide +kernel)
theorem k_l63 : Cond.methodLink RL 63 yX3_log ∈ xgW := xg_of k_l63_ rfl
set_option maxRecDepth 100000 in
theorem k_l67_ : Cond.methodLink RL 67 yX3_count ∈ lw_tbl := List.mem_of_getElem? (i := 815) (by decide +kernel)
theorem k_l67 : Cond.methodLink RL 67 yX3_count ∈ xgW := xg_of k_l67_ rfl
set_option maxRecDepth 100000 in
theorem k_f0_9_ : Cond.fieldLink RX0 9 "ProcessTable$Proc" "registers" "[I" ∈ lw_tbl := List.mem_of_getElem? (i := 129) (by decide +kernel)
theorem k_f0_9 : Cond.fieldLink RX0 9 "ProcessTable$Proc" "registers" "[I" ∈ xgW := xg_of k_f0_9_ rfl
set_option maxRecDepth 100000 in
theorem k_f0_15_ : Cond.fieldLink RX0 15 "ProcessTable$Proc" "does" "[I" ∈ lw_tbl := List.mem_of_getElem? (i := 131) (by decide +kernel)
theorem k_f0_15 : Cond.fieldLink RX0 15 "ProcessTable$Proc" "does" "[I" ∈ xgW := xg_of k_f0_15_ rfl
set_option maxRecDepth 100000 in
theorem k_f0_18_ : Cond.fieldLink RX0 18 "ProcessTable$Proc" "keptNext" "[I" ∈ lw_tbl := List.mem_of_getElem? (i := 137) (by decide +kernel)
theorem k_f0_18 : Cond.fieldLink RX0 18 "ProcessTable$Proc" "keptNext" "[I" ∈ xgW := xg_of k_f0_18_ rfl
set_option maxRecDepth 100000 in
theorem k_f0_21_ : Cond.fieldLink RX0 21 "ProcessTable$Proc" "keptBlocked" "[I" ∈ lw_tbl := List.mem_of_getElem? (i := 139) (by decide +kernel)
theorem k_f0_21 : Cond.fieldLink RX0 21 "ProcessTable$Proc" "keptBlocked" "[I" ∈ xgW := xg_of k_f0_21_ rfl
set_option maxRecDepth 100000 in
theorem k_f1_9_ : Cond.fieldLink RX1 9 "ProcessTable$Program" "ops" "[I" ∈ lw_tbl := List.mem_of_getElem? (i := 94) (by decide +kernel)
theorem k_f1_9 : Cond.fieldLink RX1 9 "ProcessTable$Program" "ops" "[I" ∈ xgW := xg_of k_f1_9_ rfl
set_option maxRecDepth 100000 in
theorem k_f1_15_ : Cond.fieldLink RX1 15 "ProcessTable$Program" "as" "[I" ∈ lw_tbl := List.mem_of_getElem? (i := 96) (by decide +kernel)
theorem k_f1_15 : Cond.fieldLink RX1 15 "ProcessTable$Program" "as" "[I" ∈ xgW := xg_of k_f1_15_ rfl
set_option maxRecDepth 100000 in
theorem k_f1_18_ : Cond.fieldLink RX1 18 "ProcessTable$Program" "bs" "[I" ∈ lw_tbl := List.mem_of_getElem? (i := 98) (by decide +kernel)
theorem k_f1_18 : Cond.fieldLink RX1 18 "ProcessTable$Program" "bs" "[I" ∈ xgW := xg_of k_f1_18_ rfl
set_option maxRecDepth 100000 in
theorem k_f2_11_ : Cond.fieldLink RX2 11 "ProcessTable" "programs" "[LProcessTable$Program;" ∈ lw_tbl := List.mem_of_getElem? (i := 193) (by decide +kernel)
theorem k_f2_11 : Cond.fieldLink RX2 11 "ProcessTable" "programs" "[LProcessTable$Program;" ∈ xgW := xg_of k_f2_11_ rfl
set_option maxRecDepth 100000 in
theorem k_f2_17_ : Cond.fieldLink RX2 17 "ProcessTable" "procs" "[LProcessTable$Proc;" ∈ lw_tbl := List.mem_of_getElem? (i := 194) (by decide +kernel)
theorem k_f2_17 : Cond.fieldLink RX2 17 "ProcessTable" "procs" "[LProcessTable$Proc;" ∈ xgW := xg_of k_f2_17_ rfl
set_option maxRecDepth 100000 in
theorem k_f2_21_ : Cond.fieldLink RX2 21 "ProcessTable" "rowTargets" "[LProcessTable$Proc;" ∈ lw_tbl := List.mem_of_getElem? (i := 195) (by decide +kernel)
theorem k_f2_21 : Cond.fieldLink RX2 21 "ProcessTable" "rowTargets" "[LProcessTable$Proc;" ∈ xgW := xg_of k_f2_21_ rfl
set_option maxRecDepth 100000 in
theorem k_f2_24_ : Cond.fieldLink RX2 24 "ProcessTable" "rowSignals" "[I" ∈ lw_tbl := List.mem_of_getElem? (i := 196) (by decide +kernel)
theorem k_f2_24 : Cond.fieldLink RX2 24 "ProcessTable" "rowSignals" "[I" ∈ xgW := xg_of k_f2_24_ rfl
set_option maxRecDepth 100000 in
theorem k_f2_28_ : Cond.fieldLink RX2 28 "ProcessTable" "stoppedInCare" "[Z" ∈ lw_tbl := List.mem_of_getElem? (i := 198) (by decide +kernel)
theorem k_f2_28 : Cond.fieldLink RX2 28 "ProcessTable" "stoppedInCare" "[Z" ∈ xgW := xg_of k_f2_28_ rfl
set_option maxRecDepth 100000 in
theorem k_f2_32_ : Cond.fieldLink RX2 32 "ProcessTable" "logPids" "[I" ∈ lw_tbl := List.mem_of_getElem? (i := 199) (by decide +kernel)
theorem k_f2_32 : Cond.fieldLink RX2 32 "ProcessTable" "logPids" "[I" ∈ xgW := xg_of k_f2_32_ rfl
set_option maxRecDepth 100000 in
theorem k_f2_35_ : Cond.fieldLink RX2 35 "ProcessTable" "logNumbers" "[I" ∈ lw_tbl := List.mem_of_getElem? (i := 200) (by decide +kernel)
theorem k_f2_35 : Cond.fieldLink RX2 35 "ProcessTable" "logNumbers" "[I" ∈ xgW := xg_of k_f2_35_ rfl
set_option maxRecDepth 100000 in
theorem k_f2_38_ : Cond.fieldLink RX2 38 "ProcessTable" "latestTurn" "I" ∈ lw_tbl := List.mem_of_getElem? (i := 204) (by decide +kernel)
theorem k_f2_38 : Cond.fieldLink RX2 38 "ProcessTable" "latestTurn" "I" ∈ xgW := xg_of k_f2_38_ rfl
set_option maxRecDepth 100000 in
theorem k_f3_7_ : Cond.fieldLink RX3 7 "ProcessTableModel" "acts" "[I" ∈ lw_tbl := List.mem_of_getElem? (i := 531) (by decide +kernel)
theorem k_f3_7 : Cond.fieldLink RX3 7 "ProcessTableModel" "acts" "[I" ∈ xgW := xg_of k_f3_7_ rfl
set_option maxRecDepth 100000 in
theorem k_f3_13_ : Cond.fieldLink RX3 13 "ProcessTableModel" "ops" "[I" ∈ lw_tbl := List.mem_of_getElem? (i := 532) (by decide +kernel)
theorem k_f3_13 : Cond.fieldLink RX3 13 "ProcessTableModel" "ops" "[I" ∈ xgW := xg_of k_f3_13_ rfl
set_option maxRecDepth 100000 in
theorem k_f3_16_ : Cond.fieldLink RX3 16 "ProcessTableModel" "as" "[I" ∈ lw_tbl := List.mem_of_getElem? (i := 533) (by decide +kernel)
theorem k_f3_16 : Cond.fieldLink RX3 16 "ProcessTableModel" "as" "[I" ∈ xgW := xg_of k_f3_16_ rfl
set_option maxRecDepth 100000 in
theorem k_f3_19_ : Cond.fieldLink RX3 19 "ProcessTableModel" "bs" "[I" ∈ lw_tbl := List.mem_of_getElem? (i := 534) (by decide +kernel)
theorem k_f3_19 : Cond.fieldLink RX3 19 "ProcessTableModel" "bs" "[I" ∈ xgW := xg_of k_f3_19_ rfl
set_option maxRecDepth 100000 in
theorem k_f3_22_ : Cond.fieldLink RX3 22 "ProcessTableModel" "pid" "[I" ∈ lw_tbl := List.mem_of_getElem? (i := 535) (by decide +kernel)
theorem k_f3_22 : Cond.fieldLink RX3 22 "ProcessTableModel" "pid" "[I" ∈ xgW := xg_of k_f3_22_ rfl
set_option maxRecDepth 100000 in
theorem k_f3_25_ : Cond.fieldLink RX3 25 "ProcessTableModel" "parent" "[I" ∈ lw_tbl := List.mem_of_getElem? (i := 536) (by decide +kernel)
theorem k_f3_25 : Cond.fieldLink RX3 25 "ProcessTableModel" "parent" "[I" ∈ xgW := xg_of k_f3_25_ rfl
set_option maxRecDepth 100000 in
theorem k_f3_28_ : Cond.fieldLink RX3 28 "ProcessTableModel" "group" "[I" ∈ lw_tbl := List.mem_of_getElem? (i := 537) (by decide +kernel)
theorem k_f3_28 : Cond.fieldLink RX3 28 "ProcessTableModel" "group" "[I" ∈ xgW := xg_of k_f3_28_ rfl
set_option maxRecDepth 100000 in
theorem k_f3_31_ : Cond.fieldLink RX3 31 "ProcessTableModel" "state" "[I" ∈ lw_tbl := List.mem_of_getElem? (i := 538) (by decide +kernel)
theorem k_f3_31 : Cond.fieldLink RX3 31 "ProcessTableModel" "state" "[I" ∈ xgW := xg_of k_f3_31_ rfl
set_option maxRecDepth 100000 in
theorem k_f3_34_ : Cond.fieldLink RX3 34 "ProcessTableModel" "program" "[I" ∈ lw_tbl := List.mem_of_getElem? (i := 539) (by decide +kernel)
theorem k_f3_34 : Cond.fieldLink RX3 34 "ProcessTableModel" "program" "[I" ∈ xgW := xg_of k_f3_34_ rfl
set_option maxRecDepth 100000 in
theorem k_f3_37_ : Cond.fieldLink RX3 37 "ProcessTableModel" "next" "[I" ∈ lw_tbl := List.mem_of_getElem? (i := 540) (by decide +kernel)
theorem k_f3_37 : Cond.fieldLink RX3 37 "ProcessTableModel" "next" "[I" ∈ xgW := xg_of k_f3_37_ rfl
set_option maxRecDepth 100000 in
theorem k_f3_40_ : Cond.fieldLink RX3 40 "ProcessTableModel" "registers" "[I" ∈ lw_tbl := List.mem_of_getElem? (i := 541) (by decide +kernel)
theorem k_f3_40 : Cond.fieldLink RX3 40 "ProcessTableModel" "registers" "[I" ∈ xgW := xg_of k_f3_40_ rfl
set_option maxRecDepth 100000 in
theorem k_f3_43_ : Cond.fieldLink RX3 43 "ProcessTableModel" "does" "[I" ∈ lw_tbl := List.mem_of_getElem? (i := 542) (by decide +kernel)
theorem k_f3_43 : Cond.fieldLink RX3 43 "ProcessTableModel" "does" "[I" ∈ xgW := xg_of k_f3_43_ rfl
set_option maxRecDepth 100000 in
theorem k_f3_46_ : Cond.fieldLink RX3 46 "ProcessTableModel" "pending" "[I" ∈ lw_tbl := List.mem_of_getElem? (i := 543) (by decide +kernel)
theorem k_f3_46 : Cond.fieldLink RX3 46 "ProcessTableModel" "pending" "[I" ∈ xgW := xg_of k_f3_46_ rfl
set_option maxRecDepth 100000 in
theorem k_f3_49_ : Cond.fieldLink RX3 49 "ProcessTableModel" "blocked" "[I" ∈ lw_tbl := List.mem_of_getElem? (i := 544) (by decide +kernel)
theorem k_f3_49 : Cond.fieldLink RX3 49 "ProcessTableModel" "blocked" "[I" ∈ xgW := xg_of k_f3_49_ rfl
set_option maxRecDepth 100000 in
theorem k_f3_52_ : Cond.fieldLink RX3 52 "ProcessTableModel" "handlers" "[I" ∈ lw_tbl := List.mem_of_getElem? (i := 545) (by decide +kernel)
theorem k_f3_52 : Cond.fieldLink RX3 52 "ProcessTableModel" "handlers" "[I" ∈ xgW := xg_of k_f3_52_ rfl
set_option maxRecDepth 100000 in
theorem k_f3_55_ : Cond.fieldLink RX3 55 "ProcessTableModel" "keptNext" "[I" ∈ lw_tbl := List.mem_of_getElem? (i := 546) (by decide +kernel)
theorem k_f3_55 : Cond.fieldLink RX3 55 "ProcessTableModel" "keptNext" "[I" ∈ xgW := xg_of k_f3_55_ rfl
set_option maxRecDepth 100000 in
theorem k_f3_58_ : Cond.fieldLink RX3 58 "ProcessTableModel" "keptBlocked" "[I" ∈ lw_tbl := List.mem_of_getElem? (i := 547) (by decide +kernel)
theorem k_f3_58 : Cond.fieldLink RX3 58 "ProcessTableModel" "keptBlocked" "[I" ∈ xgW := xg_of k_f3_58_ rfl
set_option maxRecDepth 100000 in
theorem k_f3_61_ : Cond.fieldLink RX3 61 "ProcessTableModel" "alarm" "[J" ∈ lw_tbl := List.mem_of_getElem? (i := 548) (by decide +kernel)
theorem k_f3_61 : Cond.fieldLink RX3 61 "ProcessTableModel" "alarm" "[J" ∈ xgW := xg_of k_f3_61_ rfl
set_option maxRecDepth 100000 in
theorem k_f3_65_ : Cond.fieldLink RX3 65 "ProcessTableModel" "ended" "[I" ∈ lw_tbl := List.mem_of_getElem? (i := 549) (by decide +kernel)
theorem k_f3_65 : Cond.fieldLink RX3 65 "ProcessTableModel" "ended" "[I" ∈ xgW := xg_of k_f3_65_ rfl
set_option maxRecDepth 100000 in
theorem k_f3_68_ : Cond.fieldLink RX3 68 "ProcessTableModel" "stoppedBy" "[I" ∈ lw_tbl := List.mem_of_getElem? (i := 550) (by decide +kernel)
theorem k_f3_68 : Cond.fieldLink RX3 68 "ProcessTableModel" "stoppedBy" "[I" ∈ xgW := xg_of k_f3_68_ rfl
set_option maxRecDepth 100000 in
theorem k_f3_71_ : Cond.fieldLink RX3 71 "ProcessTableModel" "isStopTold" "[Z" ∈ lw_tbl := List.mem_of_getElem? (i := 551) (by decide +kernel)
theorem k_f3_71 : Cond.fieldLink RX3 71 "ProcessTableModel" "isStopTold" "[Z" ∈ xgW := xg_of k_f3_71_ rfl
set_option maxRecDepth 100000 in
theorem k_f3_75_ : Cond.fieldLink RX3 75 "ProcessTableModel" "didExec" "[Z" ∈ lw_tbl := List.mem_of_getElem? (i := 552) (by decide +kernel)
theorem k_f3_75 : Cond.fieldLink RX3 75 "ProcessTableModel" "didExec" "[Z" ∈ xgW := xg_of k_f3_75_ rfl
set_option maxRecDepth 100000 in
theorem k_f3_78_ : Cond.fieldLink RX3 78 "ProcessTableModel" "waitRegister" "[I" ∈ lw_tbl := List.mem_of_getElem? (i := 553) (by decide +kernel)
theorem k_f3_78 : Cond.fieldLink RX3 78 "ProcessTableModel" "waitRegister" "[I" ∈ xgW := xg_of k_f3_78_ rfl
set_option maxRecDepth 100000 in
theorem k_f3_81_ : Cond.fieldLink RX3 81 "ProcessTableModel" "waitBehind" "[I" ∈ lw_tbl := List.mem_of_getElem? (i := 554) (by decide +kernel)
theorem k_f3_81 : Cond.fieldLink RX3 81 "ProcessTableModel" "waitBehind" "[I" ∈ xgW := xg_of k_f3_81_ rfl
set_option maxRecDepth 100000 in
theorem k_f3_84_ : Cond.fieldLink RX3 84 "ProcessTableModel" "turn" "I" ∈ lw_tbl := List.mem_of_getElem? (i := 556) (by decide +kernel)
theorem k_f3_84 : Cond.fieldLink RX3 84 "ProcessTableModel" "turn" "I" ∈ xgW := xg_of k_f3_84_ rfl
set_option maxRecDepth 100000 in
theorem k_f3_88_ : Cond.fieldLink RX3 88 "ProcessTableModel" "sendTo" "[I" ∈ lw_tbl := List.mem_of_getElem? (i := 558) (by decide +kernel)
theorem k_f3_88 : Cond.fieldLink RX3 88 "ProcessTableModel" "sendTo" "[I" ∈ xgW := xg_of k_f3_88_ rfl
set_option maxRecDepth 100000 in
theorem k_f3_91_ : Cond.fieldLink RX3 91 "ProcessTableModel" "sendWhat" "[I" ∈ lw_tbl := List.mem_of_getElem? (i := 559) (by decide +kernel)
theorem k_f3_91 : Cond.fieldLink RX3 91 "ProcessTableModel" "sendWhat" "[I" ∈ xgW := xg_of k_f3_91_ rfl
set_option maxRecDepth 100000 in
theorem k_f3_94_ : Cond.fieldLink RX3 94 "ProcessTableModel" "logPid" "[I" ∈ lw_tbl := List.mem_of_getElem? (i := 563) (by decide +kernel)
theorem k_f3_94 : Cond.fieldLink RX3 94 "ProcessTableModel" "logPid" "[I" ∈ xgW := xg_of k_f3_94_ rfl
set_option maxRecDepth 100000 in
theorem k_f3_97_ : Cond.fieldLink RX3 97 "ProcessTableModel" "logNumber" "[I" ∈ lw_tbl := List.mem_of_getElem? (i := 564) (by decide +kernel)
theorem k_f3_97 : Cond.fieldLink RX3 97 "ProcessTableModel" "logNumber" "[I" ∈ xgW := xg_of k_f3_97_ rfl
set_option maxRecDepth 100000 in
theorem k_f3_100_ : Cond.fieldLink RX3 100 "ProcessTableModel" "wasOrphaned" "[Z" ∈ lw_tbl := List.mem_of_getElem? (i := 571) (by decide +kernel)
theorem k_f3_100 : Cond.fieldLink RX3 100 "ProcessTableModel" "wasOrphaned" "[Z" ∈ xgW := xg_of k_f3_100_ rfl
