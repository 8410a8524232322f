set_option maxRecDepth 100000 in
theorem xck_0 : xchk xtb_0 cX0_begin = true := by decide +kernel
set_option maxRecDepth 100000 in
theorem xck_1 : xchk xtb_1 cX0_clearRows = true := by decide +kernel
set_option maxRecDepth 100000 in
theorem xck_2 : xchk xtb_2 cX0_copyFrom = true := by decide +kernel
set_option maxRecDepth 100000 in
theorem xck_3 : xchk xtb_3 cX0_leaveEntry = true := by decide +kernel
set_option maxRecDepth 100000 in
theorem xck_4 : xchk xtb_4 cX0_wake = true := by decide +kernel
set_option maxRecDepth 100000 in
theorem xck_5 : xchk xtb_5 cX0_interrupt = true := by decide +kernel
set_option maxRecDepth 100000 in
theorem xck_6 : xchk xtb_6 cX0_sleep = true := by decide +kernel
set_option maxRecDepth 100000 in
theorem xck_7 : xchk xtb_7 cX0_handles = true := by decide +kernel
set_option maxRecDepth 100000 in
theorem xck_8 : xchk xtb_8 cX0_blocks = true := by decide +kernel
set_option maxRecDepth 100000 in
theorem xck_9 : xchk xtb_9 cX2_act = true := by decide +kernel
set_option maxRecDepth 100000 in
theorem xck_10 : xchk xtb_10 cX2_wipe = true := by decide +kernel
set_option maxRecDepth 100000 in
theorem xck_11 : xchk xtb_11 cX2_isProgram = true := by decide +kernel
set_option maxRecDepth 100000 in
theorem xck_12 : xchk xtb_12 cX2_boot = true := by decide +kernel
set_option maxRecDepth 100000 in
theorem xck_13 : xchk xtb_13 cX2_tick = true := by decide +kernel
set_option maxRecDepth 100000 in
theorem xck_14 : xchk xtb_14 cX2_kill = true := by decide +kernel
set_option maxRecDepth 100000 in
theorem xck_15 : xchk xtb_15 cX2_isSignal = true := by decide +kernel
set_option maxRecDepth 100000 in
theorem xck_16 : xchk xtb_16 cX2_find = true := by decide +kernel
set_option maxRecDepth 100000 in
theorem xck_17 : xchk xtb_17 cX2_ringAlarms = true := by decide +kernel
set_option maxRecDepth 100000 in
theorem xck_18 : xchk xtb_18 cX2_nextReady = true := by decide +kernel
set_option maxRecDepth 100000 in
theorem xck_19 : xchk xtb_19 cX2_takeTurn = true := by decide +kernel
set_option maxRecDepth 100000 in
theorem xck_20 : xchk xtb_20 cX2_leastSignal = true := by decide +kernel
set_option maxRecDepth 100000 in
theorem xck_21 : xchk xtb_21 cX2_beginHandler = true := by decide +kernel
set_option maxRecDepth 100000 in
theorem xck_22 : xchk xtb_22 cX2_happenPending = true := by decide +kernel
set_option maxRecDepth 100000 in
theorem xck_23 : xchk xtb_23 cX2_send = true := by decide +kernel
set_option maxRecDepth 100000 in
theorem xck_24 : xchk xtb_24 cX2_sendToGroup = true := by decide +kernel
set_option maxRecDepth 100000 in
theorem xck_25 : xchk xtb_25 cX2_deliverRow = true := by decide +kernel
set_option maxRecDepth 100000 in
theorem xck_26 : xchk xtb_26 cX2_deliver = true := by decide +kernel
set_option maxRecDepth 100000 in
theorem xck_27 : xchk xtb_27 cX2_goOn = true := by decide +kernel
set_option maxRecDepth 100000 in
theorem xck_28 : xchk xtb_28 cX2_happen = true := by decide +kernel
set_option maxRecDepth 100000 in
theorem xck_29 : xchk xtb_29 cX2_stop = true := by decide +kernel
set_option maxRecDepth 100000 in
theorem xck_30 : xchk xtb_30 cX2_end = true := by decide +kernel
set_option maxRecDepth 100000 in
theorem xck_31 : xchk xtb_31 cX2_panic = true := by decide +kernel
set_option maxRecDepth 100000 in
theorem xck_32 : xchk xtb_32 cX2_leaveChildren = true := by decide +kernel
set_option maxRecDepth 100000 in
theorem xck_33 : xchk xtb_33 cX2_noteStoppedInCare = true := by decide +kernel
set_option maxRecDepth 100000 in
theorem xck_34 : xchk xtb_34 cX2_sendToOrphaned = true := by decide +kernel
set_option maxRecDepth 100000 in
theorem xck_35 : xchk xtb_35 cX2_leastGroupInCare = true := by decide +kernel
set_option maxRecDepth 100000 in
theorem xck_36 : xchk xtb_36 cX2_isOrphaned = true := by decide +kernel
set_option maxRecDepth 100000 in
theorem xck_37 : xchk xtb_37 cX2_doAct = true := by decide +kernel
set_option maxRecDepth 100000 in
theorem xck_38 : xchk xtb_38 cX2_registerOf = true := by decide +kernel
set_option maxRecDepth 100000 in
theorem xck_39 : xchk xtb_39 cX2_doPlainOp = true := by decide +kernel
set_option maxRecDepth 100000 in
theorem xck_40 : xchk xtb_40 cX2_doFamilyOp = true := by decide +kernel
set_option maxRecDepth 100000 in
theorem xck_41 : xchk xtb_41 cX2_doSignalOp = true := by decide +kernel
set_option maxRecDepth 100000 in
theorem xck_42 : xchk xtb_42 cX2_doNameOp = true := by decide +kernel
set_option maxRecDepth 100000 in
theorem xck_43 : xchk xtb_43 cX2_parentOf = true := by decide +kernel
set_option maxRecDepth 100000 in
theorem xck_44 : xchk xtb_44 cX2_writeLog = true := by decide +kernel
set_option maxRecDepth 100000 in
theorem xck_45 : xchk xtb_45 cX2_fork = true := by decide +kernel
set_option maxRecDepth 100000 in
theorem xck_46 : xchk xtb_46 cX2_firstFree = true := by decide +kernel
set_option maxRecDepth 100000 in
theorem xck_47 : xchk xtb_47 cX2_newPid = true := by decide +kernel
set_option maxRecDepth 100000 in
theorem xck_48 : xchk xtb_48 cX2_isGroup = true := by decide +kernel
set_option maxRecDepth 100000 in
theorem xck_49 : xchk xtb_49 cX2_exec = true := by decide +kernel
set_option maxRecDepth 100000 in
theorem xck_50 : xchk xtb_50 cX2_awaitChild = true := by decide +kernel
set_option maxRecDepth 100000 in
theorem xck_51 : xchk xtb_51 cX2_isMeantChild = true := by decide +kernel
set_option maxRecDepth 100000 in
theorem xck_52 : xchk xtb_52 cX2_means = true := by decide +kernel
set_option maxRecDepth 100000 in
theorem xck_53 : xchk xtb_53 cX2_sendToMeant = true := by decide +kernel
set_option maxRecDepth 100000 in
theorem xck_54 : xchk xtb_54 cX2_setAction = true := by decide +kernel
set_option maxRecDepth 100000 in
theorem xck_55 : xchk xtb_55 cX2_returnFromHandler = true := by decide +kernel
set_option maxRecDepth 100000 in
theorem xck_56 : xchk xtb_56 cX2_setAlarm = true := by decide +kernel
set_option maxRecDepth 100000 in
theorem xck_57 : xchk xtb_57 cX2_untilAlarm = true := by decide +kernel
set_option maxRecDepth 100000 in
theorem xck_58 : xchk xtb_58 cX2_join = true := by decide +kernel
set_option maxRecDepth 100000 in
theorem xck_59 : xchk xtb_59 cX2_entry = true := by decide +kernel
set_option maxRecDepth 100000 in
theorem xck_60 : xchk xtb_60 cX2_told = true := by decide +kernel
set_option maxRecDepth 100000 in
theorem xck_61 : xchk xtb_61 cX2_register = true := by decide +kernel
set_option maxRecDepth 100000 in
theorem xck_62 : xchk xtb_62 cX2_action = true := by decide +kernel
set_option maxRecDepth 100000 in
theorem xck_63 : xchk xtb_63 cX2_child = true := by decide +kernel
set_option maxRecDepth 100000 in
theorem xck_64 : xchk xtb_64 cX2_members = true := by decide +kernel
set_option maxRecDepth 100000 in
theorem xck_65 : xchk xtb_65 cX2_log = true := by decide +kernel
set_option maxRecDepth 100000 in
theorem xck_66 : xchk xtb_66 cX2_count = true := by decide +kernel
set_option maxRecDepth 100000 in
theorem xck_67 : xchk xtb_67 cX2_countProcesses = true := by decide +kernel
set_option maxRecDepth 100000 in
theorem xck_68 : xchk xtb_68 cX2_countInState = true := by decide +kernel
set_option maxRecDepth 100000 in
theorem xck_69 : xchk xtb_69 cX3_in = true := by decide +kernel
set_option maxRecDepth 100000 in
theorem xck_70 : xchk xtb_70 cX3_act = true := by decide +kernel
set_option maxRecDepth 100000 in
theorem xck_71 : xchk xtb_71 cX3_wipe = true := by decide +kernel
set_option maxRecDepth 100000 in
theorem xck_72 : xchk xtb_72 cX3_entryOf = true := by decide +kernel
set_option maxRecDepth 100000 in
theorem xck_73 : xchk xtb_73 cX3_freeEntry = true := by decide +kernel
set_option maxRecDepth 100000 in
theorem xck_74 : xchk xtb_74 cX3_isTaken = true := by decide +kernel
set_option maxRecDepth 100000 in
theorem xck_75 : xchk xtb_75 cX3_newPid = true := by decide +kernel
set_option maxRecDepth 100000 in
theorem xck_76 : xchk xtb_76 cX3_boot = true := by decide +kernel
set_option maxRecDepth 100000 in
theorem xck_77 : xchk xtb_77 cX3_send = true := by decide +kernel
set_option maxRecDepth 100000 in
theorem xck_78 : xchk xtb_78 cX3_sendTo = true := by decide +kernel
set_option maxRecDepth 100000 in
theorem xck_79 : xchk xtb_79 cX3_doRow = true := by decide +kernel
set_option maxRecDepth 100000 in
theorem xck_80 : xchk xtb_80 cX3_come = true := by decide +kernel
set_option maxRecDepth 100000 in
theorem xck_81 : xchk xtb_81 cX3_happen = true := by decide +kernel
set_option maxRecDepth 100000 in
theorem xck_82 : xchk xtb_82 cX3_wake = true := by decide +kernel
set_option maxRecDepth 100000 in
theorem xck_83 : xchk xtb_83 cX3_isOrphaned = true := by decide +kernel
set_option maxRecDepth 100000 in
theorem xck_84 : xchk xtb_84 cX3_end = true := by decide +kernel
set_option maxRecDepth 100000 in
theorem xck_85 : xchk xtb_85 cX3_tellOrphans = true := by decide +kernel
set_option maxRecDepth 100000 in
theorem xck_86 : xchk xtb_86 cX3_panic = true := by decide +kernel
set_option maxRecDepth 100000 in
theorem xck_87 : xchk xtb_87 cX3_tick = true := by decide +kernel
set_option maxRecDepth 100000 in
theorem xck_88 : xchk xtb_88 cX3_takeTurn = true := by decide +kernel
set_option maxRecDepth 100000 in
theorem xck_89 : xchk xtb_89 cX3_beginHandler = true := by decide +kernel
set_option maxRecDepth 100000 in
theorem xck_90 : xchk xtb_90 cX3_eighth = true := by decide +kernel
set_option maxRecDepth 100000 in
theorem xck_91 : xchk xtb_91 cX3_doAct = true := by decide +kernel
set_option maxRecDepth 100000 in
theorem xck_92 : xchk xtb_92 cX3_doMore = true := by decide +kernel
set_option maxRecDepth 100000 in
theorem xck_93 : xchk xtb_93 cX3_fork = true := by decide +kernel
set_option maxRecDepth 100000 in
theorem xck_94 : xchk xtb_94 cX3_exec = true := by decide +kernel
set_option maxRecDepth 100000 in
theorem xck_95 : xchk xtb_95 cX3_means = true := by decide +kernel
set_option maxRecDepth 100000 in
theorem xck_96 : xchk xtb_96 cX3_await = true := by decide +kernel
set_option maxRecDepth 100000 in
theorem xck_97 : xchk xtb_97 cX3_kill = true := by decide +kernel
set_option maxRecDepth 100000 in
theorem xck_98 : xchk xtb_98 cX3_join = true := by decide +kernel
set_option maxRecDepth 100000 in
theorem xck_99 : xchk xtb_99 cX3_kill_ = true := by decide +kernel
set_option maxRecDepth 100000 in
theorem xck_100 : xchk xtb_100 cX3_entry = true := by decide +kernel
set_option maxRecDepth 100000 in
theorem xck_101 : xchk xtb_101 cX3_told = true := by decide +kernel
set_option maxRecDepth 100000 in
theorem xck_102 : xchk xtb_102 cX3_register = true := by decide +kernel
set_option maxRecDepth 100000 in
theorem xck_103 : xchk xtb_103 cX3_action = true := by decide +kernel
set_option maxRecDepth 100000 in
theorem xck_104 : xchk xtb_104 cX3_child = true := by decide +kernel
set_option maxRecDepth 100000 in
theorem xck_105 : xchk xtb_105 cX3_members = true := by decide +kernel
set_option maxRecDepth 100000 in
theorem xck_106 : xchk xtb_106 cX3_log = true := by decide +kernel
set_option maxRecDepth 100000 in
theorem xck_107 : xchk xtb_107 cX3_howMany = true := by decide +kernel
set_option maxRecDepth 100000 in
theorem xck_108 : xchk xtb_108 cX3_count = true := by decide +kernel
theorem xck_all : ∀ q ∈ xtbs.zip (xms.map fun q => q.2.2.1), xchk q.1 q.2 = true := List.forall_mem_cons.mpr ⟨xck_0, List.forall_mem_cons.mpr ⟨xck_1, List.forall_mem_cons.mpr ⟨xck_2, List.forall_mem_cons.mpr ⟨xck_3, List.forall_mem_cons.mpr ⟨xck_4, List.forall_mem_cons.mpr ⟨xck_5, List.forall_mem_cons.mpr ⟨xck_6, List.forall_mem_cons.mpr ⟨xck_7, List.forall_mem_cons.mpr ⟨xck_8, List.forall_mem_cons.mpr ⟨xck_9, List.forall_mem_cons.mpr ⟨xck_10, List.forall_mem_cons.mpr ⟨xck_11, List.forall_mem_cons.mpr ⟨xck_12, List.forall_mem_cons.mpr ⟨xck_13, List.forall_mem_cons.mpr ⟨xck_14, List.forall_mem_cons.mpr ⟨xck_15, List.forall_mem_cons.mpr ⟨xck_16, List.forall_mem_cons.mpr ⟨xck_17, List.forall_mem_cons.mpr ⟨xck_18, List.forall_mem_cons.mpr ⟨xck_19, List.forall_mem_cons.mpr ⟨xck_20, List.forall_mem_cons.mpr ⟨xck_21, List.forall_mem_cons.mpr ⟨xck_22, List.forall_mem_cons.mpr ⟨xck_23, List.forall_mem_cons.mpr ⟨xck_24, List.forall_mem_cons.mpr ⟨xck_25, List.forall_mem_cons.mpr ⟨xck_26, List.forall_mem_cons.mpr ⟨xck_27, List.forall_mem_cons.mpr ⟨xck_28, List.forall_mem_cons.mpr ⟨xck_29, List.forall_mem_cons.mpr ⟨xck_30, List.forall_mem_cons.mpr ⟨xck_31, List.forall_mem_cons.mpr ⟨xck_32, List.forall_mem_cons.mpr ⟨xck_33, List.forall_mem_cons.mpr ⟨xck_34, List.forall_mem_cons.mpr ⟨xck_35, List.forall_mem_cons.mpr ⟨xck_36, List.forall_mem_cons.mpr ⟨xck_37, List.forall_mem_cons.mpr ⟨xck_38, List.forall_mem_cons.mpr ⟨xck_39, List.forall_mem_cons.mpr ⟨xck_40, List.forall_mem_cons.mpr ⟨xck_41, List.forall_mem_cons.mpr ⟨xck_42, List.forall_mem_cons.mpr ⟨xck_43, List.forall_mem_cons.mpr ⟨xck_44, List.forall_mem_cons.mpr ⟨xck_45, List.forall_mem_cons.mpr ⟨xck_46, List.forall_mem_cons.mpr ⟨xck_47, List.forall_mem_cons.mpr ⟨xck_48, List.forall_mem_cons.mpr ⟨xck_49, List.forall_mem_cons.mpr ⟨xck_50, List.forall_mem_cons.mpr ⟨xck_51, List.forall_mem_cons.mpr ⟨xck_52, List.forall_mem_cons.mpr ⟨xck_53, List.forall_mem_cons.mpr ⟨xck_54, List.forall_mem_cons.mpr ⟨xck_55, List.forall_mem_cons.mpr ⟨xck_56, List.forall_mem_cons.mpr ⟨xck_57, List.forall_mem_cons.mpr ⟨xck_58, List.forall_mem_cons.mpr ⟨xck_59, List.forall_mem_cons.mpr ⟨xck_60, List.forall_mem_cons.mpr ⟨xck_61, List.forall_mem_cons.mpr ⟨xck_62, List.forall_mem_cons.mpr ⟨xck_63, List.forall_mem_cons.mpr ⟨xck_64, List.forall_mem_cons.mpr ⟨xck_65, List.forall_mem_cons.mpr ⟨xck_66, List.forall_mem_cons.mpr ⟨xck_67, List.forall_mem_cons.mpr ⟨xck_68, List.forall_mem_cons.mpr ⟨xck_69, List.forall_mem_cons.mpr ⟨xck_70, List.forall_mem_cons.mpr ⟨xck_71, List.forall_mem_cons.mpr ⟨xck_72, List.forall_mem_cons.mpr ⟨xck_73, List.forall_mem_cons.mpr ⟨xck_74, List.forall_mem_cons.mpr ⟨xck_75, List.forall_mem_cons.mpr ⟨xck_76, List.forall_mem_cons.mpr ⟨xck_77, List.forall_mem_cons.mpr ⟨xck_78, List.forall_mem_cons.mpr ⟨xck_79, List.forall_mem_cons.mpr ⟨xck_80, List.forall_mem_cons.mpr ⟨xck_81, List.forall_mem_cons.mpr ⟨xck_82, List.forall_mem_cons.mpr ⟨xck_83, List.forall_mem_cons.mpr ⟨xck_84, List.forall_mem_cons.mpr ⟨xck_85, List.forall_mem_cons.mpr ⟨xck_86, List.forall_mem_cons.mpr ⟨xck_87, List.forall_mem_cons.mpr ⟨xck_88, List.forall_mem_cons.mpr ⟨xck_89, List.forall_mem_cons.mpr ⟨xck_90, List.forall_mem_cons.mpr ⟨xck_91, List.forall_mem_cons.mpr ⟨xck_92, List.forall_mem_cons.mpr ⟨xck_93, List.forall_mem_cons.mpr ⟨xck_94, List.forall_mem_cons.mpr ⟨xck_95, List.forall_mem_cons.mpr ⟨xck_96, List.forall_mem_cons.mpr ⟨xck_97, List.forall_mem_cons.mpr ⟨xck_98, List.forall_mem_cons.mpr ⟨xck_99, List.forall_mem_cons.mpr ⟨xck_100, List.forall_mem_cons.mpr ⟨xck_101, List.forall_mem_cons.mpr ⟨xck_102, List.forall_mem_cons.mpr ⟨xck_103, List.forall_mem_cons.mpr ⟨xck_104, List.forall_mem_cons.mpr ⟨xck_105, List.forall_mem_cons.mpr ⟨xck_106, List.forall_mem_cons.mpr ⟨xck_107, List.forall_mem_cons.mpr ⟨xck_108, fun _ h => absurd h List.not_mem_nil⟩⟩⟩⟩⟩⟩⟩⟩⟩⟩⟩⟩⟩⟩⟩⟩⟩⟩⟩⟩⟩⟩⟩⟩⟩⟩⟩⟩⟩⟩⟩⟩⟩⟩⟩⟩⟩⟩⟩⟩⟩⟩⟩⟩⟩⟩⟩⟩⟩⟩⟩⟩⟩⟩⟩⟩⟩⟩⟩⟩⟩⟩⟩⟩⟩⟩⟩⟩⟩⟩⟩⟩⟩⟩⟩⟩⟩⟩⟩⟩⟩⟩⟩⟩⟩⟩⟩⟩⟩⟩⟩⟩⟩⟩⟩⟩⟩⟩⟩⟩⟩⟩⟩⟩⟩⟩⟩⟩⟩
def xcdW (q : xMd) : Cond := .code q.2.1 q.2.2.1 q.2.2.2.1 q.2.2.2.2.1
set_option maxRecDepth 100000 in
theorem xcd_0 : lw_tbl[273]? = some (xcdW xms_0) := rfl
set_option maxRecDepth 100000 in
theorem xcd_1 : lw_tbl[277]? = some (xcdW xms_1) := rfl
set_option maxRecDepth 100000 in
theorem xcd_2 : lw_tbl[419]? = some (xcdW xms_2) := rfl
set_option maxRecDepth 100000 in
theorem xcd_3 : lw_tbl[334]? = some (xcdW xms_3) := rfl
set_option maxRecDepth 100000 in
theorem xcd_4 : lw_tbl[322]? = some (xcdW xms_4) := rfl
set_option maxRecDepth 100000 in
theorem xcd_5 : lw_tbl[362]? = some (xcdW xms_5) := rfl
set_option maxRecDepth 100000 in
theorem xcd_6 : lw_tbl[439]? = some (xcdW xms_6) := rfl
set_option maxRecDepth 100000 in
theorem xcd_7 : lw_tbl[310]? = some (xcdW xms_7) := rfl
set_option maxRecDepth 100000 in
theorem xcd_8 : lw_tbl[306]? = some (xcdW xms_8) := rfl
set_option maxRecDepth 100000 in
theorem xcd_9 : lw_tbl[254]? = some (xcdW xms_9) := rfl
set_option maxRecDepth 100000 in
theorem xcd_10 : lw_tbl[261]? = some (xcdW xms_10) := rfl
set_option maxRecDepth 100000 in
theorem xcd_11 : lw_tbl[257]? = some (xcdW xms_11) := rfl
set_option maxRecDepth 100000 in
theorem xcd_12 : lw_tbl[265]? = some (xcdW xms_12) := rfl
set_option maxRecDepth 100000 in
theorem xcd_13 : lw_tbl[281]? = some (xcdW xms_13) := rfl
set_option maxRecDepth 100000 in
theorem xcd_14 : lw_tbl[484]? = some (xcdW xms_14) := rfl
set_option maxRecDepth 100000 in
theorem xcd_15 : lw_tbl[450]? = some (xcdW xms_15) := rfl
set_option maxRecDepth 100000 in
theorem xcd_16 : lw_tbl[269]? = some (xcdW xms_16) := rfl
set_option maxRecDepth 100000 in
theorem xcd_17 : lw_tbl[285]? = some (xcdW xms_17) := rfl
set_option maxRecDepth 100000 in
theorem xcd_18 : lw_tbl[366]? = some (xcdW xms_18) := rfl
set_option maxRecDepth 100000 in
theorem xcd_19 : lw_tbl[370]? = some (xcdW xms_19) := rfl
set_option maxRecDepth 100000 in
theorem xcd_20 : lw_tbl[373]? = some (xcdW xms_20) := rfl
set_option maxRecDepth 100000 in
theorem xcd_21 : lw_tbl[377]? = some (xcdW xms_21) := rfl
set_option maxRecDepth 100000 in
theorem xcd_22 : lw_tbl[480]? = some (xcdW xms_22) := rfl
set_option maxRecDepth 100000 in
theorem xcd_23 : lw_tbl[289]? = some (xcdW xms_23) := rfl
set_option maxRecDepth 100000 in
theorem xcd_24 : lw_tbl[358]? = some (xcdW xms_24) := rfl
set_option maxRecDepth 100000 in
theorem xcd_25 : lw_tbl[293]? = some (xcdW xms_25) := rfl
set_option maxRecDepth 100000 in
theorem xcd_26 : lw_tbl[297]? = some (xcdW xms_26) := rfl
set_option maxRecDepth 100000 in
theorem xcd_27 : lw_tbl[300]? = some (xcdW xms_27) := rfl
set_option maxRecDepth 100000 in
theorem xcd_28 : lw_tbl[314]? = some (xcdW xms_28) := rfl
set_option maxRecDepth 100000 in
theorem xcd_29 : lw_tbl[318]? = some (xcdW xms_29) := rfl
set_option maxRecDepth 100000 in
theorem xcd_30 : lw_tbl[326]? = some (xcdW xms_30) := rfl
set_option maxRecDepth 100000 in
theorem xcd_31 : lw_tbl[330]? = some (xcdW xms_31) := rfl
set_option maxRecDepth 100000 in
theorem xcd_32 : lw_tbl[346]? = some (xcdW xms_32) := rfl
set_option maxRecDepth 100000 in
theorem xcd_33 : lw_tbl[338]? = some (xcdW xms_33) := rfl
set_option maxRecDepth 100000 in
theorem xcd_34 : lw_tbl[350]? = some (xcdW xms_34) := rfl
set_option maxRecDepth 100000 in
theorem xcd_35 : lw_tbl[354]? = some (xcdW xms_35) := rfl
set_option maxRecDepth 100000 in
theorem xcd_36 : lw_tbl[342]? = some (xcdW xms_36) := rfl
set_option maxRecDepth 100000 in
theorem xcd_37 : lw_tbl[381]? = some (xcdW xms_37) := rfl
set_option maxRecDepth 100000 in
theorem xcd_38 : lw_tbl[388]? = some (xcdW xms_38) := rfl
set_option maxRecDepth 100000 in
theorem xcd_39 : lw_tbl[385]? = some (xcdW xms_39) := rfl
set_option maxRecDepth 100000 in
theorem xcd_40 : lw_tbl[399]? = some (xcdW xms_40) := rfl
set_option maxRecDepth 100000 in
theorem xcd_41 : lw_tbl[443]? = some (xcdW xms_41) := rfl
set_option maxRecDepth 100000 in
theorem xcd_42 : lw_tbl[469]? = some (xcdW xms_42) := rfl
set_option maxRecDepth 100000 in
theorem xcd_43 : lw_tbl[472]? = some (xcdW xms_43) := rfl
set_option maxRecDepth 100000 in
theorem xcd_44 : lw_tbl[392]? = some (xcdW xms_44) := rfl
set_option maxRecDepth 100000 in
theorem xcd_45 : lw_tbl[403]? = some (xcdW xms_45) := rfl
set_option maxRecDepth 100000 in
theorem xcd_46 : lw_tbl[407]? = some (xcdW xms_46) := rfl
set_option maxRecDepth 100000 in
theorem xcd_47 : lw_tbl[411]? = some (xcdW xms_47) := rfl
set_option maxRecDepth 100000 in
theorem xcd_48 : lw_tbl[415]? = some (xcdW xms_48) := rfl
set_option maxRecDepth 100000 in
theorem xcd_49 : lw_tbl[425]? = some (xcdW xms_49) := rfl
set_option maxRecDepth 100000 in
theorem xcd_50 : lw_tbl[429]? = some (xcdW xms_50) := rfl
set_option maxRecDepth 100000 in
theorem xcd_51 : lw_tbl[432]? = some (xcdW xms_51) := rfl
set_option maxRecDepth 100000 in
theorem xcd_52 : lw_tbl[435]? = some (xcdW xms_52) := rfl
set_option maxRecDepth 100000 in
theorem xcd_53 : lw_tbl[447]? = some (xcdW xms_53) := rfl
set_option maxRecDepth 100000 in
theorem xcd_54 : lw_tbl[453]? = some (xcdW xms_54) := rfl
set_option maxRecDepth 100000 in
theorem xcd_55 : lw_tbl[457]? = some (xcdW xms_55) := rfl
set_option maxRecDepth 100000 in
theorem xcd_56 : lw_tbl[461]? = some (xcdW xms_56) := rfl
set_option maxRecDepth 100000 in
theorem xcd_57 : lw_tbl[465]? = some (xcdW xms_57) := rfl
set_option maxRecDepth 100000 in
theorem xcd_58 : lw_tbl[476]? = some (xcdW xms_58) := rfl
set_option maxRecDepth 100000 in
theorem xcd_59 : lw_tbl[488]? = some (xcdW xms_59) := rfl
set_option maxRecDepth 100000 in
theorem xcd_60 : lw_tbl[492]? = some (xcdW xms_60) := rfl
set_option maxRecDepth 100000 in
theorem xcd_61 : lw_tbl[496]? = some (xcdW xms_61) := rfl
set_option maxRecDepth 100000 in
theorem xcd_62 : lw_tbl[500]? = some (xcdW xms_62) := rfl
set_option maxRecDepth 100000 in
theorem xcd_63 : lw_tbl[504]? = some (xcdW xms_63) := rfl
set_option maxRecDepth 100000 in
theorem xcd_64 : lw_tbl[508]? = some (xcdW xms_64) := rfl
set_option maxRecDepth 100000 in
theorem xcd_65 : lw_tbl[512]? = some (xcdW xms_65) := rfl
set_option maxRecDepth 100000 in
theorem xcd_66 : lw_tbl[516]? = some (xcdW xms_66) := rfl
set_option maxRecDepth 100000 in
theorem xcd_67 : lw_tbl[520]? = some (xcdW xms_67) := rfl
set_option maxRecDepth 100000 in
theorem xcd_68 : lw_tbl[524]? = some (xcdW xms_68) := rfl
set_option maxRecDepth 100000 in
theorem xcd_69 : lw_tbl[663]? = some (xcdW xms_69) := rfl
set_option maxRecDepth 100000 in
theorem xcd_70 : lw_tbl[659]? = some (xcdW xms_70) := rfl
set_option maxRecDepth 100000 in
theorem xcd_71 : lw_tbl[667]? = some (xcdW xms_71) := rfl
set_option maxRecDepth 100000 in
theorem xcd_72 : lw_tbl[675]? = some (xcdW xms_72) := rfl
set_option maxRecDepth 100000 in
theorem xcd_73 : lw_tbl[745]? = some (xcdW xms_73) := rfl
set_option maxRecDepth 100000 in
theorem xcd_74 : lw_tbl[753]? = some (xcdW xms_74) := rfl
set_option maxRecDepth 100000 in
theorem xcd_75 : lw_tbl[749]? = some (xcdW xms_75) := rfl
set_option maxRecDepth 100000 in
theorem xcd_76 : lw_tbl[671]? = some (xcdW xms_76) := rfl
set_option maxRecDepth 100000 in
theorem xcd_77 : lw_tbl[684]? = some (xcdW xms_77) := rfl
set_option maxRecDepth 100000 in
theorem xcd_78 : lw_tbl[718]? = some (xcdW xms_78) := rfl
set_option maxRecDepth 100000 in
theorem xcd_79 : lw_tbl[688]? = some (xcdW xms_79) := rfl
set_option maxRecDepth 100000 in
theorem xcd_80 : lw_tbl[692]? = some (xcdW xms_80) := rfl
set_option maxRecDepth 100000 in
theorem xcd_81 : lw_tbl[698]? = some (xcdW xms_81) := rfl
set_option maxRecDepth 100000 in
theorem xcd_82 : lw_tbl[714]? = some (xcdW xms_82) := rfl
set_option maxRecDepth 100000 in
theorem xcd_83 : lw_tbl[710]? = some (xcdW xms_83) := rfl
set_option maxRecDepth 100000 in
theorem xcd_84 : lw_tbl[702]? = some (xcdW xms_84) := rfl
set_option maxRecDepth 100000 in
theorem xcd_85 : lw_tbl[722]? = some (xcdW xms_85) := rfl
set_option maxRecDepth 100000 in
theorem xcd_86 : lw_tbl[706]? = some (xcdW xms_86) := rfl
set_option maxRecDepth 100000 in
theorem xcd_87 : lw_tbl[679]? = some (xcdW xms_87) := rfl
set_option maxRecDepth 100000 in
theorem xcd_88 : lw_tbl[726]? = some (xcdW xms_88) := rfl
set_option maxRecDepth 100000 in
theorem xcd_89 : lw_tbl[730]? = some (xcdW xms_89) := rfl
set_option maxRecDepth 100000 in
theorem xcd_90 : lw_tbl[737]? = some (xcdW xms_90) := rfl
set_option maxRecDepth 100000 in
theorem xcd_91 : lw_tbl[734]? = some (xcdW xms_91) := rfl
set_option maxRecDepth 100000 in
theorem xcd_92 : lw_tbl[774]? = some (xcdW xms_92) := rfl
set_option maxRecDepth 100000 in
theorem xcd_93 : lw_tbl[741]? = some (xcdW xms_93) := rfl
set_option maxRecDepth 100000 in
theorem xcd_94 : lw_tbl[757]? = some (xcdW xms_94) := rfl
set_option maxRecDepth 100000 in
theorem xcd_95 : lw_tbl[765]? = some (xcdW xms_95) := rfl
set_option maxRecDepth 100000 in
theorem xcd_96 : lw_tbl[761]? = some (xcdW xms_96) := rfl
set_option maxRecDepth 100000 in
theorem xcd_97 : lw_tbl[769]? = some (xcdW xms_97) := rfl
set_option maxRecDepth 100000 in
theorem xcd_98 : lw_tbl[780]? = some (xcdW xms_98) := rfl
set_option maxRecDepth 100000 in
theorem xcd_99 : lw_tbl[784]? = some (xcdW xms_99) := rfl
set_option maxRecDepth 100000 in
theorem xcd_100 : lw_tbl[788]? = some (xcdW xms_100) := rfl
set_option maxRecDepth 100000 in
theorem xcd_101 : lw_tbl[793]? = some (xcdW xms_101) := rfl
set_option maxRecDepth 100000 in
theorem xcd_102 : lw_tbl[797]? = some (xcdW xms_102) := rfl
set_option maxRecDepth 100000 in
theorem xcd_103 : lw_tbl[802]? = some (xcdW xms_103) := rfl
set_option maxRecDepth 100000 in
theorem xcd_104 : lw_tbl[806]? = some (xcdW xms_104) := rfl
set_option maxRecDepth 100000 in
theorem xcd_105 : lw_tbl[810]? = some (xcdW xms_105) := rfl
set_option maxRecDepth 100000 in
theorem xcd_106 : lw_tbl[814]? = some (xcdW xms_106) := rfl
set_option maxRecDepth 100000 in
theorem xcd_107 : lw_tbl[822]? = some (xcdW xms_107) := rfl
set_option maxRecDepth 100000 in
theorem xcd_108 : lw_tbl[818]? = some (xcdW xms_108) := rfl
theorem xcd_all : ∀ q ∈ xms, xcdW q ∈ lw_tbl := List.forall_mem_cons.mpr ⟨List.mem_of_getElem? xcd_0, List.forall_mem_cons.mpr ⟨List.mem_of_getElem? xcd_1, List.forall_mem_cons.mpr ⟨List.mem_of_getElem? xcd_2, List.forall_mem_cons.mpr ⟨List.mem_of_getElem? xcd_3, List.forall_mem_cons.mpr ⟨List.mem_of_getElem? xcd_4, List.forall_mem_cons.mpr ⟨List.mem_of_getElem? xcd_5, List.forall_mem_cons.mpr ⟨List.mem_of_getElem? xcd_6, List.forall_mem_cons.mpr ⟨List.mem_of_getElem? xcd_7, List.forall_mem_cons.mpr ⟨List.mem_of_getElem? xcd_8, List.forall_mem_cons.mpr ⟨List.mem_of_getElem? xcd_9, List.forall_mem_cons.mpr ⟨List.mem_of_getElem? xcd_10, List.forall_mem_cons.mpr ⟨List.mem_of_getElem? xcd_11, List.forall_mem_cons.mpr ⟨List.mem_of_getElem? xcd_12, List.forall_mem_cons.mpr ⟨List.mem_of_getElem? xcd_13, List.forall_mem_cons.mpr ⟨List.mem_of_getElem? xcd_14, List.forall_mem_cons.mpr ⟨List.mem_of_getElem? xcd_15, List.forall_mem_cons.mpr ⟨List.mem_of_getElem? xcd_16, List.forall_mem_cons.mpr ⟨List.mem_of_getElem? xcd_17, List.forall_mem_cons.mpr ⟨List.mem_of_getElem? xcd_18, List.forall_mem_cons.mpr ⟨List.mem_of_getElem? xcd_19, List.forall_mem_cons.mpr ⟨List.mem_of_getElem? xcd_20, List.forall_mem_cons.mpr ⟨List.mem_of_getElem? xcd_21, List.forall_mem_cons.mpr ⟨List.mem_of_getElem? xcd_22, List.forall_mem_cons.mpr ⟨List.mem_of_getElem? xcd_23, List.forall_mem_cons.mpr ⟨List.mem_of_getElem? xcd_24, List.forall_mem_cons.mpr ⟨List.mem_of_getElem? xcd_25, List.forall_mem_cons.mpr ⟨List.mem_of_getElem? xcd_26, List.forall_mem_cons.mpr ⟨List.mem_of_getElem? xcd_27, List.forall_mem_cons.mpr ⟨List.mem_of_getElem? xcd_28, List.forall_mem_cons.mpr ⟨List.mem_of_getElem? xcd_29, List.forall_mem_cons.mpr ⟨List.mem_of_getElem? xcd_30, List.forall_mem_cons.mpr ⟨List.mem_of_getElem? xcd_31, List.forall_mem_cons.mpr ⟨List.mem_of_getElem? xcd_32, List.forall_mem_cons.mpr ⟨List.mem_of_getElem? xcd_33, List.forall_mem_cons.mpr ⟨List.mem_of_getElem? xcd_34, List.forall_mem_cons.mpr ⟨List.mem_of_getElem? xcd_35, List.forall_mem_cons.mpr ⟨List.mem_of_getElem? xcd_36, List.forall_mem_cons.mpr ⟨List.mem_of_getElem? xcd_37, List.forall_mem_cons.mpr ⟨List.mem_of_getElem? xcd_38, List.forall_mem_cons.mpr ⟨List.mem_of_getElem? xcd_39, List.forall_mem_cons.mpr ⟨List.mem_of_getElem? xcd_40, List.forall_mem_cons.mpr ⟨List.mem_of_getElem? xcd_41, List.forall_mem_cons.mpr ⟨List.mem_of_getElem? xcd_42, List.forall_mem_cons.mpr ⟨List.mem_of_getElem? xcd_43, List.forall_mem_cons.mpr ⟨List.mem_of_getElem? xcd_44, List.forall_mem_cons.mpr ⟨List.mem_of_getElem? xcd_45, List.forall_mem_cons.mpr ⟨List.mem_of_getElem? xcd_46, List.forall_mem_cons.mpr ⟨List.mem_of_getElem? xcd_47, List.forall_mem_cons.mpr ⟨List.mem_of_getElem? xcd_48, List.forall_mem_cons.mpr ⟨List.mem_of_getElem? xcd_49, List.forall_mem_cons.mpr ⟨List.mem_of_getElem? xcd_50, List.forall_mem_cons.mpr ⟨List.mem_of_getElem? xcd_51, List.forall_mem_cons.mpr ⟨List.mem_of_getElem? xcd_52, List.forall_mem_cons.mpr ⟨List.mem_of_getElem? xcd_53, List.forall_mem_cons.mpr ⟨List.mem_of_getElem? xcd_54, List.forall_mem_cons.mpr ⟨List.mem_of_getElem? xcd_55, List.forall_mem_cons.mpr ⟨List.mem_of_getElem? xcd_56, List.forall_mem_cons.mpr ⟨List.mem_of_getElem? xcd_57, List.forall_mem_cons.mpr ⟨List.mem_of_getElem? xcd_58, List.forall_mem_cons.mpr ⟨List.mem_of_getElem? xcd_59, List.forall_mem_cons.mpr ⟨List.mem_of_getElem? xcd_60, List.forall_mem_cons.mpr ⟨List.mem_of_getElem? xcd_61, List.forall_mem_cons.mpr ⟨List.mem_of_getElem? xcd_62, List.forall_mem_cons.mpr ⟨List.mem_of_getElem? xcd_63, List.forall_mem_cons.mpr ⟨List.mem_of_getElem? xcd_64, List.forall_mem_cons.mpr ⟨List.mem_of_getElem? xcd_65, List.forall_mem_cons.mpr ⟨List.mem_of_getElem? xcd_66, List.forall_mem_cons.mpr ⟨List.mem_of_getElem? xcd_67, List.forall_mem_cons.mpr ⟨List.mem_of_getElem? xcd_68, List.forall_mem_cons.mpr ⟨List.mem_of_getElem? xcd_69, List.forall_mem_cons.mpr ⟨List.mem_of_getElem? xcd_70, List.forall_mem_cons.mpr ⟨List.mem_of_getElem? xcd_71, List.forall_mem_cons.mpr ⟨List.mem_of_getElem? xcd_72, List.forall_mem_cons.mpr ⟨List.mem_of_getElem? xcd_73, List.forall_mem_cons.mpr ⟨List.mem_of_getElem? xcd_74, List.forall_mem_cons.mpr ⟨List.mem_of_getElem? xcd_75, List.forall_mem_cons.mpr ⟨List.mem_of_getElem? xcd_76, List.forall_mem_cons.mpr ⟨List.mem_of_getElem? xcd_77, List.forall_mem_cons.mpr ⟨List.mem_of_getElem? xcd_78, List.forall_mem_cons.mpr ⟨List.mem_of_getElem? xcd_79, List.forall_mem_cons.mpr ⟨List.mem_of_getElem? xcd_80, List.forall_mem_cons.mpr ⟨List.mem_of_getElem? xcd_81, List.forall_mem_cons.mpr ⟨List.mem_of_getElem? xcd_82, List.forall_mem_cons.mpr ⟨List.mem_of_getElem? xcd_83, List.forall_mem_cons.mpr ⟨List.mem_of_getElem? xcd_84, List.forall_mem_cons.mpr ⟨List.mem_of_getElem? xcd_85, List.forall_mem_cons.mpr ⟨List.mem_of_getElem? xcd_86, List.forall_mem_cons.mpr ⟨List.mem_of_getElem? xcd_87, List.forall_mem_cons.mpr ⟨List.mem_of_getElem? xcd_88, List.forall_mem_cons.mpr ⟨List.mem_of_getElem? xcd_89, List.forall_mem_cons.mpr ⟨List.mem_of_getElem? xcd_90, List.forall_mem_cons.mpr ⟨List.mem_of_getElem? xcd_91, List.forall_mem_cons.mpr ⟨List.mem_of_getElem? xcd_92, List.forall_mem_cons.mpr ⟨List.mem_of_getElem? xcd_93, List.forall_mem_cons.mpr ⟨List.mem_of_getElem? xcd_94, List.forall_mem_cons.mpr ⟨List.mem_of_getElem? xcd_95, List.forall_mem_cons.mpr ⟨List.mem_of_getElem? xcd_96, List.forall_mem_cons.mpr ⟨List.mem_of_getElem? xcd_97, List.forall_mem_cons.mpr ⟨List.mem_of_getElem? xcd_98, List.forall_mem_cons.mpr ⟨List.mem_of_getElem? xcd_99, List.forall_mem_cons.mpr ⟨List.mem_of_getElem? xcd_100, List.forall_mem_cons.mpr ⟨List.mem_of_getElem? xcd_101, List.forall_mem_cons.mpr ⟨List.mem_of_getElem? xcd_102, List.forall_mem_cons.mpr ⟨List.mem_of_getElem? xcd_103, List.forall_mem_cons.mpr ⟨List.mem_of_getElem? xcd_104, List.forall_mem_cons.mpr ⟨List.mem_of_getElem? xcd_105, List.forall_mem_cons.mpr ⟨List.mem_of_getElem? xcd_106, List.forall_mem_cons.mpr ⟨List.mem_of_getElem? xcd_107, List.forall_mem_cons.mpr ⟨List.mem_of_getElem? xcd_108, fun _ h => absurd h List.not_mem_nil⟩⟩⟩⟩⟩⟩⟩⟩⟩⟩⟩⟩⟩⟩⟩⟩⟩⟩⟩⟩⟩⟩⟩⟩⟩⟩⟩⟩⟩⟩⟩⟩⟩⟩⟩⟩⟩⟩⟩⟩⟩⟩⟩⟩⟩⟩⟩⟩⟩⟩⟩⟩⟩⟩⟩⟩⟩⟩⟩⟩⟩⟩⟩⟩⟩⟩⟩⟩⟩⟩⟩⟩⟩⟩⟩⟩⟩⟩⟩⟩⟩⟩⟩⟩⟩⟩⟩⟩⟩⟩⟩⟩⟩⟩⟩⟩⟩⟩⟩⟩⟩⟩⟩⟩⟩⟩⟩⟩⟩
