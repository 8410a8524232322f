section
-- ===== PART A: goes FIRST, ahead of the names: the tables' words, and 'selects' of the private methods out of them =====
/-- a private method of a class that the tables say can be made, by its rows of tables_1 -/
def lw_okq (q : MethodName × Nat) : Prop := (q.1.cls ≠ "java/lang/invoke/MethodHandle" ∧ q.1.cls ≠ "java/lang/invoke/VarHandle") ∧ Cond.instantiable q.1.cls q.2 ∈ tables_1 ∧ Cond.privateMethod q.1 ∈ tables_1 ∧ Cond.instanceMethod q.1 ∈ tables_1
theorem lw_p0 : lw_okq (⟨"ProcessTable", "find", "(I)LProcessTable$Proc;"⟩, 19) := ⟨⟨by decide +kernel, by decide +kernel⟩, List.mem_of_getElem? (i := 8) (by decide +kernel), List.mem_of_getElem? (i := 197) (by decide +kernel), List.mem_of_getElem? (i := 198) (by decide +kernel)⟩
theorem lw_p1 : lw_okq (⟨"ProcessTable$Proc", "begin", "(ILProcessTable$Proc;II)V"⟩, 19) := ⟨⟨by decide +kernel, by decide +kernel⟩, List.mem_of_getElem? (i := 42) (by decide +kernel), List.mem_of_getElem? (i := 201) (by decide +kernel), List.mem_of_getElem? (i := 202) (by decide +kernel)⟩
theorem lw_p2 : lw_okq (⟨"ProcessTable$Proc", "clearRows", "()V"⟩, 19) := ⟨⟨by decide +kernel, by decide +kernel⟩, List.mem_of_getElem? (i := 42) (by decide +kernel), List.mem_of_getElem? (i := 205) (by decide +kernel), List.mem_of_getElem? (i := 206) (by decide +kernel)⟩
theorem lw_p3 : lw_okq (⟨"ProcessTable", "ringAlarms", "()V"⟩, 19) := ⟨⟨by decide +kernel, by decide +kernel⟩, List.mem_of_getElem? (i := 8) (by decide +kernel), List.mem_of_getElem? (i := 213) (by decide +kernel), List.mem_of_getElem? (i := 214) (by decide +kernel)⟩
theorem lw_p4 : lw_okq (⟨"ProcessTable", "send", "(LProcessTable$Proc;I)V"⟩, 19) := ⟨⟨by decide +kernel, by decide +kernel⟩, List.mem_of_getElem? (i := 8) (by decide +kernel), List.mem_of_getElem? (i := 217) (by decide +kernel), List.mem_of_getElem? (i := 218) (by decide +kernel)⟩
theorem lw_p5 : lw_okq (⟨"ProcessTable", "deliverRow", "()V"⟩, 19) := ⟨⟨by decide +kernel, by decide +kernel⟩, List.mem_of_getElem? (i := 8) (by decide +kernel), List.mem_of_getElem? (i := 221) (by decide +kernel), List.mem_of_getElem? (i := 222) (by decide +kernel)⟩
theorem lw_p6 : lw_okq (⟨"ProcessTable", "deliver", "(LProcessTable$Proc;I)V"⟩, 19) := ⟨⟨by decide +kernel, by decide +kernel⟩, List.mem_of_getElem? (i := 8) (by decide +kernel), List.mem_of_getElem? (i := 225) (by decide +kernel), List.mem_of_getElem? (i := 226) (by decide +kernel)⟩
theorem lw_p7 : lw_okq (⟨"ProcessTable$Proc", "blocks", "(I)Z"⟩, 19) := ⟨⟨by decide +kernel, by decide +kernel⟩, List.mem_of_getElem? (i := 42) (by decide +kernel), List.mem_of_getElem? (i := 234) (by decide +kernel), List.mem_of_getElem? (i := 235) (by decide +kernel)⟩
theorem lw_p8 : lw_okq (⟨"ProcessTable$Proc", "handles", "(I)Z"⟩, 19) := ⟨⟨by decide +kernel, by decide +kernel⟩, List.mem_of_getElem? (i := 42) (by decide +kernel), List.mem_of_getElem? (i := 238) (by decide +kernel), List.mem_of_getElem? (i := 239) (by decide +kernel)⟩
theorem lw_p9 : lw_okq (⟨"ProcessTable", "happen", "(LProcessTable$Proc;I)V"⟩, 19) := ⟨⟨by decide +kernel, by decide +kernel⟩, List.mem_of_getElem? (i := 8) (by decide +kernel), List.mem_of_getElem? (i := 242) (by decide +kernel), List.mem_of_getElem? (i := 243) (by decide +kernel)⟩
theorem lw_p10 : lw_okq (⟨"ProcessTable", "stop", "(LProcessTable$Proc;I)V"⟩, 19) := ⟨⟨by decide +kernel, by decide +kernel⟩, List.mem_of_getElem? (i := 8) (by decide +kernel), List.mem_of_getElem? (i := 246) (by decide +kernel), List.mem_of_getElem? (i := 247) (by decide +kernel)⟩
theorem lw_p11 : lw_okq (⟨"ProcessTable$Proc", "wake", "()V"⟩, 19) := ⟨⟨by decide +kernel, by decide +kernel⟩, List.mem_of_getElem? (i := 42) (by decide +kernel), List.mem_of_getElem? (i := 250) (by decide +kernel), List.mem_of_getElem? (i := 251) (by decide +kernel)⟩
theorem lw_p12 : lw_okq (⟨"ProcessTable", "end", "(LProcessTable$Proc;I)V"⟩, 19) := ⟨⟨by decide +kernel, by decide +kernel⟩, List.mem_of_getElem? (i := 8) (by decide +kernel), List.mem_of_getElem? (i := 254) (by decide +kernel), List.mem_of_getElem? (i := 255) (by decide +kernel)⟩
theorem lw_p13 : lw_okq (⟨"ProcessTable", "panic", "()V"⟩, 19) := ⟨⟨by decide +kernel, by decide +kernel⟩, List.mem_of_getElem? (i := 8) (by decide +kernel), List.mem_of_getElem? (i := 258) (by decide +kernel), List.mem_of_getElem? (i := 259) (by decide +kernel)⟩
theorem lw_p14 : lw_okq (⟨"ProcessTable$Proc", "leaveEntry", "()V"⟩, 19) := ⟨⟨by decide +kernel, by decide +kernel⟩, List.mem_of_getElem? (i := 42) (by decide +kernel), List.mem_of_getElem? (i := 262) (by decide +kernel), List.mem_of_getElem? (i := 263) (by decide +kernel)⟩
theorem lw_p15 : lw_okq (⟨"ProcessTable", "noteStoppedInCare", "(LProcessTable$Proc;)V"⟩, 19) := ⟨⟨by decide +kernel, by decide +kernel⟩, List.mem_of_getElem? (i := 8) (by decide +kernel), List.mem_of_getElem? (i := 266) (by decide +kernel), List.mem_of_getElem? (i := 267) (by decide +kernel)⟩
def lw_privs_1 : List (MethodName × Nat) := [(⟨"ProcessTable", "find", "(I)LProcessTable$Proc;"⟩, 19), (⟨"ProcessTable$Proc", "begin", "(ILProcessTable$Proc;II)V"⟩, 19), (⟨"ProcessTable$Proc", "clearRows", "()V"⟩, 19), (⟨"ProcessTable", "ringAlarms", "()V"⟩, 19), (⟨"ProcessTable", "send", "(LProcessTable$Proc;I)V"⟩, 19), (⟨"ProcessTable", "deliverRow", "()V"⟩, 19), (⟨"ProcessTable", "deliver", "(LProcessTable$Proc;I)V"⟩, 19), (⟨"ProcessTable$Proc", "blocks", "(I)Z"⟩, 19), (⟨"ProcessTable$Proc", "handles", "(I)Z"⟩, 19), (⟨"ProcessTable", "happen", "(LProcessTable$Proc;I)V"⟩, 19), (⟨"ProcessTable", "stop", "(LProcessTable$Proc;I)V"⟩, 19), (⟨"ProcessTable$Proc", "wake", "()V"⟩, 19), (⟨"ProcessTable", "end", "(LProcessTable$Proc;I)V"⟩, 19), (⟨"ProcessTable", "panic", "()V"⟩, 19), (⟨"ProcessTable$Proc", "leaveEntry", "()V"⟩, 19), (⟨"ProcessTable", "noteStoppedInCare", "(LProcessTable$Proc;)V"⟩, 19)]
theorem lw_r1 : ∀ q ∈ lw_privs_1, lw_okq q := List.forall_mem_cons.mpr ⟨lw_p0, List.forall_mem_cons.mpr ⟨lw_p1, List.forall_mem_cons.mpr ⟨lw_p2, List.forall_mem_cons.mpr ⟨lw_p3, List.forall_mem_cons.mpr ⟨lw_p4, List.forall_mem_cons.mpr ⟨lw_p5, List.forall_mem_cons.mpr ⟨lw_p6, List.forall_mem_cons.mpr ⟨lw_p7, List.forall_mem_cons.mpr ⟨lw_p8, List.forall_mem_cons.mpr ⟨lw_p9, List.forall_mem_cons.mpr ⟨lw_p10, List.forall_mem_cons.mpr ⟨lw_p11, List.forall_mem_cons.mpr ⟨lw_p12, List.forall_mem_cons.mpr ⟨lw_p13, List.forall_mem_cons.mpr ⟨lw_p14, List.forall_mem_cons.mpr ⟨lw_p15, fun _ h => absurd h List.not_mem_nil⟩⟩⟩⟩⟩⟩⟩⟩⟩⟩⟩⟩⟩⟩⟩⟩
theorem lw_p16 : lw_okq (⟨"ProcessTable", "isOrphaned", "(I)Z"⟩, 19) := ⟨⟨by decide +kernel, by decide +kernel⟩, List.mem_of_getElem? (i := 8) (by decide +kernel), List.mem_of_getElem? (i := 270) (by decide +kernel), List.mem_of_getElem? (i := 271) (by decide +kernel)⟩
theorem lw_p17 : lw_okq (⟨"ProcessTable", "leaveChildren", "(LProcessTable$Proc;)V"⟩, 19) := ⟨⟨by decide +kernel, by decide +kernel⟩, List.mem_of_getElem? (i := 8) (by decide +kernel), List.mem_of_getElem? (i := 274) (by decide +kernel), List.mem_of_getElem? (i := 275) (by decide +kernel)⟩
theorem lw_p18 : lw_okq (⟨"ProcessTable", "sendToOrphaned", "()V"⟩, 19) := ⟨⟨by decide +kernel, by decide +kernel⟩, List.mem_of_getElem? (i := 8) (by decide +kernel), List.mem_of_getElem? (i := 278) (by decide +kernel), List.mem_of_getElem? (i := 279) (by decide +kernel)⟩
theorem lw_p19 : lw_okq (⟨"ProcessTable", "leastGroupInCare", "(I)I"⟩, 19) := ⟨⟨by decide +kernel, by decide +kernel⟩, List.mem_of_getElem? (i := 8) (by decide +kernel), List.mem_of_getElem? (i := 282) (by decide +kernel), List.mem_of_getElem? (i := 283) (by decide +kernel)⟩
theorem lw_p20 : lw_okq (⟨"ProcessTable", "sendToGroup", "(II)V"⟩, 19) := ⟨⟨by decide +kernel, by decide +kernel⟩, List.mem_of_getElem? (i := 8) (by decide +kernel), List.mem_of_getElem? (i := 286) (by decide +kernel), List.mem_of_getElem? (i := 287) (by decide +kernel)⟩
theorem lw_p21 : lw_okq (⟨"ProcessTable$Proc", "interrupt", "()V"⟩, 19) := ⟨⟨by decide +kernel, by decide +kernel⟩, List.mem_of_getElem? (i := 42) (by decide +kernel), List.mem_of_getElem? (i := 290) (by decide +kernel), List.mem_of_getElem? (i := 291) (by decide +kernel)⟩
theorem lw_p22 : lw_okq (⟨"ProcessTable", "nextReady", "()I"⟩, 19) := ⟨⟨by decide +kernel, by decide +kernel⟩, List.mem_of_getElem? (i := 8) (by decide +kernel), List.mem_of_getElem? (i := 294) (by decide +kernel), List.mem_of_getElem? (i := 295) (by decide +kernel)⟩
theorem lw_p23 : lw_okq (⟨"ProcessTable", "takeTurn", "(LProcessTable$Proc;)V"⟩, 19) := ⟨⟨by decide +kernel, by decide +kernel⟩, List.mem_of_getElem? (i := 8) (by decide +kernel), List.mem_of_getElem? (i := 298) (by decide +kernel), List.mem_of_getElem? (i := 299) (by decide +kernel)⟩
theorem lw_p24 : lw_okq (⟨"ProcessTable", "beginHandler", "(LProcessTable$Proc;I)V"⟩, 19) := ⟨⟨by decide +kernel, by decide +kernel⟩, List.mem_of_getElem? (i := 8) (by decide +kernel), List.mem_of_getElem? (i := 305) (by decide +kernel), List.mem_of_getElem? (i := 306) (by decide +kernel)⟩
theorem lw_p25 : lw_okq (⟨"ProcessTable", "doAct", "(LProcessTable$Proc;III)V"⟩, 19) := ⟨⟨by decide +kernel, by decide +kernel⟩, List.mem_of_getElem? (i := 8) (by decide +kernel), List.mem_of_getElem? (i := 309) (by decide +kernel), List.mem_of_getElem? (i := 310) (by decide +kernel)⟩
theorem lw_p26 : lw_okq (⟨"ProcessTable", "doPlainOp", "(LProcessTable$Proc;III)V"⟩, 19) := ⟨⟨by decide +kernel, by decide +kernel⟩, List.mem_of_getElem? (i := 8) (by decide +kernel), List.mem_of_getElem? (i := 313) (by decide +kernel), List.mem_of_getElem? (i := 314) (by decide +kernel)⟩
theorem lw_p27 : lw_okq (⟨"ProcessTable", "writeLog", "(II)V"⟩, 19) := ⟨⟨by decide +kernel, by decide +kernel⟩, List.mem_of_getElem? (i := 8) (by decide +kernel), List.mem_of_getElem? (i := 320) (by decide +kernel), List.mem_of_getElem? (i := 321) (by decide +kernel)⟩
theorem lw_p28 : lw_okq (⟨"ProcessTable", "doFamilyOp", "(LProcessTable$Proc;III)V"⟩, 19) := ⟨⟨by decide +kernel, by decide +kernel⟩, List.mem_of_getElem? (i := 8) (by decide +kernel), List.mem_of_getElem? (i := 327) (by decide +kernel), List.mem_of_getElem? (i := 328) (by decide +kernel)⟩
theorem lw_p29 : lw_okq (⟨"ProcessTable", "fork", "(LProcessTable$Proc;I)V"⟩, 19) := ⟨⟨by decide +kernel, by decide +kernel⟩, List.mem_of_getElem? (i := 8) (by decide +kernel), List.mem_of_getElem? (i := 331) (by decide +kernel), List.mem_of_getElem? (i := 332) (by decide +kernel)⟩
theorem lw_p30 : lw_okq (⟨"ProcessTable", "firstFree", "()LProcessTable$Proc;"⟩, 19) := ⟨⟨by decide +kernel, by decide +kernel⟩, List.mem_of_getElem? (i := 8) (by decide +kernel), List.mem_of_getElem? (i := 335) (by decide +kernel), List.mem_of_getElem? (i := 336) (by decide +kernel)⟩
theorem lw_p31 : lw_okq (⟨"ProcessTable", "newPid", "()I"⟩, 19) := ⟨⟨by decide +kernel, by decide +kernel⟩, List.mem_of_getElem? (i := 8) (by decide +kernel), List.mem_of_getElem? (i := 339) (by decide +kernel), List.mem_of_getElem? (i := 340) (by decide +kernel)⟩
def lw_privs_2 : List (MethodName × Nat) := [(⟨"ProcessTable", "isOrphaned", "(I)Z"⟩, 19), (⟨"ProcessTable", "leaveChildren", "(LProcessTable$Proc;)V"⟩, 19), (⟨"ProcessTable", "sendToOrphaned", "()V"⟩, 19), (⟨"ProcessTable", "leastGroupInCare", "(I)I"⟩, 19), (⟨"ProcessTable", "sendToGroup", "(II)V"⟩, 19), (⟨"ProcessTable$Proc", "interrupt", "()V"⟩, 19), (⟨"ProcessTable", "nextReady", "()I"⟩, 19), (⟨"ProcessTable", "takeTurn", "(LProcessTable$Proc;)V"⟩, 19), (⟨"ProcessTable", "beginHandler", "(LProcessTable$Proc;I)V"⟩, 19), (⟨"ProcessTable", "doAct", "(LProcessTable$Proc;III)V"⟩, 19), (⟨"ProcessTable", "doPlainOp", "(LProcessTable$Proc;III)V"⟩, 19), (⟨"ProcessTable", "writeLog", "(II)V"⟩, 19), (⟨"ProcessTable", "doFamilyOp", "(LProcessTable$Proc;III)V"⟩, 19), (⟨"ProcessTable", "fork", "(LProcessTable$Proc;I)V"⟩, 19), (⟨"ProcessTable", "firstFree", "()LProcessTable$Proc;"⟩, 19), (⟨"ProcessTable", "newPid", "()I"⟩, 19)]
theorem lw_r2 : ∀ q ∈ lw_privs_2, lw_okq q := List.forall_mem_cons.mpr ⟨lw_p16, List.forall_mem_cons.mpr ⟨lw_p17, List.forall_mem_cons.mpr ⟨lw_p18, List.forall_mem_cons.mpr ⟨lw_p19, List.forall_mem_cons.mpr ⟨lw_p20, List.forall_mem_cons.mpr ⟨lw_p21, List.forall_mem_cons.mpr ⟨lw_p22, List.forall_mem_cons.mpr ⟨lw_p23, List.forall_mem_cons.mpr ⟨lw_p24, List.forall_mem_cons.mpr ⟨lw_p25, List.forall_mem_cons.mpr ⟨lw_p26, List.forall_mem_cons.mpr ⟨lw_p27, List.forall_mem_cons.mpr ⟨lw_p28, List.forall_mem_cons.mpr ⟨lw_p29, List.forall_mem_cons.mpr ⟨lw_p30, List.forall_mem_cons.mpr ⟨lw_p31, fun _ h => absurd h List.not_mem_nil⟩⟩⟩⟩⟩⟩⟩⟩⟩⟩⟩⟩⟩⟩⟩⟩
theorem lw_p32 : lw_okq (⟨"ProcessTable", "isGroup", "(I)Z"⟩, 19) := ⟨⟨by decide +kernel, by decide +kernel⟩, List.mem_of_getElem? (i := 8) (by decide +kernel), List.mem_of_getElem? (i := 343) (by decide +kernel), List.mem_of_getElem? (i := 344) (by decide +kernel)⟩
theorem lw_p33 : lw_okq (⟨"ProcessTable$Proc", "copyFrom", "(LProcessTable$Proc;)V"⟩, 19) := ⟨⟨by decide +kernel, by decide +kernel⟩, List.mem_of_getElem? (i := 42) (by decide +kernel), List.mem_of_getElem? (i := 347) (by decide +kernel), List.mem_of_getElem? (i := 348) (by decide +kernel)⟩
theorem lw_p34 : lw_okq (⟨"ProcessTable", "awaitChild", "(LProcessTable$Proc;III)V"⟩, 19) := ⟨⟨by decide +kernel, by decide +kernel⟩, List.mem_of_getElem? (i := 8) (by decide +kernel), List.mem_of_getElem? (i := 357) (by decide +kernel), List.mem_of_getElem? (i := 358) (by decide +kernel)⟩
theorem lw_p35 : lw_okq (⟨"ProcessTable$Proc", "sleep", "(II)V"⟩, 19) := ⟨⟨by decide +kernel, by decide +kernel⟩, List.mem_of_getElem? (i := 42) (by decide +kernel), List.mem_of_getElem? (i := 367) (by decide +kernel), List.mem_of_getElem? (i := 368) (by decide +kernel)⟩
theorem lw_p36 : lw_okq (⟨"ProcessTable", "doSignalOp", "(LProcessTable$Proc;III)V"⟩, 19) := ⟨⟨by decide +kernel, by decide +kernel⟩, List.mem_of_getElem? (i := 8) (by decide +kernel), List.mem_of_getElem? (i := 371) (by decide +kernel), List.mem_of_getElem? (i := 372) (by decide +kernel)⟩
theorem lw_p37 : lw_okq (⟨"ProcessTable", "sendToMeant", "(LProcessTable$Proc;II)V"⟩, 19) := ⟨⟨by decide +kernel, by decide +kernel⟩, List.mem_of_getElem? (i := 8) (by decide +kernel), List.mem_of_getElem? (i := 375) (by decide +kernel), List.mem_of_getElem? (i := 376) (by decide +kernel)⟩
theorem lw_p38 : lw_okq (⟨"ProcessTable", "setAlarm", "(LProcessTable$Proc;I)V"⟩, 19) := ⟨⟨by decide +kernel, by decide +kernel⟩, List.mem_of_getElem? (i := 8) (by decide +kernel), List.mem_of_getElem? (i := 389) (by decide +kernel), List.mem_of_getElem? (i := 390) (by decide +kernel)⟩
theorem lw_p39 : lw_okq (⟨"ProcessTable", "untilAlarm", "(LProcessTable$Proc;)I"⟩, 19) := ⟨⟨by decide +kernel, by decide +kernel⟩, List.mem_of_getElem? (i := 8) (by decide +kernel), List.mem_of_getElem? (i := 393) (by decide +kernel), List.mem_of_getElem? (i := 394) (by decide +kernel)⟩
theorem lw_p40 : lw_okq (⟨"ProcessTable", "doNameOp", "(LProcessTable$Proc;III)V"⟩, 19) := ⟨⟨by decide +kernel, by decide +kernel⟩, List.mem_of_getElem? (i := 8) (by decide +kernel), List.mem_of_getElem? (i := 397) (by decide +kernel), List.mem_of_getElem? (i := 398) (by decide +kernel)⟩
theorem lw_p41 : lw_okq (⟨"ProcessTable", "join", "(LProcessTable$Proc;II)I"⟩, 19) := ⟨⟨by decide +kernel, by decide +kernel⟩, List.mem_of_getElem? (i := 8) (by decide +kernel), List.mem_of_getElem? (i := 404) (by decide +kernel), List.mem_of_getElem? (i := 405) (by decide +kernel)⟩
theorem lw_p42 : lw_okq (⟨"ProcessTable", "happenPending", "(LProcessTable$Proc;)V"⟩, 19) := ⟨⟨by decide +kernel, by decide +kernel⟩, List.mem_of_getElem? (i := 8) (by decide +kernel), List.mem_of_getElem? (i := 408) (by decide +kernel), List.mem_of_getElem? (i := 409) (by decide +kernel)⟩
theorem lw_p43 : lw_okq (⟨"ProcessTable", "countProcesses", "()I"⟩, 19) := ⟨⟨by decide +kernel, by decide +kernel⟩, List.mem_of_getElem? (i := 8) (by decide +kernel), List.mem_of_getElem? (i := 448) (by decide +kernel), List.mem_of_getElem? (i := 449) (by decide +kernel)⟩
theorem lw_p44 : lw_okq (⟨"ProcessTable", "countInState", "(I)I"⟩, 19) := ⟨⟨by decide +kernel, by decide +kernel⟩, List.mem_of_getElem? (i := 8) (by decide +kernel), List.mem_of_getElem? (i := 452) (by decide +kernel), List.mem_of_getElem? (i := 453) (by decide +kernel)⟩
theorem lw_p45 : lw_okq (⟨"ProcessTableModel", "entryOf", "(I)I"⟩, 41) := ⟨⟨by decide +kernel, by decide +kernel⟩, List.mem_of_getElem? (i := 456) (by decide +kernel), List.mem_of_getElem? (i := 603) (by decide +kernel), List.mem_of_getElem? (i := 604) (by decide +kernel)⟩
theorem lw_p46 : lw_okq (⟨"ProcessTableModel", "send", "(II)V"⟩, 41) := ⟨⟨by decide +kernel, by decide +kernel⟩, List.mem_of_getElem? (i := 456) (by decide +kernel), List.mem_of_getElem? (i := 612) (by decide +kernel), List.mem_of_getElem? (i := 613) (by decide +kernel)⟩
theorem lw_p47 : lw_okq (⟨"ProcessTableModel", "doRow", "()V"⟩, 41) := ⟨⟨by decide +kernel, by decide +kernel⟩, List.mem_of_getElem? (i := 456) (by decide +kernel), List.mem_of_getElem? (i := 616) (by decide +kernel), List.mem_of_getElem? (i := 617) (by decide +kernel)⟩
def lw_privs_3 : List (MethodName × Nat) := [(⟨"ProcessTable", "isGroup", "(I)Z"⟩, 19), (⟨"ProcessTable$Proc", "copyFrom", "(LProcessTable$Proc;)V"⟩, 19), (⟨"ProcessTable", "awaitChild", "(LProcessTable$Proc;III)V"⟩, 19), (⟨"ProcessTable$Proc", "sleep", "(II)V"⟩, 19), (⟨"ProcessTable", "doSignalOp", "(LProcessTable$Proc;III)V"⟩, 19), (⟨"ProcessTable", "sendToMeant", "(LProcessTable$Proc;II)V"⟩, 19), (⟨"ProcessTable", "setAlarm", "(LProcessTable$Proc;I)V"⟩, 19), (⟨"ProcessTable", "untilAlarm", "(LProcessTable$Proc;)I"⟩, 19), (⟨"ProcessTable", "doNameOp", "(LProcessTable$Proc;III)V"⟩, 19), (⟨"ProcessTable", "join", "(LProcessTable$Proc;II)I"⟩, 19), (⟨"ProcessTable", "happenPending", "(LProcessTable$Proc;)V"⟩, 19), (⟨"ProcessTable", "countProcesses", "()I"⟩, 19), (⟨"ProcessTable", "countInState", "(I)I"⟩, 19), (⟨"ProcessTableModel", "entryOf", "(I)I"⟩, 41), (⟨"ProcessTableModel", "send", "(II)V"⟩, 41), (⟨"ProcessTableModel", "doRow", "()V"⟩, 41)]
theorem lw_r3 : ∀ q ∈ lw_privs_3, lw_okq q := List.forall_mem_cons.mpr ⟨lw_p32, List.forall_mem_cons.mpr ⟨lw_p33, List.forall_mem_cons.mpr ⟨lw_p34, List.forall_mem_cons.mpr ⟨lw_p35, List.forall_mem_cons.mpr ⟨lw_p36, List.forall_mem_cons.mpr ⟨lw_p37, List.forall_mem_cons.mpr ⟨lw_p38, List.forall_mem_cons.mpr ⟨lw_p39, List.forall_mem_cons.mpr ⟨lw_p40, List.forall_mem_cons.mpr ⟨lw_p41, List.forall_mem_cons.mpr ⟨lw_p42, List.forall_mem_cons.mpr ⟨lw_p43, List.forall_mem_cons.mpr ⟨lw_p44, List.forall_mem_cons.mpr ⟨lw_p45, List.forall_mem_cons.mpr ⟨lw_p46, List.forall_mem_cons.mpr ⟨lw_p47, fun _ h => absurd h List.not_mem_nil⟩⟩⟩⟩⟩⟩⟩⟩⟩⟩⟩⟩⟩⟩⟩⟩
theorem lw_p48 : lw_okq (⟨"ProcessTableModel", "come", "(II)V"⟩, 41) := ⟨⟨by decide +kernel, by decide +kernel⟩, List.mem_of_getElem? (i := 456) (by decide +kernel), List.mem_of_getElem? (i := 620) (by decide +kernel), List.mem_of_getElem? (i := 621) (by decide +kernel)⟩
theorem lw_p49 : lw_okq (⟨"ProcessTableModel", "happen", "(II)V"⟩, 41) := ⟨⟨by decide +kernel, by decide +kernel⟩, List.mem_of_getElem? (i := 456) (by decide +kernel), List.mem_of_getElem? (i := 626) (by decide +kernel), List.mem_of_getElem? (i := 627) (by decide +kernel)⟩
theorem lw_p50 : lw_okq (⟨"ProcessTableModel", "end", "(II)V"⟩, 41) := ⟨⟨by decide +kernel, by decide +kernel⟩, List.mem_of_getElem? (i := 456) (by decide +kernel), List.mem_of_getElem? (i := 630) (by decide +kernel), List.mem_of_getElem? (i := 631) (by decide +kernel)⟩
theorem lw_p51 : lw_okq (⟨"ProcessTableModel", "panic", "()V"⟩, 41) := ⟨⟨by decide +kernel, by decide +kernel⟩, List.mem_of_getElem? (i := 456) (by decide +kernel), List.mem_of_getElem? (i := 634) (by decide +kernel), List.mem_of_getElem? (i := 635) (by decide +kernel)⟩
theorem lw_p52 : lw_okq (⟨"ProcessTableModel", "isOrphaned", "(I)Z"⟩, 41) := ⟨⟨by decide +kernel, by decide +kernel⟩, List.mem_of_getElem? (i := 456) (by decide +kernel), List.mem_of_getElem? (i := 638) (by decide +kernel), List.mem_of_getElem? (i := 639) (by decide +kernel)⟩
theorem lw_p53 : lw_okq (⟨"ProcessTableModel", "wake", "(I)V"⟩, 41) := ⟨⟨by decide +kernel, by decide +kernel⟩, List.mem_of_getElem? (i := 456) (by decide +kernel), List.mem_of_getElem? (i := 642) (by decide +kernel), List.mem_of_getElem? (i := 643) (by decide +kernel)⟩
theorem lw_p54 : lw_okq (⟨"ProcessTableModel", "sendTo", "(II)V"⟩, 41) := ⟨⟨by decide +kernel, by decide +kernel⟩, List.mem_of_getElem? (i := 456) (by decide +kernel), List.mem_of_getElem? (i := 646) (by decide +kernel), List.mem_of_getElem? (i := 647) (by decide +kernel)⟩
theorem lw_p55 : lw_okq (⟨"ProcessTableModel", "tellOrphans", "(I)V"⟩, 41) := ⟨⟨by decide +kernel, by decide +kernel⟩, List.mem_of_getElem? (i := 456) (by decide +kernel), List.mem_of_getElem? (i := 650) (by decide +kernel), List.mem_of_getElem? (i := 651) (by decide +kernel)⟩
theorem lw_p56 : lw_okq (⟨"ProcessTableModel", "takeTurn", "()Z"⟩, 41) := ⟨⟨by decide +kernel, by decide +kernel⟩, List.mem_of_getElem? (i := 456) (by decide +kernel), List.mem_of_getElem? (i := 654) (by decide +kernel), List.mem_of_getElem? (i := 655) (by decide +kernel)⟩
theorem lw_p57 : lw_okq (⟨"ProcessTableModel", "beginHandler", "(II)V"⟩, 41) := ⟨⟨by decide +kernel, by decide +kernel⟩, List.mem_of_getElem? (i := 456) (by decide +kernel), List.mem_of_getElem? (i := 658) (by decide +kernel), List.mem_of_getElem? (i := 659) (by decide +kernel)⟩
theorem lw_p58 : lw_okq (⟨"ProcessTableModel", "doAct", "(I)V"⟩, 41) := ⟨⟨by decide +kernel, by decide +kernel⟩, List.mem_of_getElem? (i := 456) (by decide +kernel), List.mem_of_getElem? (i := 662) (by decide +kernel), List.mem_of_getElem? (i := 663) (by decide +kernel)⟩
theorem lw_p59 : lw_okq (⟨"ProcessTableModel", "fork", "(II)V"⟩, 41) := ⟨⟨by decide +kernel, by decide +kernel⟩, List.mem_of_getElem? (i := 456) (by decide +kernel), List.mem_of_getElem? (i := 669) (by decide +kernel), List.mem_of_getElem? (i := 670) (by decide +kernel)⟩
theorem lw_p60 : lw_okq (⟨"ProcessTableModel", "freeEntry", "()I"⟩, 41) := ⟨⟨by decide +kernel, by decide +kernel⟩, List.mem_of_getElem? (i := 456) (by decide +kernel), List.mem_of_getElem? (i := 673) (by decide +kernel), List.mem_of_getElem? (i := 674) (by decide +kernel)⟩
theorem lw_p61 : lw_okq (⟨"ProcessTableModel", "newPid", "()I"⟩, 41) := ⟨⟨by decide +kernel, by decide +kernel⟩, List.mem_of_getElem? (i := 456) (by decide +kernel), List.mem_of_getElem? (i := 677) (by decide +kernel), List.mem_of_getElem? (i := 678) (by decide +kernel)⟩
theorem lw_p62 : lw_okq (⟨"ProcessTableModel", "isTaken", "(I)Z"⟩, 41) := ⟨⟨by decide +kernel, by decide +kernel⟩, List.mem_of_getElem? (i := 456) (by decide +kernel), List.mem_of_getElem? (i := 681) (by decide +kernel), List.mem_of_getElem? (i := 682) (by decide +kernel)⟩
theorem lw_p63 : lw_okq (⟨"ProcessTableModel", "exec", "(III)V"⟩, 41) := ⟨⟨by decide +kernel, by decide +kernel⟩, List.mem_of_getElem? (i := 456) (by decide +kernel), List.mem_of_getElem? (i := 685) (by decide +kernel), List.mem_of_getElem? (i := 686) (by decide +kernel)⟩
def lw_privs_4 : List (MethodName × Nat) := [(⟨"ProcessTableModel", "come", "(II)V"⟩, 41), (⟨"ProcessTableModel", "happen", "(II)V"⟩, 41), (⟨"ProcessTableModel", "end", "(II)V"⟩, 41), (⟨"ProcessTableModel", "panic", "()V"⟩, 41), (⟨"ProcessTableModel", "isOrphaned", "(I)Z"⟩, 41), (⟨"ProcessTableModel", "wake", "(I)V"⟩, 41), (⟨"ProcessTableModel", "sendTo", "(II)V"⟩, 41), (⟨"ProcessTableModel", "tellOrphans", "(I)V"⟩, 41), (⟨"ProcessTableModel", "takeTurn", "()Z"⟩, 41), (⟨"ProcessTableModel", "beginHandler", "(II)V"⟩, 41), (⟨"ProcessTableModel", "doAct", "(I)V"⟩, 41), (⟨"ProcessTableModel", "fork", "(II)V"⟩, 41), (⟨"ProcessTableModel", "freeEntry", "()I"⟩, 41), (⟨"ProcessTableModel", "newPid", "()I"⟩, 41), (⟨"ProcessTableModel", "isTaken", "(I)Z"⟩, 41), (⟨"ProcessTableModel", "exec", "(III)V"⟩, 41)]
theorem lw_r4 : ∀ q ∈ lw_privs_4, lw_okq q := List.forall_mem_cons.mpr ⟨lw_p48, List.forall_mem_cons.mpr ⟨lw_p49, List.forall_mem_cons.mpr ⟨lw_p50, List.forall_mem_cons.mpr ⟨lw_p51, List.forall_mem_cons.mpr ⟨lw_p52, List.forall_mem_cons.mpr ⟨lw_p53, List.forall_mem_cons.mpr ⟨lw_p54, List.forall_mem_cons.mpr ⟨lw_p55, List.forall_mem_cons.mpr ⟨lw_p56, List.forall_mem_cons.mpr ⟨lw_p57, List.forall_mem_cons.mpr ⟨lw_p58, List.forall_mem_cons.mpr ⟨lw_p59, List.forall_mem_cons.mpr ⟨lw_p60, List.forall_mem_cons.mpr ⟨lw_p61, List.forall_mem_cons.mpr ⟨lw_p62, List.forall_mem_cons.mpr ⟨lw_p63, fun _ h => absurd h List.not_mem_nil⟩⟩⟩⟩⟩⟩⟩⟩⟩⟩⟩⟩⟩⟩⟩⟩
theorem lw_p64 : lw_okq (⟨"ProcessTableModel", "await", "(IIII)V"⟩, 41) := ⟨⟨by decide +kernel, by decide +kernel⟩, List.mem_of_getElem? (i := 456) (by decide +kernel), List.mem_of_getElem? (i := 689) (by decide +kernel), List.mem_of_getElem? (i := 690) (by decide +kernel)⟩
theorem lw_p65 : lw_okq (⟨"ProcessTableModel", "means", "(III)Z"⟩, 41) := ⟨⟨by decide +kernel, by decide +kernel⟩, List.mem_of_getElem? (i := 456) (by decide +kernel), List.mem_of_getElem? (i := 693) (by decide +kernel), List.mem_of_getElem? (i := 694) (by decide +kernel)⟩
theorem lw_p66 : lw_okq (⟨"ProcessTableModel", "kill", "(III)V"⟩, 41) := ⟨⟨by decide +kernel, by decide +kernel⟩, List.mem_of_getElem? (i := 456) (by decide +kernel), List.mem_of_getElem? (i := 697) (by decide +kernel), List.mem_of_getElem? (i := 698) (by decide +kernel)⟩
theorem lw_p67 : lw_okq (⟨"ProcessTableModel", "doMore", "(IIIIII)V"⟩, 41) := ⟨⟨by decide +kernel, by decide +kernel⟩, List.mem_of_getElem? (i := 456) (by decide +kernel), List.mem_of_getElem? (i := 702) (by decide +kernel), List.mem_of_getElem? (i := 703) (by decide +kernel)⟩
theorem lw_p68 : lw_okq (⟨"ProcessTableModel", "join", "(III)V"⟩, 41) := ⟨⟨by decide +kernel, by decide +kernel⟩, List.mem_of_getElem? (i := 456) (by decide +kernel), List.mem_of_getElem? (i := 708) (by decide +kernel), List.mem_of_getElem? (i := 709) (by decide +kernel)⟩
theorem lw_p69 : lw_okq (⟨"ProcessTableModel", "howMany", "(I)I"⟩, 41) := ⟨⟨by decide +kernel, by decide +kernel⟩, List.mem_of_getElem? (i := 456) (by decide +kernel), List.mem_of_getElem? (i := 750) (by decide +kernel), List.mem_of_getElem? (i := 751) (by decide +kernel)⟩
def lw_privs_5 : List (MethodName × Nat) := [(⟨"ProcessTableModel", "await", "(IIII)V"⟩, 41), (⟨"ProcessTableModel", "means", "(III)Z"⟩, 41), (⟨"ProcessTableModel", "kill", "(III)V"⟩, 41), (⟨"ProcessTableModel", "doMore", "(IIIIII)V"⟩, 41), (⟨"ProcessTableModel", "join", "(III)V"⟩, 41), (⟨"ProcessTableModel", "howMany", "(I)I"⟩, 41)]
theorem lw_r5 : ∀ q ∈ lw_privs_5, lw_okq q := List.forall_mem_cons.mpr ⟨lw_p64, List.forall_mem_cons.mpr ⟨lw_p65, List.forall_mem_cons.mpr ⟨lw_p66, List.forall_mem_cons.mpr ⟨lw_p67, List.forall_mem_cons.mpr ⟨lw_p68, List.forall_mem_cons.mpr ⟨lw_p69, fun _ h => absurd h List.not_mem_nil⟩⟩⟩⟩⟩⟩
def lw_privs : List (MethodName × Nat) := lw_privs_1 ++ (lw_privs_2 ++ (lw_privs_3 ++ (lw_privs_4 ++ (lw_privs_5))))
def lw_tbl : List Cond := k2_sels lw_privs ++ tables_1
theorem lw_privs_ok : ∀ q ∈ lw_privs, lw_okq q := by
  show ∀ q ∈ lw_privs_1 ++ (lw_privs_2 ++ (lw_privs_3 ++ (lw_privs_4 ++ (lw_privs_5)))), lw_okq q
  exact List.forall_mem_append.mpr ⟨lw_r1, List.forall_mem_append.mpr ⟨lw_r2, List.forall_mem_append.mpr ⟨lw_r3, List.forall_mem_append.mpr ⟨lw_r4, lw_r5⟩⟩⟩⟩
end
section
def RX0 : String := "ProcessTable$Proc"
def TX0 : u_T := fun k => match k with
  | 0 => ("ProcessTable$Proc", "pid", "I", false)
  | 1 => ("ProcessTable$Proc", "parent", "LProcessTable$Proc;", false)
  | 2 => ("ProcessTable$Proc", "group", "I", false)
  | 3 => ("ProcessTable$Proc", "state", "I", false)
  | 4 => ("ProcessTable$Proc", "program", "I", false)
  | 5 => ("ProcessTable$Proc", "next", "I", false)
  | 6 => ("ProcessTable$Proc", "registers", "[I", true)
  | 7 => ("ProcessTable$Proc", "does", "[I", true)
  | 8 => ("ProcessTable$Proc", "pending", "I", false)
  | 9 => ("ProcessTable$Proc", "blocked", "I", false)
  | 10 => ("ProcessTable$Proc", "keptNext", "[I", true)
  | 11 => ("ProcessTable$Proc", "keptBlocked", "[I", true)
  | 12 => ("ProcessTable$Proc", "handlers", "I", false)
  | 13 => ("ProcessTable$Proc", "alarm", "J", false)
  | 14 => ("ProcessTable$Proc", "howEnded", "I", false)
  | 15 => ("ProcessTable$Proc", "stopSignal", "I", false)
  | 16 => ("ProcessTable$Proc", "stopTold", "Z", false)
  | 17 => ("ProcessTable$Proc", "didExec", "Z", false)
  | _ => ("ProcessTable$Proc", "interruptRegister", "I", false)
def tyX0 : Nat → FieldType := fun k => match k with
  | 0 => .int
  | 1 => .object "ProcessTable$Proc"
  | 2 => .int
  | 3 => .int
  | 4 => .int
  | 5 => .int
  | 6 => .array .int
  | 7 => .array .int
  | 8 => .int
  | 9 => .int
  | 10 => .array .int
  | 11 => .array .int
  | 12 => .int
  | 13 => .long
  | 14 => .int
  | 15 => .int
  | 16 => .boolean
  | 17 => .boolean
  | _ => .int
abbrev wsX00 : List Cond := u_ws RX0 TX0 19
theorem nmX0 : ∀ a, a < 19 → ∀ b, b < 19 → a ≠ b → (TX0 a).2.1 ≠ (TX0 b).2.1 := by decide +kernel
theorem tyX0_ok : ∀ k, k < 19 → parseFieldDescriptor (TX0 k).2.2.1 = some (tyX0 k) := by decide +kernel
abbrev cX0_init : ByteArray := prog_2_method_1_code
def yX0_init : MethodName := ⟨RX0, "<init>", "()V"⟩
abbrev cX0_begin : ByteArray := prog_2_method_2_code
def yX0_begin : MethodName := ⟨RX0, "begin", "(ILProcessTable$Proc;II)V"⟩
abbrev cX0_clearRows : ByteArray := prog_2_method_3_code
def yX0_clearRows : MethodName := ⟨RX0, "clearRows", "()V"⟩
abbrev cX0_copyFrom : ByteArray := prog_2_method_4_code
def yX0_copyFrom : MethodName := ⟨RX0, "copyFrom", "(LProcessTable$Proc;)V"⟩
abbrev cX0_leaveEntry : ByteArray := prog_2_method_5_code
def yX0_leaveEntry : MethodName := ⟨RX0, "leaveEntry", "()V"⟩
abbrev cX0_wake : ByteArray := prog_2_method_6_code
def yX0_wake : MethodName := ⟨RX0, "wake", "()V"⟩
abbrev cX0_interrupt : ByteArray := prog_2_method_7_code
def yX0_interrupt : MethodName := ⟨RX0, "interrupt", "()V"⟩
abbrev cX0_sleep : ByteArray := prog_2_method_8_code
def yX0_sleep : MethodName := ⟨RX0, "sleep", "(II)V"⟩
abbrev cX0_handles : ByteArray := prog_2_method_9_code
def yX0_handles : MethodName := ⟨RX0, "handles", "(I)Z"⟩
abbrev cX0_blocks : ByteArray := prog_2_method_10_code
def yX0_blocks : MethodName := ⟨RX0, "blocks", "(I)Z"⟩
def RX1 : String := "ProcessTable$Program"
def TX1 : u_T := fun k => match k with
  | 0 => ("ProcessTable$Program", "ops", "[I", true)
  | 1 => ("ProcessTable$Program", "as", "[I", true)
  | 2 => ("ProcessTable$Program", "bs", "[I", true)
  | _ => ("ProcessTable$Program", "size", "I", false)
def tyX1 : Nat → FieldType := fun k => match k with
  | 0 => .array .int
  | 1 => .array .int
  | 2 => .array .int
  | _ => .int
abbrev wsX10 : List Cond := u_ws RX1 TX1 4
theorem nmX1 : ∀ a, a < 4 → ∀ b, b < 4 → a ≠ b → (TX1 a).2.1 ≠ (TX1 b).2.1 := by decide +kernel
theorem tyX1_ok : ∀ k, k < 4 → parseFieldDescriptor (TX1 k).2.2.1 = some (tyX1 k) := by decide +kernel
abbrev cX1_init : ByteArray := prog_3_method_1_code
def yX1_init : MethodName := ⟨RX1, "<init>", "()V"⟩
def RX2 : String := "ProcessTable"
def TX2 : u_T := fun k => match k with
  | 0 => ("ProcessTable", "programs", "[LProcessTable$Program;", true)
  | 1 => ("ProcessTable", "procs", "[LProcessTable$Proc;", true)
  | 2 => ("ProcessTable", "rowTargets", "[LProcessTable$Proc;", true)
  | 3 => ("ProcessTable", "rowSignals", "[I", true)
  | 4 => ("ProcessTable", "rowSize", "I", false)
  | 5 => ("ProcessTable", "stoppedInCare", "[Z", true)
  | 6 => ("ProcessTable", "logPids", "[I", true)
  | 7 => ("ProcessTable", "logNumbers", "[I", true)
  | 8 => ("ProcessTable", "logSize", "I", false)
  | 9 => ("ProcessTable", "logNext", "I", false)
  | 10 => ("ProcessTable", "now", "I", false)
  | 11 => ("ProcessTable", "latestTurn", "I", false)
  | 12 => ("ProcessTable", "latestPid", "I", false)
  | 13 => ("ProcessTable", "forksDone", "I", false)
  | 14 => ("ProcessTable", "forksRefused", "I", false)
  | 15 => ("ProcessTable", "ended", "I", false)
  | 16 => ("ProcessTable", "signalsSent", "I", false)
  | 17 => ("ProcessTable", "handlersBegun", "I", false)
  | _ => ("ProcessTable", "panics", "I", false)
def tyX2 : Nat → FieldType := fun k => match k with
  | 0 => .array (.object "ProcessTable$Program")
  | 1 => .array (.object "ProcessTable$Proc")
  | 2 => .array (.object "ProcessTable$Proc")
  | 3 => .array .int
  | 4 => .int
  | 5 => .array .boolean
  | 6 => .array .int
  | 7 => .array .int
  | 8 => .int
  | 9 => .int
  | 10 => .int
  | 11 => .int
  | 12 => .int
  | 13 => .int
  | 14 => .int
  | 15 => .int
  | 16 => .int
  | 17 => .int
  | _ => .int
abbrev wsX20 : List Cond := u_ws RX2 TX2 19
theorem nmX2 : ∀ a, a < 19 → ∀ b, b < 19 → a ≠ b → (TX2 a).2.1 ≠ (TX2 b).2.1 := by decide +kernel
theorem tyX2_ok : ∀ k, k < 19 → parseFieldDescriptor (TX2 k).2.2.1 = some (tyX2 k) := by decide +kernel
abbrev cX2_init : ByteArray := prog_1_method_1_code
def yX2_init : MethodName := ⟨RX2, "<init>", "()V"⟩
abbrev cX2_act : ByteArray := prog_1_method_2_code
def yX2_act : MethodName := ⟨RX2, "act", "(IIII)I"⟩
abbrev cX2_wipe : ByteArray := prog_1_method_3_code
def yX2_wipe : MethodName := ⟨RX2, "wipe", "(I)I"⟩
abbrev cX2_isProgram : ByteArray := prog_1_method_4_code
def yX2_isProgram : MethodName := ⟨RX2, "isProgram", "(I)Z"⟩
abbrev cX2_boot : ByteArray := prog_1_method_5_code
def yX2_boot : MethodName := ⟨RX2, "boot", "(I)I"⟩
abbrev cX2_tick : ByteArray := prog_1_method_6_code
def yX2_tick : MethodName := ⟨RX2, "tick", "(I)I"⟩
abbrev cX2_kill : ByteArray := prog_1_method_7_code
def yX2_kill : MethodName := ⟨RX2, "kill", "(II)I"⟩
abbrev cX2_isSignal : ByteArray := prog_1_method_8_code
def yX2_isSignal : MethodName := ⟨RX2, "isSignal", "(I)Z"⟩
abbrev cX2_find : ByteArray := prog_1_method_9_code
def yX2_find : MethodName := ⟨RX2, "find", "(I)LProcessTable$Proc;"⟩
abbrev cX2_ringAlarms : ByteArray := prog_1_method_10_code
def yX2_ringAlarms : MethodName := ⟨RX2, "ringAlarms", "()V"⟩
abbrev cX2_nextReady : ByteArray := prog_1_method_11_code
def yX2_nextReady : MethodName := ⟨RX2, "nextReady", "()I"⟩
abbrev cX2_takeTurn : ByteArray := prog_1_method_12_code
def yX2_takeTurn : MethodName := ⟨RX2, "takeTurn", "(LProcessTable$Proc;)V"⟩
abbrev cX2_leastSignal : ByteArray := prog_1_method_13_code
def yX2_leastSignal : MethodName := ⟨RX2, "leastSignal", "(I)I"⟩
abbrev cX2_beginHandler : ByteArray := prog_1_method_14_code
def yX2_beginHandler : MethodName := ⟨RX2, "beginHandler", "(LProcessTable$Proc;I)V"⟩
abbrev cX2_happenPending : ByteArray := prog_1_method_15_code
def yX2_happenPending : MethodName := ⟨RX2, "happenPending", "(LProcessTable$Proc;)V"⟩
abbrev cX2_send : ByteArray := prog_1_method_16_code
def yX2_send : MethodName := ⟨RX2, "send", "(LProcessTable$Proc;I)V"⟩
abbrev cX2_sendToGroup : ByteArray := prog_1_method_17_code
def yX2_sendToGroup : MethodName := ⟨RX2, "sendToGroup", "(II)V"⟩
abbrev cX2_deliverRow : ByteArray := prog_1_method_18_code
def yX2_deliverRow : MethodName := ⟨RX2, "deliverRow", "()V"⟩
abbrev cX2_deliver : ByteArray := prog_1_method_19_code
def yX2_deliver : MethodName := ⟨RX2, "deliver", "(LProcessTable$Proc;I)V"⟩
abbrev cX2_goOn : ByteArray := prog_1_method_20_code
def yX2_goOn : MethodName := ⟨RX2, "goOn", "(LProcessTable$Proc;)V"⟩
abbrev cX2_happen : ByteArray := prog_1_method_21_code
def yX2_happen : MethodName := ⟨RX2, "happen", "(LProcessTable$Proc;I)V"⟩
abbrev cX2_stop : ByteArray := prog_1_method_22_code
def yX2_stop : MethodName := ⟨RX2, "stop", "(LProcessTable$Proc;I)V"⟩
abbrev cX2_end : ByteArray := prog_1_method_23_code
def yX2_end : MethodName := ⟨RX2, "end", "(LProcessTable$Proc;I)V"⟩
abbrev cX2_panic : ByteArray := prog_1_method_24_code
def yX2_panic : MethodName := ⟨RX2, "panic", "()V"⟩
abbrev cX2_leaveChildren : ByteArray := prog_1_method_25_code
def yX2_leaveChildren : MethodName := ⟨RX2, "leaveChildren", "(LProcessTable$Proc;)V"⟩
abbrev cX2_noteStoppedInCare : ByteArray := prog_1_method_26_code
def yX2_noteStoppedInCare : MethodName := ⟨RX2, "noteStoppedInCare", "(LProcessTable$Proc;)V"⟩
abbrev cX2_sendToOrphaned : ByteArray := prog_1_method_27_code
def yX2_sendToOrphaned : MethodName := ⟨RX2, "sendToOrphaned", "()V"⟩
abbrev cX2_leastGroupInCare : ByteArray := prog_1_method_28_code
def yX2_leastGroupInCare : MethodName := ⟨RX2, "leastGroupInCare", "(I)I"⟩
abbrev cX2_isOrphaned : ByteArray := prog_1_method_29_code
def yX2_isOrphaned : MethodName := ⟨RX2, "isOrphaned", "(I)Z"⟩
abbrev cX2_doAct : ByteArray := prog_1_method_30_code
def yX2_doAct : MethodName := ⟨RX2, "doAct", "(LProcessTable$Proc;III)V"⟩
abbrev cX2_registerOf : ByteArray := prog_1_method_31_code
def yX2_registerOf : MethodName := ⟨RX2, "registerOf", "(I)I"⟩
abbrev cX2_doPlainOp : ByteArray := prog_1_method_32_code
def yX2_doPlainOp : MethodName := ⟨RX2, "doPlainOp", "(LProcessTable$Proc;III)V"⟩
abbrev cX2_doFamilyOp : ByteArray := prog_1_method_33_code
def yX2_doFamilyOp : MethodName := ⟨RX2, "doFamilyOp", "(LProcessTable$Proc;III)V"⟩
abbrev cX2_doSignalOp : ByteArray := prog_1_method_34_code
def yX2_doSignalOp : MethodName := ⟨RX2, "doSignalOp", "(LProcessTable$Proc;III)V"⟩
abbrev cX2_doNameOp : ByteArray := prog_1_method_35_code
def yX2_doNameOp : MethodName := ⟨RX2, "doNameOp", "(LProcessTable$Proc;III)V"⟩
abbrev cX2_parentOf : ByteArray := prog_1_method_36_code
def yX2_parentOf : MethodName := ⟨RX2, "parentOf", "(LProcessTable$Proc;)I"⟩
abbrev cX2_writeLog : ByteArray := prog_1_method_37_code
def yX2_writeLog : MethodName := ⟨RX2, "writeLog", "(II)V"⟩
abbrev cX2_fork : ByteArray := prog_1_method_38_code
def yX2_fork : MethodName := ⟨RX2, "fork", "(LProcessTable$Proc;I)V"⟩
abbrev cX2_firstFree : ByteArray := prog_1_method_39_code
def yX2_firstFree : MethodName := ⟨RX2, "firstFree", "()LProcessTable$Proc;"⟩
abbrev cX2_newPid : ByteArray := prog_1_method_40_code
def yX2_newPid : MethodName := ⟨RX2, "newPid", "()I"⟩
abbrev cX2_isGroup : ByteArray := prog_1_method_41_code
def yX2_isGroup : MethodName := ⟨RX2, "isGroup", "(I)Z"⟩
abbrev cX2_exec : ByteArray := prog_1_method_42_code
def yX2_exec : MethodName := ⟨RX2, "exec", "(LProcessTable$Proc;II)V"⟩
abbrev cX2_awaitChild : ByteArray := prog_1_method_43_code
def yX2_awaitChild : MethodName := ⟨RX2, "awaitChild", "(LProcessTable$Proc;III)V"⟩
abbrev cX2_isMeantChild : ByteArray := prog_1_method_44_code
def yX2_isMeantChild : MethodName := ⟨RX2, "isMeantChild", "(LProcessTable$Proc;ILProcessTable$Proc;)Z"⟩
abbrev cX2_means : ByteArray := prog_1_method_45_code
def yX2_means : MethodName := ⟨RX2, "means", "(LProcessTable$Proc;ILProcessTable$Proc;)Z"⟩
abbrev cX2_sendToMeant : ByteArray := prog_1_method_46_code
def yX2_sendToMeant : MethodName := ⟨RX2, "sendToMeant", "(LProcessTable$Proc;II)V"⟩
abbrev cX2_setAction : ByteArray := prog_1_method_47_code
def yX2_setAction : MethodName := ⟨RX2, "setAction", "(LProcessTable$Proc;II)V"⟩
abbrev cX2_returnFromHandler : ByteArray := prog_1_method_48_code
def yX2_returnFromHandler : MethodName := ⟨RX2, "returnFromHandler", "(LProcessTable$Proc;)Z"⟩
abbrev cX2_setAlarm : ByteArray := prog_1_method_49_code
def yX2_setAlarm : MethodName := ⟨RX2, "setAlarm", "(LProcessTable$Proc;I)V"⟩
abbrev cX2_untilAlarm : ByteArray := prog_1_method_50_code
def yX2_untilAlarm : MethodName := ⟨RX2, "untilAlarm", "(LProcessTable$Proc;)I"⟩
abbrev cX2_join : ByteArray := prog_1_method_51_code
def yX2_join : MethodName := ⟨RX2, "join", "(LProcessTable$Proc;II)I"⟩
abbrev cX2_entry : ByteArray := prog_1_method_52_code
def yX2_entry : MethodName := ⟨RX2, "entry", "(I)I"⟩
abbrev cX2_told : ByteArray := prog_1_method_53_code
def yX2_told : MethodName := ⟨RX2, "told", "(II)I"⟩
abbrev cX2_register : ByteArray := prog_1_method_54_code
def yX2_register : MethodName := ⟨RX2, "register", "(II)I"⟩
abbrev cX2_action : ByteArray := prog_1_method_55_code
def yX2_action : MethodName := ⟨RX2, "action", "(II)I"⟩
abbrev cX2_child : ByteArray := prog_1_method_56_code
def yX2_child : MethodName := ⟨RX2, "child", "(II)I"⟩
abbrev cX2_members : ByteArray := prog_1_method_57_code
def yX2_members : MethodName := ⟨RX2, "members", "(I)I"⟩
abbrev cX2_log : ByteArray := prog_1_method_58_code
def yX2_log : MethodName := ⟨RX2, "log", "(II)I"⟩
abbrev cX2_count : ByteArray := prog_1_method_59_code
def yX2_count : MethodName := ⟨RX2, "count", "(I)I"⟩
abbrev cX2_countProcesses : ByteArray := prog_1_method_60_code
def yX2_countProcesses : MethodName := ⟨RX2, "countProcesses", "()I"⟩
abbrev cX2_countInState : ByteArray := prog_1_method_61_code
def yX2_countInState : MethodName := ⟨RX2, "countInState", "(I)I"⟩
def RX3 : String := "ProcessTableModel"
def TX3 : u_T := fun k => match k with
  | 0 => ("ProcessTableModel", "acts", "[I", true)
  | 1 => ("ProcessTableModel", "ops", "[I", true)
  | 2 => ("ProcessTableModel", "as", "[I", true)
  | 3 => ("ProcessTableModel", "bs", "[I", true)
  | 4 => ("ProcessTableModel", "pid", "[I", true)
  | 5 => ("ProcessTableModel", "parent", "[I", true)
  | 6 => ("ProcessTableModel", "group", "[I", true)
  | 7 => ("ProcessTableModel", "state", "[I", true)
  | 8 => ("ProcessTableModel", "program", "[I", true)
  | 9 => ("ProcessTableModel", "next", "[I", true)
  | 10 => ("ProcessTableModel", "registers", "[I", true)
  | 11 => ("ProcessTableModel", "does", "[I", true)
  | 12 => ("ProcessTableModel", "pending", "[I", true)
  | 13 => ("ProcessTableModel", "blocked", "[I", true)
  | 14 => ("ProcessTableModel", "handlers", "[I", true)
  | 15 => ("ProcessTableModel", "keptNext", "[I", true)
  | 16 => ("ProcessTableModel", "keptBlocked", "[I", true)
  | 17 => ("ProcessTableModel", "alarm", "[J", true)
  | 18 => ("ProcessTableModel", "ended", "[I", true)
  | 19 => ("ProcessTableModel", "stoppedBy", "[I", true)
  | 20 => ("ProcessTableModel", "isStopTold", "[Z", true)
  | 21 => ("ProcessTableModel", "didExec", "[Z", true)
  | 22 => ("ProcessTableModel", "waitRegister", "[I", true)
  | 23 => ("ProcessTableModel", "waitBehind", "[I", true)
  | 24 => ("ProcessTableModel", "latestPid", "I", false)
  | 25 => ("ProcessTableModel", "turn", "I", false)
  | 26 => ("ProcessTableModel", "now", "I", false)
  | 27 => ("ProcessTableModel", "sendTo", "[I", true)
  | 28 => ("ProcessTableModel", "sendWhat", "[I", true)
  | 29 => ("ProcessTableModel", "sends", "I", false)
  | 30 => ("ProcessTableModel", "sentAt", "I", false)
  | 31 => ("ProcessTableModel", "logged", "I", false)
  | 32 => ("ProcessTableModel", "logPid", "[I", true)
  | 33 => ("ProcessTableModel", "logNumber", "[I", true)
  | 34 => ("ProcessTableModel", "forks", "I", false)
  | 35 => ("ProcessTableModel", "refused", "I", false)
  | 36 => ("ProcessTableModel", "ends", "I", false)
  | 37 => ("ProcessTableModel", "sent", "I", false)
  | 38 => ("ProcessTableModel", "begun", "I", false)
  | 39 => ("ProcessTableModel", "panics", "I", false)
  | _ => ("ProcessTableModel", "wasOrphaned", "[Z", true)
def tyX3 : Nat → FieldType := fun k => match k with
  | 0 => .array .int
  | 1 => .array .int
  | 2 => .array .int
  | 3 => .array .int
  | 4 => .array .int
  | 5 => .array .int
  | 6 => .array .int
  | 7 => .array .int
  | 8 => .array .int
  | 9 => .array .int
  | 10 => .array .int
  | 11 => .array .int
  | 12 => .array .int
  | 13 => .array .int
  | 14 => .array .int
  | 15 => .array .int
  | 16 => .array .int
  | 17 => .array .long
  | 18 => .array .int
  | 19 => .array .int
  | 20 => .array .boolean
  | 21 => .array .boolean
  | 22 => .array .int
  | 23 => .array .int
  | 24 => .int
  | 25 => .int
  | 26 => .int
  | 27 => .array .int
  | 28 => .array .int
  | 29 => .int
  | 30 => .int
  | 31 => .int
  | 32 => .array .int
  | 33 => .array .int
  | 34 => .int
  | 35 => .int
  | 36 => .int
  | 37 => .int
  | 38 => .int
  | 39 => .int
  | _ => .array .boolean
abbrev wsX30 : List Cond := u_ws RX3 TX3 41
theorem nmX3 : ∀ a, a < 41 → ∀ b, b < 41 → a ≠ b → (TX3 a).2.1 ≠ (TX3 b).2.1 := by decide +kernel
theorem tyX3_ok : ∀ k, k < 41 → parseFieldDescriptor (TX3 k).2.2.1 = some (tyX3 k) := by decide +kernel
abbrev cX3_init : ByteArray := prog_5_method_1_code
def yX3_init : MethodName := ⟨RX3, "<init>", "()V"⟩
abbrev cX3_in : ByteArray := prog_5_method_3_code
def yX3_in : MethodName := ⟨RX3, "in", "(JJJ)Z"⟩
abbrev cX3_act : ByteArray := prog_5_method_4_code
def yX3_act : MethodName := ⟨RX3, "act", "(IIII)I"⟩
abbrev cX3_wipe : ByteArray := prog_5_method_5_code
def yX3_wipe : MethodName := ⟨RX3, "wipe", "(I)I"⟩
abbrev cX3_entryOf : ByteArray := prog_5_method_6_code
def yX3_entryOf : MethodName := ⟨RX3, "entryOf", "(I)I"⟩
abbrev cX3_freeEntry : ByteArray := prog_5_method_7_code
def yX3_freeEntry : MethodName := ⟨RX3, "freeEntry", "()I"⟩
abbrev cX3_isTaken : ByteArray := prog_5_method_8_code
def yX3_isTaken : MethodName := ⟨RX3, "isTaken", "(I)Z"⟩
abbrev cX3_newPid : ByteArray := prog_5_method_9_code
def yX3_newPid : MethodName := ⟨RX3, "newPid", "()I"⟩
abbrev cX3_boot : ByteArray := prog_5_method_10_code
def yX3_boot : MethodName := ⟨RX3, "boot", "(I)I"⟩
abbrev cX3_send : ByteArray := prog_5_method_11_code
def yX3_send : MethodName := ⟨RX3, "send", "(II)V"⟩
abbrev cX3_sendTo : ByteArray := prog_5_method_12_code
def yX3_sendTo : MethodName := ⟨RX3, "sendTo", "(II)V"⟩
abbrev cX3_doRow : ByteArray := prog_5_method_13_code
def yX3_doRow : MethodName := ⟨RX3, "doRow", "()V"⟩
abbrev cX3_come : ByteArray := prog_5_method_14_code
def yX3_come : MethodName := ⟨RX3, "come", "(II)V"⟩
abbrev cX3_happen : ByteArray := prog_5_method_15_code
def yX3_happen : MethodName := ⟨RX3, "happen", "(II)V"⟩
abbrev cX3_wake : ByteArray := prog_5_method_16_code
def yX3_wake : MethodName := ⟨RX3, "wake", "(I)V"⟩
abbrev cX3_isOrphaned : ByteArray := prog_5_method_17_code
def yX3_isOrphaned : MethodName := ⟨RX3, "isOrphaned", "(I)Z"⟩
abbrev cX3_end : ByteArray := prog_5_method_18_code
def yX3_end : MethodName := ⟨RX3, "end", "(II)V"⟩
abbrev cX3_tellOrphans : ByteArray := prog_5_method_19_code
def yX3_tellOrphans : MethodName := ⟨RX3, "tellOrphans", "(I)V"⟩
abbrev cX3_panic : ByteArray := prog_5_method_20_code
def yX3_panic : MethodName := ⟨RX3, "panic", "()V"⟩
abbrev cX3_tick : ByteArray := prog_5_method_21_code
def yX3_tick : MethodName := ⟨RX3, "tick", "(I)I"⟩
abbrev cX3_takeTurn : ByteArray := prog_5_method_22_code
def yX3_takeTurn : MethodName := ⟨RX3, "takeTurn", "()Z"⟩
abbrev cX3_beginHandler : ByteArray := prog_5_method_23_code
def yX3_beginHandler : MethodName := ⟨RX3, "beginHandler", "(II)V"⟩
abbrev cX3_eighth : ByteArray := prog_5_method_24_code
def yX3_eighth : MethodName := ⟨RX3, "eighth", "(I)I"⟩
abbrev cX3_doAct : ByteArray := prog_5_method_25_code
def yX3_doAct : MethodName := ⟨RX3, "doAct", "(I)V"⟩
abbrev cX3_doMore : ByteArray := prog_5_method_26_code
def yX3_doMore : MethodName := ⟨RX3, "doMore", "(IIIIII)V"⟩
abbrev cX3_fork : ByteArray := prog_5_method_27_code
def yX3_fork : MethodName := ⟨RX3, "fork", "(II)V"⟩
abbrev cX3_exec : ByteArray := prog_5_method_28_code
def yX3_exec : MethodName := ⟨RX3, "exec", "(III)V"⟩
abbrev cX3_means : ByteArray := prog_5_method_29_code
def yX3_means : MethodName := ⟨RX3, "means", "(III)Z"⟩
abbrev cX3_await : ByteArray := prog_5_method_30_code
def yX3_await : MethodName := ⟨RX3, "await", "(IIII)V"⟩
abbrev cX3_kill : ByteArray := prog_5_method_31_code
def yX3_kill : MethodName := ⟨RX3, "kill", "(III)V"⟩
abbrev cX3_join : ByteArray := prog_5_method_32_code
def yX3_join : MethodName := ⟨RX3, "join", "(III)V"⟩
abbrev cX3_kill_ : ByteArray := prog_5_method_33_code
def yX3_kill_ : MethodName := ⟨RX3, "kill", "(II)I"⟩
abbrev cX3_entry : ByteArray := prog_5_method_34_code
def yX3_entry : MethodName := ⟨RX3, "entry", "(I)I"⟩
abbrev cX3_told : ByteArray := prog_5_method_35_code
def yX3_told : MethodName := ⟨RX3, "told", "(II)I"⟩
abbrev cX3_register : ByteArray := prog_5_method_36_code
def yX3_register : MethodName := ⟨RX3, "register", "(II)I"⟩
abbrev cX3_action : ByteArray := prog_5_method_37_code
def yX3_action : MethodName := ⟨RX3, "action", "(II)I"⟩
abbrev cX3_child : ByteArray := prog_5_method_38_code
def yX3_child : MethodName := ⟨RX3, "child", "(II)I"⟩
abbrev cX3_members : ByteArray := prog_5_method_39_code
def yX3_members : MethodName := ⟨RX3, "members", "(I)I"⟩
abbrev cX3_log : ByteArray := prog_5_method_40_code
def yX3_log : MethodName := ⟨RX3, "log", "(II)I"⟩
abbrev cX3_howMany : ByteArray := prog_5_method_41_code
def yX3_howMany : MethodName := ⟨RX3, "howMany", "(I)I"⟩
abbrev cX3_count : ByteArray := prog_5_method_42_code
def yX3_count : MethodName := ⟨RX3, "count", "(I)I"⟩
def RJ9 : String := "java/lang/Math"
def TJ9 : u_T := fun k => match k with
  | _ => ("", "", "", false)
def tyJ9 : Nat → FieldType := fun k => match k with
  | _ => .int
abbrev wsJ90 : List Cond := u_ws RJ9 TJ9 0
theorem nmJ9 : ∀ a, a < 0 → ∀ b, b < 0 → a ≠ b → (TJ9 a).2.1 ≠ (TJ9 b).2.1 := by decide +kernel
theorem tyJ9_ok : ∀ k, k < 0 → parseFieldDescriptor (TJ9 k).2.2.1 = some (tyJ9 k) := by decide +kernel
abbrev cJ9_min_7cf53 : ByteArray := prog_6_method_69_code
def yJ9_min_7cf53 : MethodName := ⟨RJ9, "min", "(II)I"⟩
def RJ10 : String := "java/lang/System"
def TJ10 : u_T := fun k => match k with
  | _ => ("", "", "", false)
def tyJ10 : Nat → FieldType := fun k => match k with
  | _ => .int
abbrev wsJ100 : List Cond := u_ws RJ10 TJ10 0
theorem nmJ10 : ∀ a, a < 0 → ∀ b, b < 0 → a ≠ b → (TJ10 a).2.1 ≠ (TJ10 b).2.1 := by decide +kernel
theorem tyJ10_ok : ∀ k, k < 0 → parseFieldDescriptor (TJ10 k).2.2.1 = some (tyJ10 k) := by decide +kernel
def RL : String := "ProcessTableLaw"
abbrev cL_law : ByteArray := code
def yL_law : MethodName := ⟨RL, "law", "([I)Z"⟩
abbrev vwCl : List vw_C := [(RX0, TX0, 19), (RX1, TX1, 4), (RX2, TX2, 19), (RX3, TX3, 41)]
end
section
/-! THE TABLES of the small machine, printed by wip/whole/gen/gen.py -/
def xon (o : Nat) : String := match o with
  | 0 => RX0
  | 1 => RX1
  | 2 => RX2
  | 3 => RX3
  | _ => RL
def xcnL : List Nat := [24, 24, 24, 24, 24, 16, 16, 16, 16, 1, 1, 1, 1, 1, 1, 1, 1, 0, 0, 0, 1, 1, 1, 1, 1, 1, 1, 1, 1, 1, 1, 1, 1, 1, 1, 1, 1, 1, 1, 1, 1, 1, 1, 1, 1, 1, 1, 1, 1, 1]
def xobL : List (Option Nat) := [some 0, none, none, none, none, some 1, none, none, none, some 2, none, none, none, none, none, none, none, none, none, none, some 3, none, none, none, none, none, none, none, none, none, none, none, none, none, none, none, none, none, none, none, none, none, none, none, none, none, none, none, none, none]
def xfkL : List (List Nat) := [[0, 10, 0, 0, 0, 0, 101, 102, 0, 0, 103, 104, 0, 2, 0, 0, 1, 1, 0], [], [], [], [], [106, 107, 108, 0], [], [], [], [110, 111, 112, 113, 0, 114, 115, 116, 0, 0, 0, 0, 0, 0, 0, 0, 0, 0, 0], [], [], [], [], [], [], [], [], [], [], [121, 122, 123, 124, 125, 126, 127, 128, 129, 130, 131, 132, 133, 134, 135, 136, 137, 138, 139, 140, 141, 142, 143, 144, 0, 0, 0, 145, 146, 0, 0, 0, 147, 148, 0, 0, 0, 0, 0, 0, 149], [], [], [], [], [], [], [], [], [], [], [], [], [], [], [], [], [], [], [], [], [], [], [], [], [], [], [], [], []]
def xekL : List Nat := [0, 0, 0, 0, 0, 0, 0, 0, 0, 0, 105, 100, 10, 0, 1, 0, 0, 0, 0, 0, 0, 0, 0, 0, 0, 0, 0, 0, 0, 0, 0, 0, 0, 0, 0, 0, 0, 0, 2, 0, 0, 1, 1, 0, 0, 0, 0, 0, 0, 1]
def xalL : List Nat := [0, 8, 21, 4, 4, 0, 60, 60, 60, 0, 16, 24, 1224, 1224, 24, 40, 40, 0, 0, 0, 0, 16, 960, 960, 960, 24, 24, 24, 24, 24, 24, 192, 504, 24, 24, 24, 96, 96, 24, 24, 24, 24, 24, 24, 24, 4000, 4000, 40, 40, 1000]
def xatL : List FieldType := [.int, .int, .int, .int, .int, .int, .int, .int, .int, .int, .object "ProcessTable$Program", .object "ProcessTable$Proc", .object "ProcessTable$Proc", .int, .boolean, .int, .int, .int, .int, .int, .int, .int, .int, .int, .int, .int, .int, .int, .int, .int, .int, .int, .int, .int, .int, .int, .int, .int, .long, .int, .int, .boolean, .boolean, .int, .int, .int, .int, .int, .int, .boolean]
/- tags: 0 ProcessTable$Proc; 1 ProcessTable$Proc.registers; 2 ProcessTable$Proc.does; 3 ProcessTable$Proc.keptNext; 4 ProcessTable$Proc.keptBlocked; 5 ProcessTable$Program; 6 ProcessTable$Program.ops; 7 ProcessTable$Program.as; 8 ProcessTable$Program.bs; 9 ProcessTable; 10 ProcessTable.programs; 11 ProcessTable.procs; 12 ProcessTable.rowTargets; 13 ProcessTable.rowSignals; 14 ProcessTable.stoppedInCare; 15 ProcessTable.logPids; 16 ProcessTable.logNumbers; 20 ProcessTableModel; 21 ProcessTableModel.acts; 22 ProcessTableModel.ops; 23 ProcessTableModel.as; 24 ProcessTableModel.bs; 25 ProcessTableModel.pid; 26 ProcessTableModel.parent; 27 ProcessTableModel.group; 28 ProcessTableModel.state; 29 ProcessTableModel.program; 30 ProcessTableModel.next; 31 ProcessTableModel.registers; 32 ProcessTableModel.does; 33 ProcessTableModel.pending; 34 ProcessTableModel.blocked; 35 ProcessTableModel.handlers; 36 ProcessTableModel.keptNext; 37 ProcessTableModel.keptBlocked; 38 ProcessTableModel.alarm; 39 ProcessTableModel.ended; 40 ProcessTableModel.stoppedBy; 41 ProcessTableModel.isStopTold; 42 ProcessTableModel.didExec; 43 ProcessTableModel.waitRegister; 44 ProcessTableModel.waitBehind; 45 ProcessTableModel.sendTo; 46 ProcessTableModel.sendWhat; 47 ProcessTableModel.logPid; 48 ProcessTableModel.logNumber; 49 ProcessTableModel.wasOrphaned -/
abbrev xMd : Type := Nat × MethodName × ByteArray × Nat × Option FieldType × Nat × Nat
/- owner, name, code, locals, what it returns, receiver's tag + 1 (0: static), parameters -/
abbrev xms_0 : xMd := (0, yX0_begin, cX0_begin, 5, none, 1, 4)
abbrev xms_1 : xMd := (0, yX0_clearRows, cX0_clearRows, 2, none, 1, 0)
abbrev xms_2 : xMd := (0, yX0_copyFrom, cX0_copyFrom, 2, none, 1, 1)
abbrev xms_3 : xMd := (0, yX0_leaveEntry, cX0_leaveEntry, 1, none, 1, 0)
abbrev xms_4 : xMd := (0, yX0_wake, cX0_wake, 1, none, 1, 0)
abbrev xms_5 : xMd := (0, yX0_interrupt, cX0_interrupt, 1, none, 1, 0)
abbrev xms_6 : xMd := (0, yX0_sleep, cX0_sleep, 3, none, 1, 2)
abbrev xms_7 : xMd := (0, yX0_handles, cX0_handles, 2, (some (.boolean)), 1, 1)
abbrev xms_8 : xMd := (0, yX0_blocks, cX0_blocks, 2, (some (.boolean)), 1, 1)
abbrev xms_9 : xMd := (2, yX2_act, cX2_act, 6, (some (.int)), 10, 4)
abbrev xms_10 : xMd := (2, yX2_wipe, cX2_wipe, 3, (some (.int)), 10, 1)
abbrev xms_11 : xMd := (2, yX2_isProgram, cX2_isProgram, 1, (some (.boolean)), 0, 1)
abbrev xms_12 : xMd := (2, yX2_boot, cX2_boot, 2, (some (.int)), 10, 1)
abbrev xms_13 : xMd := (2, yX2_tick, cX2_tick, 5, (some (.int)), 10, 1)
abbrev xms_14 : xMd := (2, yX2_kill, cX2_kill, 4, (some (.int)), 10, 2)
abbrev xms_15 : xMd := (2, yX2_isSignal, cX2_isSignal, 1, (some (.boolean)), 0, 1)
abbrev xms_16 : xMd := (2, yX2_find, cX2_find, 6, (some (.object "ProcessTable$Proc")), 10, 1)
abbrev xms_17 : xMd := (2, yX2_ringAlarms, cX2_ringAlarms, 5, none, 10, 0)
abbrev xms_18 : xMd := (2, yX2_nextReady, cX2_nextReady, 3, (some (.int)), 10, 0)
abbrev xms_19 : xMd := (2, yX2_takeTurn, cX2_takeTurn, 5, none, 10, 1)
abbrev xms_20 : xMd := (2, yX2_leastSignal, cX2_leastSignal, 2, (some (.int)), 0, 1)
abbrev xms_21 : xMd := (2, yX2_beginHandler, cX2_beginHandler, 3, none, 10, 2)
abbrev xms_22 : xMd := (2, yX2_happenPending, cX2_happenPending, 3, none, 10, 1)
abbrev xms_23 : xMd := (2, yX2_send, cX2_send, 3, none, 10, 2)
abbrev xms_24 : xMd := (2, yX2_sendToGroup, cX2_sendToGroup, 7, none, 10, 2)
abbrev xms_25 : xMd := (2, yX2_deliverRow, cX2_deliverRow, 2, none, 10, 0)
abbrev xms_26 : xMd := (2, yX2_deliver, cX2_deliver, 3, none, 10, 2)
abbrev xms_27 : xMd := (2, yX2_goOn, cX2_goOn, 1, none, 0, 1)
abbrev xms_28 : xMd := (2, yX2_happen, cX2_happen, 3, none, 10, 2)
abbrev xms_29 : xMd := (2, yX2_stop, cX2_stop, 3, none, 10, 2)
abbrev xms_30 : xMd := (2, yX2_end, cX2_end, 4, none, 10, 2)
abbrev xms_31 : xMd := (2, yX2_panic, cX2_panic, 5, none, 10, 0)
abbrev xms_32 : xMd := (2, yX2_leaveChildren, cX2_leaveChildren, 7, none, 10, 1)
abbrev xms_33 : xMd := (2, yX2_noteStoppedInCare, cX2_noteStoppedInCare, 4, none, 10, 1)
abbrev xms_34 : xMd := (2, yX2_sendToOrphaned, cX2_sendToOrphaned, 3, none, 10, 0)
abbrev xms_35 : xMd := (2, yX2_leastGroupInCare, cX2_leastGroupInCare, 5, (some (.int)), 10, 1)
abbrev xms_36 : xMd := (2, yX2_isOrphaned, cX2_isOrphaned, 7, (some (.boolean)), 10, 1)
abbrev xms_37 : xMd := (2, yX2_doAct, cX2_doAct, 5, none, 10, 4)
abbrev xms_38 : xMd := (2, yX2_registerOf, cX2_registerOf, 1, (some (.int)), 0, 1)
abbrev xms_39 : xMd := (2, yX2_doPlainOp, cX2_doPlainOp, 8, none, 10, 4)
abbrev xms_40 : xMd := (2, yX2_doFamilyOp, cX2_doFamilyOp, 6, none, 10, 4)
abbrev xms_41 : xMd := (2, yX2_doSignalOp, cX2_doSignalOp, 7, none, 10, 4)
abbrev xms_42 : xMd := (2, yX2_doNameOp, cX2_doNameOp, 6, none, 10, 4)
abbrev xms_43 : xMd := (2, yX2_parentOf, cX2_parentOf, 1, (some (.int)), 0, 1)
abbrev xms_44 : xMd := (2, yX2_writeLog, cX2_writeLog, 3, none, 10, 2)
abbrev xms_45 : xMd := (2, yX2_fork, cX2_fork, 4, none, 10, 2)
abbrev xms_46 : xMd := (2, yX2_firstFree, cX2_firstFree, 5, (some (.object "ProcessTable$Proc")), 10, 0)
abbrev xms_47 : xMd := (2, yX2_newPid, cX2_newPid, 3, (some (.int)), 10, 0)
abbrev xms_48 : xMd := (2, yX2_isGroup, cX2_isGroup, 6, (some (.boolean)), 10, 1)
abbrev xms_49 : xMd := (2, yX2_exec, cX2_exec, 4, none, 0, 3)
abbrev xms_50 : xMd := (2, yX2_awaitChild, cX2_awaitChild, 13, none, 10, 4)
abbrev xms_51 : xMd := (2, yX2_isMeantChild, cX2_isMeantChild, 3, (some (.boolean)), 0, 3)
abbrev xms_52 : xMd := (2, yX2_means, cX2_means, 3, (some (.boolean)), 0, 3)
abbrev xms_53 : xMd := (2, yX2_sendToMeant, cX2_sendToMeant, 11, none, 10, 3)
abbrev xms_54 : xMd := (2, yX2_setAction, cX2_setAction, 3, none, 0, 3)
abbrev xms_55 : xMd := (2, yX2_returnFromHandler, cX2_returnFromHandler, 1, (some (.boolean)), 0, 1)
abbrev xms_56 : xMd := (2, yX2_setAlarm, cX2_setAlarm, 4, none, 10, 2)
abbrev xms_57 : xMd := (2, yX2_untilAlarm, cX2_untilAlarm, 2, (some (.int)), 10, 1)
abbrev xms_58 : xMd := (2, yX2_join, cX2_join, 6, (some (.int)), 10, 3)
abbrev xms_59 : xMd := (2, yX2_entry, cX2_entry, 2, (some (.int)), 10, 1)
abbrev xms_60 : xMd := (2, yX2_told, cX2_told, 4, (some (.int)), 10, 2)
abbrev xms_61 : xMd := (2, yX2_register, cX2_register, 4, (some (.int)), 10, 2)
abbrev xms_62 : xMd := (2, yX2_action, cX2_action, 4, (some (.int)), 10, 2)
abbrev xms_63 : xMd := (2, yX2_child, cX2_child, 9, (some (.int)), 10, 2)
abbrev xms_64 : xMd := (2, yX2_members, cX2_members, 7, (some (.int)), 10, 1)
abbrev xms_65 : xMd := (2, yX2_log, cX2_log, 4, (some (.int)), 10, 2)
abbrev xms_66 : xMd := (2, yX2_count, cX2_count, 2, (some (.int)), 10, 1)
abbrev xms_67 : xMd := (2, yX2_countProcesses, cX2_countProcesses, 6, (some (.int)), 10, 0)
abbrev xms_68 : xMd := (2, yX2_countInState, cX2_countInState, 7, (some (.int)), 10, 1)
abbrev xms_69 : xMd := (3, yX3_in, cX3_in, 6, (some (.boolean)), 0, 3)
abbrev xms_70 : xMd := (3, yX3_act, cX3_act, 6, (some (.int)), 21, 4)
abbrev xms_71 : xMd := (3, yX3_wipe, cX3_wipe, 3, (some (.int)), 21, 1)
abbrev xms_72 : xMd := (3, yX3_entryOf, cX3_entryOf, 4, (some (.int)), 21, 1)
abbrev xms_73 : xMd := (3, yX3_freeEntry, cX3_freeEntry, 2, (some (.int)), 21, 0)
abbrev xms_74 : xMd := (3, yX3_isTaken, cX3_isTaken, 4, (some (.boolean)), 21, 1)
abbrev xms_75 : xMd := (3, yX3_newPid, cX3_newPid, 3, (some (.int)), 21, 0)
abbrev xms_76 : xMd := (3, yX3_boot, cX3_boot, 3, (some (.int)), 21, 1)
abbrev xms_77 : xMd := (3, yX3_send, cX3_send, 3, none, 21, 2)
abbrev xms_78 : xMd := (3, yX3_sendTo, cX3_sendTo, 4, none, 21, 2)
abbrev xms_79 : xMd := (3, yX3_doRow, cX3_doRow, 3, none, 21, 0)
abbrev xms_80 : xMd := (3, yX3_come, cX3_come, 5, none, 21, 2)
abbrev xms_81 : xMd := (3, yX3_happen, cX3_happen, 3, none, 21, 2)
abbrev xms_82 : xMd := (3, yX3_wake, cX3_wake, 3, none, 21, 1)
abbrev xms_83 : xMd := (3, yX3_isOrphaned, cX3_isOrphaned, 6, (some (.boolean)), 21, 1)
abbrev xms_84 : xMd := (3, yX3_end, cX3_end, 6, none, 21, 2)
abbrev xms_85 : xMd := (3, yX3_tellOrphans, cX3_tellOrphans, 5, none, 21, 1)
abbrev xms_86 : xMd := (3, yX3_panic, cX3_panic, 2, none, 21, 0)
abbrev xms_87 : xMd := (3, yX3_tick, cX3_tick, 5, (some (.int)), 21, 1)
abbrev xms_88 : xMd := (3, yX3_takeTurn, cX3_takeTurn, 5, (some (.boolean)), 21, 0)
abbrev xms_89 : xMd := (3, yX3_beginHandler, cX3_beginHandler, 4, none, 21, 2)
abbrev xms_90 : xMd := (3, yX3_eighth, cX3_eighth, 1, (some (.int)), 0, 1)
abbrev xms_91 : xMd := (3, yX3_doAct, cX3_doAct, 8, none, 21, 1)
abbrev xms_92 : xMd := (3, yX3_doMore, cX3_doMore, 8, none, 21, 6)
abbrev xms_93 : xMd := (3, yX3_fork, cX3_fork, 6, none, 21, 2)
abbrev xms_94 : xMd := (3, yX3_exec, cX3_exec, 5, none, 21, 3)
abbrev xms_95 : xMd := (3, yX3_means, cX3_means, 4, (some (.boolean)), 21, 3)
abbrev xms_96 : xMd := (3, yX3_await, cX3_await, 10, none, 21, 4)
abbrev xms_97 : xMd := (3, yX3_kill, cX3_kill, 9, none, 21, 3)
abbrev xms_98 : xMd := (3, yX3_join, cX3_join, 9, none, 21, 3)
abbrev xms_99 : xMd := (3, yX3_kill_, cX3_kill_, 4, (some (.int)), 21, 2)
abbrev xms_100 : xMd := (3, yX3_entry, cX3_entry, 2, (some (.int)), 21, 1)
abbrev xms_101 : xMd := (3, yX3_told, cX3_told, 4, (some (.int)), 21, 2)
abbrev xms_102 : xMd := (3, yX3_register, cX3_register, 4, (some (.int)), 21, 2)
abbrev xms_103 : xMd := (3, yX3_action, cX3_action, 4, (some (.int)), 21, 2)
abbrev xms_104 : xMd := (3, yX3_child, cX3_child, 6, (some (.int)), 21, 2)
abbrev xms_105 : xMd := (3, yX3_members, cX3_members, 4, (some (.int)), 21, 1)
abbrev xms_106 : xMd := (3, yX3_log, cX3_log, 4, (some (.int)), 21, 2)
abbrev xms_107 : xMd := (3, yX3_howMany, cX3_howMany, 4, (some (.int)), 21, 1)
abbrev xms_108 : xMd := (3, yX3_count, cX3_count, 2, (some (.int)), 21, 1)
def xms : List xMd := [xms_0, xms_1, xms_2, xms_3, xms_4, xms_5, xms_6, xms_7, xms_8, xms_9, xms_10, xms_11, xms_12, xms_13, xms_14, xms_15, xms_16, xms_17, xms_18, xms_19, xms_20, xms_21, xms_22, xms_23, xms_24, xms_25, xms_26, xms_27, xms_28, xms_29, xms_30, xms_31, xms_32, xms_33, xms_34, xms_35, xms_36, xms_37, xms_38, xms_39, xms_40, xms_41, xms_42, xms_43, xms_44, xms_45, xms_46, xms_47, xms_48, xms_49, xms_50, xms_51, xms_52, xms_53, xms_54, xms_55, xms_56, xms_57, xms_58, xms_59, xms_60, xms_61, xms_62, xms_63, xms_64, xms_65, xms_66, xms_67, xms_68, xms_69, xms_70, xms_71, xms_72, xms_73, xms_74, xms_75, xms_76, xms_77, xms_78, xms_79, xms_80, xms_81, xms_82, xms_83, xms_84, xms_85, xms_86, xms_87, xms_88, xms_89, xms_90, xms_91, xms_92, xms_93, xms_94, xms_95, xms_96, xms_97, xms_98, xms_99, xms_100, xms_101, xms_102, xms_103, xms_104, xms_105, xms_106, xms_107, xms_108]
/- 0 X0_begin, 1 X0_clearRows, 2 X0_copyFrom, 3 X0_leaveEntry, 4 X0_wake, 5 X0_interrupt, 6 X0_sleep, 7 X0_handles, 8 X0_blocks, 9 X2_act, 10 X2_wipe, 11 X2_isProgram, 12 X2_boot, 13 X2_tick, 14 X2_kill, 15 X2_isSignal, 16 X2_find, 17 X2_ringAlarms, 18 X2_nextReady, 19 X2_takeTurn, 20 X2_leastSignal, 21 X2_beginHandler, 22 X2_happenPending, 23 X2_send, 24 X2_sendToGroup, 25 X2_deliverRow, 26 X2_deliver, 27 X2_goOn, 28 X2_happen, 29 X2_stop, 30 X2_end, 31 X2_panic, 32 X2_leaveChildren, 33 X2_noteStoppedInCare, 34 X2_sendToOrphaned, 35 X2_leastGroupInCare, 36 X2_isOrphaned, 37 X2_doAct, 38 X2_registerOf, 39 X2_doPlainOp, 40 X2_doFamilyOp, 41 X2_doSignalOp, 42 X2_doNameOp, 43 X2_parentOf, 44 X2_writeLog, 45 X2_fork, 46 X2_firstFree, 47 X2_newPid, 48 X2_isGroup, 49 X2_exec, 50 X2_awaitChild, 51 X2_isMeantChild, 52 X2_means, 53 X2_sendToMeant, 54 X2_setAction, 55 X2_returnFromHandler, 56 X2_setAlarm, 57 X2_untilAlarm, 58 X2_join, 59 X2_entry, 60 X2_told, 61 X2_register, 62 X2_action, 63 X2_child, 64 X2_members, 65 X2_log, 66 X2_count, 67 X2_countProcesses, 68 X2_countInState, 69 X3_in, 70 X3_act, 71 X3_wipe, 72 X3_entryOf, 73 X3_freeEntry, 74 X3_isTaken, 75 X3_newPid, 76 X3_boot, 77 X3_send, 78 X3_sendTo, 79 X3_doRow, 80 X3_come, 81 X3_happen, 82 X3_wake, 83 X3_isOrphaned, 84 X3_end, 85 X3_tellOrphans, 86 X3_panic, 87 X3_tick, 88 X3_takeTurn, 89 X3_beginHandler, 90 X3_eighth, 91 X3_doAct, 92 X3_doMore, 93 X3_fork, 94 X3_exec, 95 X3_means, 96 X3_await, 97 X3_kill, 98 X3_join, 99 X3_kill_, 100 X3_entry, 101 X3_told, 102 X3_register, 103 X3_action, 104 X3_child, 105 X3_members, 106 X3_log, 107 X3_howMany, 108 X3_count -/
def xtb_0 : List (Nat × Instr × Nat) := [(0, .aload_n 0, 1), (1, .iload_n 1, 1), (2, .putfield 24, 3), (5, .aload_n 0, 1), (6, .aload_n 2, 1), (7, .putfield 28, 3), (10, .aload_n 0, 1), (11, .iload_n 3, 1), (12, .putfield 32, 3), (15, .aload_n 0, 1), (16, .iconst 0, 1), (17, .putfield 35, 3), (20, .aload_n 0, 1), (21, .iload 4, 2), (23, .putfield 38, 3), (26, .aload_n 0, 1), (27, .iconst 0, 1), (28, .putfield 41, 3), (31, .aload_n 0, 1), (32, .iconst 0, 1), (33, .putfield 44, 3), (36, .aload_n 0, 1), (37, .iconst 0, 1), (38, .putfield 47, 3), (41, .aload_n 0, 1), (42, .iconst 0, 1), (43, .putfield 50, 3), (46, .aload_n 0, 1), (47, .lconst 0, 1), (48, .putfield 53, 3), (51, .aload_n 0, 1), (52, .iconst 0, 1), (53, .putfield 57, 3), (56, .aload_n 0, 1), (57, .iconst 0, 1), (58, .putfield 60, 3), (61, .aload_n 0, 1), (62, .iconst 0, 1), (63, .putfield 63, 3), (66, .aload_n 0, 1), (67, .iconst 0, 1), (68, .putfield 67, 3), (71, .aload_n 0, 1), (72, .iconst 0, 1), (73, .putfield 70, 3), (76, .return_, 1)]
def xtb_1 : List (Nat × Instr × Nat) := [(0, .iconst 0, 1), (1, .istore_n 1, 1), (2, .iload_n 1, 1), (3, .bipush 8, 2), (5, .if_icmp .ge 16, 3), (8, .aload_n 0, 1), (9, .getfield 9, 3), (12, .iload_n 1, 1), (13, .iconst 0, 1), (14, .iastore, 1), (15, .iinc 1 1, 3), (18, .goto (-16), 3), (21, .iconst 0, 1), (22, .istore_n 1, 1), (23, .iload_n 1, 1), (24, .bipush 20, 2), (26, .if_icmp .gt 16, 3), (29, .aload_n 0, 1), (30, .getfield 15, 3), (33, .iload_n 1, 1), (34, .iconst 0, 1), (35, .iastore, 1), (36, .iinc 1 1, 3), (39, .goto (-16), 3), (42, .return_, 1)]
def xtb_2 : List (Nat × Instr × Nat) := [(0, .aload_n 0, 1), (1, .aload_n 1, 1), (2, .getfield 41, 3), (5, .putfield 41, 3), (8, .aload_n 0, 1), (9, .aload_n 1, 1), (10, .getfield 47, 3), (13, .putfield 47, 3), (16, .aload_n 0, 1), (17, .aload_n 1, 1), (18, .getfield 50, 3), (21, .putfield 50, 3), (24, .aload_n 1, 1), (25, .getfield 9, 3), (28, .iconst 0, 1), (29, .aload_n 0, 1), (30, .getfield 9, 3), (33, .iconst 0, 1), (34, .bipush 8, 2), (36, .invokestatic 73, 3), (39, .aload_n 1, 1), (40, .getfield 15, 3), (43, .iconst 0, 1), (44, .aload_n 0, 1), (45, .getfield 15, 3), (48, .iconst 0, 1), (49, .bipush 21, 2), (51, .invokestatic 73, 3), (54, .aload_n 1, 1), (55, .getfield 18, 3), (58, .iconst 0, 1), (59, .aload_n 0, 1), (60, .getfield 18, 3), (63, .iconst 0, 1), (64, .iconst 4, 1), (65, .invokestatic 73, 3), (68, .aload_n 1, 1), (69, .getfield 21, 3), (72, .iconst 0, 1), (73, .aload_n 0, 1), (74, .getfield 21, 3), (77, .iconst 0, 1), (78, .iconst 4, 1), (79, .invokestatic 73, 3), (82, .return_, 1)]
def xtb_3 : List (Nat × Instr × Nat) := [(0, .aload_n 0, 1), (1, .iconst 0, 1), (2, .putfield 24, 3), (5, .aload_n 0, 1), (6, .aconst_null, 1), (7, .putfield 28, 3), (10, .aload_n 0, 1), (11, .iconst 0, 1), (12, .putfield 44, 3), (15, .return_, 1)]
def xtb_4 : List (Nat × Instr × Nat) := [(0, .aload_n 0, 1), (1, .getfield 35, 3), (4, .iconst 1, 1), (5, .if_icmp .ne 8, 3), (8, .aload_n 0, 1), (9, .iconst 0, 1), (10, .putfield 35, 3), (13, .return_, 1)]
def xtb_5 : List (Nat × Instr × Nat) := [(0, .aload_n 0, 1), (1, .getfield 35, 3), (4, .iconst 1, 1), (5, .if_icmp .eq 11, 3), (8, .aload_n 0, 1), (9, .getfield 35, 3), (12, .iconst 2, 1), (13, .if_icmp .ne 29, 3), (16, .aload_n 0, 1), (17, .iconst 0, 1), (18, .putfield 35, 3), (21, .aload_n 0, 1), (22, .getfield 9, 3), (25, .aload_n 0, 1), (26, .getfield 70, 3), (29, .bipush (-4), 2), (31, .iastore, 1), (32, .aload_n 0, 1), (33, .dup, 1), (34, .getfield 41, 3), (37, .iconst 1, 1), (38, .iadd, 1), (39, .putfield 41, 3), (42, .return_, 1)]
def xtb_6 : List (Nat × Instr × Nat) := [(0, .aload_n 0, 1), (1, .iload_n 1, 1), (2, .putfield 35, 3), (5, .aload_n 0, 1), (6, .iload_n 2, 1), (7, .putfield 70, 3), (10, .aload_n 0, 1), (11, .dup, 1), (12, .getfield 41, 3), (15, .iconst 1, 1), (16, .isub, 1), (17, .putfield 41, 3), (20, .return_, 1)]
def xtb_7 : List (Nat × Instr × Nat) := [(0, .aload_n 0, 1), (1, .getfield 15, 3), (4, .iload_n 1, 1), (5, .iaload, 1), (6, .iconst 2, 1), (7, .if_icmp .lt 7, 3), (10, .iconst 1, 1), (11, .goto 4, 3), (14, .iconst 0, 1), (15, .ireturn, 1)]
def xtb_8 : List (Nat × Instr × Nat) := [(0, .aload_n 0, 1), (1, .getfield 47, 3), (4, .iconst 1, 1), (5, .iload_n 1, 1), (6, .ishl, 1), (7, .iand, 1), (8, .ifCond .eq 7, 3), (11, .iconst 1, 1), (12, .goto 4, 3), (15, .iconst 0, 1), (16, .ireturn, 1)]
def xtb_9 : List (Nat × Instr × Nat) := [(0, .iload_n 1, 1), (1, .invokestatic 44, 3), (4, .ifCond .ne 7, 3), (7, .sipush (-1001), 3), (10, .ireturn, 1), (11, .aload_n 0, 1), (12, .getfield 11, 3), (15, .iload_n 1, 1), (16, .aaload, 1), (17, .astore 5, 2), (19, .aload 5, 2), (21, .getfield 48, 3), (24, .bipush 60, 2), (26, .if_icmp .lt 7, 3), (29, .sipush (-1004), 3), (32, .ireturn, 1), (33, .aload 5, 2), (35, .getfield 51, 3), (38, .aload 5, 2), (40, .getfield 48, 3), (43, .iload_n 2, 1), (44, .iastore, 1), (45, .aload 5, 2), (47, .getfield 54, 3), (50, .aload 5, 2), (52, .getfield 48, 3), (55, .iload_n 3, 1), (56, .iastore, 1), (57, .aload 5, 2), (59, .getfield 57, 3), (62, .aload 5, 2), (64, .getfield 48, 3), (67, .iload 4, 2), (69, .iastore, 1), (70, .aload 5, 2), (72, .dup, 1), (73, .getfield 48, 3), (76, .iconst 1, 1), (77, .iadd, 1), (78, .putfield 48, 3), (81, .aload 5, 2), (83, .getfield 48, 3), (86, .ireturn, 1)]
def xtb_10 : List (Nat × Instr × Nat) := [(0, .iload_n 1, 1), (1, .invokestatic 44, 3), (4, .ifCond .ne 7, 3), (7, .sipush (-1001), 3), (10, .ireturn, 1), (11, .aload_n 0, 1), (12, .getfield 11, 3), (15, .iload_n 1, 1), (16, .aaload, 1), (17, .getfield 48, 3), (20, .istore_n 2, 1), (21, .aload_n 0, 1), (22, .getfield 11, 3), (25, .iload_n 1, 1), (26, .aaload, 1), (27, .iconst 0, 1), (28, .putfield 48, 3), (31, .iload_n 2, 1), (32, .ireturn, 1)]
def xtb_11 : List (Nat × Instr × Nat) := [(0, .iload_n 0, 1), (1, .ifCond .lt 13, 3), (4, .iload_n 0, 1), (5, .bipush 16, 2), (7, .if_icmp .ge 7, 3), (10, .iconst 1, 1), (11, .goto 4, 3), (14, .iconst 0, 1), (15, .ireturn, 1)]
def xtb_12 : List (Nat × Instr × Nat) := [(0, .iload_n 1, 1), (1, .invokestatic 44, 3), (4, .ifCond .ne 7, 3), (7, .sipush (-1001), 3), (10, .ireturn, 1), (11, .aload_n 0, 1), (12, .iconst 1, 1), (13, .invokevirtual 60, 3), (16, .ifnull 7, 3), (19, .sipush (-1003), 3), (22, .ireturn, 1), (23, .aload_n 0, 1), (24, .getfield 17, 3), (27, .iconst 0, 1), (28, .aaload, 1), (29, .iconst 1, 1), (30, .aconst_null, 1), (31, .iconst 1, 1), (32, .iload_n 1, 1), (33, .invokevirtual 64, 3), (36, .aload_n 0, 1), (37, .getfield 17, 3), (40, .iconst 0, 1), (41, .aaload, 1), (42, .invokevirtual 68, 3), (45, .aload_n 0, 1), (46, .iconst 1, 1), (47, .putfield 71, 3), (50, .aload_n 0, 1), (51, .bipush 23, 2), (53, .putfield 38, 3), (56, .iconst 1, 1), (57, .ireturn, 1)]
def xtb_13 : List (Nat × Instr × Nat) := [(0, .iload_n 1, 1), (1, .ifCond .lt 10, 3), (4, .iload_n 1, 1), (5, .sipush 200, 3), (8, .if_icmp .le 7, 3), (11, .sipush (-1002), 3), (14, .ireturn, 1), (15, .iconst 0, 1), (16, .istore_n 2, 1), (17, .iconst 0, 1), (18, .istore_n 3, 1), (19, .iload_n 3, 1), (20, .iload_n 1, 1), (21, .if_icmp .ge 63, 3), (24, .aload_n 0, 1), (25, .dup, 1), (26, .getfield 74, 3), (29, .iconst 1, 1), (30, .iadd, 1), (31, .putfield 74, 3), (34, .aload_n 0, 1), (35, .invokevirtual 77, 3), (38, .aload_n 0, 1), (39, .invokevirtual 80, 3), (42, .aload_n 0, 1), (43, .invokevirtual 83, 3), (46, .istore 4, 2), (48, .iload 4, 2), (50, .iconst (-1), 1), (51, .if_icmp .eq 27, 3), (54, .iinc 2 1, 3), (57, .aload_n 0, 1), (58, .iload 4, 2), (60, .putfield 38, 3), (63, .aload_n 0, 1), (64, .aload_n 0, 1), (65, .getfield 17, 3), (68, .iload 4, 2), (70, .aaload, 1), (71, .invokevirtual 87, 3), (74, .aload_n 0, 1), (75, .invokevirtual 80, 3), (78, .iinc 3 1, 3), (81, .goto (-62), 3), (84, .iload_n 2, 1), (85, .ireturn, 1)]
def xtb_14 : List (Nat × Instr × Nat) := [(0, .aload_n 0, 1), (1, .iload_n 1, 1), (2, .invokevirtual 60, 3), (5, .astore_n 3, 1), (6, .aload_n 3, 1), (7, .ifnonnull 7, 3), (10, .sipush (-1001), 3), (13, .ireturn, 1), (14, .iload_n 2, 1), (15, .invokestatic 91, 3), (18, .ifCond .ne 7, 3), (21, .sipush (-1002), 3), (24, .ireturn, 1), (25, .aload_n 0, 1), (26, .aload_n 3, 1), (27, .iload_n 2, 1), (28, .invokevirtual 94, 3), (31, .aload_n 0, 1), (32, .invokevirtual 80, 3), (35, .iconst 1, 1), (36, .ireturn, 1)]
def xtb_15 : List (Nat × Instr × Nat) := [(0, .iload_n 0, 1), (1, .iconst 1, 1), (2, .if_icmp .lt 13, 3), (5, .iload_n 0, 1), (6, .bipush 20, 2), (8, .if_icmp .gt 7, 3), (11, .iconst 1, 1), (12, .goto 4, 3), (15, .iconst 0, 1), (16, .ireturn, 1)]
def xtb_16 : List (Nat × Instr × Nat) := [(0, .iload_n 1, 1), (1, .ifCond .gt 5, 3), (4, .aconst_null, 1), (5, .areturn, 1), (6, .aload_n 0, 1), (7, .getfield 17, 3), (10, .astore_n 2, 1), (11, .aload_n 2, 1), (12, .arraylength, 1), (13, .istore_n 3, 1), (14, .iconst 0, 1), (15, .istore 4, 2), (17, .iload 4, 2), (19, .iload_n 3, 1), (20, .if_icmp .ge 27, 3), (23, .aload_n 2, 1), (24, .iload 4, 2), (26, .aaload, 1), (27, .astore 5, 2), (29, .aload 5, 2), (31, .getfield 98, 3), (34, .iload_n 1, 1), (35, .if_icmp .ne 6, 3), (38, .aload 5, 2), (40, .areturn, 1), (41, .iinc 4 1, 3), (44, .goto (-27), 3), (47, .aconst_null, 1), (48, .areturn, 1)]
def xtb_17 : List (Nat × Instr × Nat) := [(0, .aload_n 0, 1), (1, .getfield 17, 3), (4, .astore_n 1, 1), (5, .aload_n 1, 1), (6, .arraylength, 1), (7, .istore_n 2, 1), (8, .iconst 0, 1), (9, .istore_n 3, 1), (10, .iload_n 3, 1), (11, .iload_n 2, 1), (12, .if_icmp .ge 60, 3), (15, .aload_n 1, 1), (16, .iload_n 3, 1), (17, .aaload, 1), (18, .astore 4, 2), (20, .aload 4, 2), (22, .getfield 98, 3), (25, .ifCond .eq 41, 3), (28, .aload 4, 2), (30, .getfield 101, 3), (33, .lconst 0, 1), (34, .lcmp, 1), (35, .ifCond .eq 31, 3), (38, .aload 4, 2), (40, .getfield 101, 3), (43, .aload_n 0, 1), (44, .getfield 74, 3), (47, .i2l, 1), (48, .lcmp, 1), (49, .ifCond .ne 17, 3), (52, .aload 4, 2), (54, .lconst 0, 1), (55, .putfield 101, 3), (58, .aload_n 0, 1), (59, .aload 4, 2), (61, .bipush 14, 2), (63, .invokevirtual 94, 3), (66, .iinc 3 1, 3), (69, .goto (-59), 3), (72, .return_, 1)]
def xtb_18 : List (Nat × Instr × Nat) := [(0, .iconst 1, 1), (1, .istore_n 1, 1), (2, .iload_n 1, 1), (3, .bipush 24, 2), (5, .if_icmp .gt 45, 3), (8, .aload_n 0, 1), (9, .getfield 38, 3), (12, .iload_n 1, 1), (13, .iadd, 1), (14, .bipush 24, 2), (16, .irem, 1), (17, .istore_n 2, 1), (18, .aload_n 0, 1), (19, .getfield 17, 3), (22, .iload_n 2, 1), (23, .aaload, 1), (24, .getfield 98, 3), (27, .ifCond .eq 17, 3), (30, .aload_n 0, 1), (31, .getfield 17, 3), (34, .iload_n 2, 1), (35, .aaload, 1), (36, .getfield 105, 3), (39, .ifCond .ne 5, 3), (42, .iload_n 2, 1), (43, .ireturn, 1), (44, .iinc 1 1, 3), (47, .goto (-45), 3), (50, .iconst (-1), 1), (51, .ireturn, 1)]
def xtb_19 : List (Nat × Instr × Nat) := [(0, .aload_n 1, 1), (1, .getfield 108, 3), (4, .aload_n 1, 1), (5, .getfield 111, 3), (8, .iconst (-1), 1), (9, .ixor, 1), (10, .iand, 1), (11, .invokestatic 114, 3), (14, .istore_n 2, 1), (15, .iload_n 2, 1), (16, .iconst (-1), 1), (17, .if_icmp .eq 10, 3), (20, .aload_n 0, 1), (21, .aload_n 1, 1), (22, .iload_n 2, 1), (23, .invokevirtual 118, 3), (26, .return_, 1), (27, .aload_n 0, 1), (28, .getfield 11, 3), (31, .aload_n 1, 1), (32, .getfield 121, 3), (35, .aaload, 1), (36, .astore_n 3, 1), (37, .aload_n 1, 1), (38, .getfield 124, 3), (41, .istore 4, 2), (43, .iload 4, 2), (45, .ifCond .lt 12, 3), (48, .iload 4, 2), (50, .aload_n 3, 1), (51, .getfield 48, 3), (54, .if_icmp .lt 10, 3), (57, .aload_n 0, 1), (58, .aload_n 1, 1), (59, .iconst 0, 1), (60, .invokevirtual 127, 3), (63, .return_, 1), (64, .aload_n 1, 1), (65, .iload 4, 2), (67, .iconst 1, 1), (68, .iadd, 1), (69, .putfield 124, 3), (72, .aload_n 0, 1), (73, .aload_n 1, 1), (74, .aload_n 3, 1), (75, .getfield 51, 3), (78, .iload 4, 2), (80, .iaload, 1), (81, .aload_n 3, 1), (82, .getfield 54, 3), (85, .iload 4, 2), (87, .iaload, 1), (88, .aload_n 3, 1), (89, .getfield 57, 3), (92, .iload 4, 2), (94, .iaload, 1), (95, .invokevirtual 130, 3), (98, .aload_n 0, 1), (99, .aload_n 1, 1), (100, .invokevirtual 134, 3), (103, .return_, 1)]
def xtb_20 : List (Nat × Instr × Nat) := [(0, .iconst 1, 1), (1, .istore_n 1, 1), (2, .iload_n 1, 1), (3, .bipush 20, 2), (5, .if_icmp .gt 19, 3), (8, .iload_n 0, 1), (9, .iconst 1, 1), (10, .iload_n 1, 1), (11, .ishl, 1), (12, .iand, 1), (13, .ifCond .eq 5, 3), (16, .iload_n 1, 1), (17, .ireturn, 1), (18, .iinc 1 1, 3), (21, .goto (-19), 3), (24, .iconst (-1), 1), (25, .ireturn, 1)]
def xtb_21 : List (Nat × Instr × Nat) := [(0, .aload_n 1, 1), (1, .getfield 137, 3), (4, .iconst 4, 1), (5, .if_icmp .lt 11, 3), (8, .aload_n 0, 1), (9, .aload_n 1, 1), (10, .bipush 11, 2), (12, .invokevirtual 127, 3), (15, .return_, 1), (16, .aload_n 1, 1), (17, .getfield 140, 3), (20, .aload_n 1, 1), (21, .getfield 137, 3), (24, .aload_n 1, 1), (25, .getfield 124, 3), (28, .iastore, 1), (29, .aload_n 1, 1), (30, .getfield 143, 3), (33, .aload_n 1, 1), (34, .getfield 137, 3), (37, .aload_n 1, 1), (38, .getfield 111, 3), (41, .iastore, 1), (42, .aload_n 1, 1), (43, .dup, 1), (44, .getfield 137, 3), (47, .iconst 1, 1), (48, .iadd, 1), (49, .putfield 137, 3), (52, .aload_n 1, 1), (53, .dup, 1), (54, .getfield 108, 3), (57, .iconst 1, 1), (58, .iload_n 2, 1), (59, .ishl, 1), (60, .iconst (-1), 1), (61, .ixor, 1), (62, .iand, 1), (63, .putfield 108, 3), (66, .aload_n 1, 1), (67, .dup, 1), (68, .getfield 111, 3), (71, .iconst 1, 1), (72, .iload_n 2, 1), (73, .ishl, 1), (74, .ior, 1), (75, .putfield 111, 3), (78, .aload_n 1, 1), (79, .aload_n 1, 1), (80, .getfield 146, 3), (83, .iload_n 2, 1), (84, .iaload, 1), (85, .iconst 2, 1), (86, .isub, 1), (87, .putfield 124, 3), (90, .aload_n 0, 1), (91, .dup, 1), (92, .getfield 149, 3), (95, .iconst 1, 1), (96, .iadd, 1), (97, .putfield 149, 3), (100, .return_, 1)]
def xtb_22 : List (Nat × Instr × Nat) := [(0, .iconst 1, 1), (1, .istore_n 2, 1), (2, .iload_n 2, 1), (3, .bipush 20, 2), (5, .if_icmp .gt 56, 3), (8, .aload_n 1, 1), (9, .getfield 108, 3), (12, .iconst 1, 1), (13, .iload_n 2, 1), (14, .ishl, 1), (15, .iand, 1), (16, .ifCond .eq 39, 3), (19, .aload_n 1, 1), (20, .iload_n 2, 1), (21, .invokevirtual 152, 3), (24, .ifCond .ne 31, 3), (27, .aload_n 1, 1), (28, .iload_n 2, 1), (29, .invokevirtual 155, 3), (32, .ifCond .ne 23, 3), (35, .aload_n 1, 1), (36, .dup, 1), (37, .getfield 108, 3), (40, .iconst 1, 1), (41, .iload_n 2, 1), (42, .ishl, 1), (43, .iconst (-1), 1), (44, .ixor, 1), (45, .iand, 1), (46, .putfield 108, 3), (49, .aload_n 0, 1), (50, .aload_n 1, 1), (51, .iload_n 2, 1), (52, .invokevirtual 158, 3), (55, .iinc 2 1, 3), (58, .goto (-56), 3), (61, .return_, 1)]
def xtb_23 : List (Nat × Instr × Nat) := [(0, .aload_n 1, 1), (1, .ifnull 13, 3), (4, .aload_n 0, 1), (5, .getfield 161, 3), (8, .sipush 1224, 3), (11, .if_icmp .lt 4, 3), (14, .return_, 1), (15, .aload_n 0, 1), (16, .getfield 21, 3), (19, .aload_n 0, 1), (20, .getfield 161, 3), (23, .aload_n 1, 1), (24, .aastore, 1), (25, .aload_n 0, 1), (26, .getfield 24, 3), (29, .aload_n 0, 1), (30, .getfield 161, 3), (33, .iload_n 2, 1), (34, .iastore, 1), (35, .aload_n 0, 1), (36, .dup, 1), (37, .getfield 161, 3), (40, .iconst 1, 1), (41, .iadd, 1), (42, .putfield 161, 3), (45, .aload_n 0, 1), (46, .dup, 1), (47, .getfield 164, 3), (50, .iconst 1, 1), (51, .iadd, 1), (52, .putfield 164, 3), (55, .return_, 1)]
def xtb_24 : List (Nat × Instr × Nat) := [(0, .aload_n 0, 1), (1, .getfield 17, 3), (4, .astore_n 3, 1), (5, .aload_n 3, 1), (6, .arraylength, 1), (7, .istore 4, 2), (9, .iconst 0, 1), (10, .istore 5, 2), (12, .iload 5, 2), (14, .iload 4, 2), (16, .if_icmp .ge 39, 3), (19, .aload_n 3, 1), (20, .iload 5, 2), (22, .aaload, 1), (23, .astore 6, 2), (25, .aload 6, 2), (27, .getfield 98, 3), (30, .ifCond .eq 19, 3), (33, .aload 6, 2), (35, .getfield 167, 3), (38, .iload_n 1, 1), (39, .if_icmp .ne 10, 3), (42, .aload_n 0, 1), (43, .aload 6, 2), (45, .iload_n 2, 1), (46, .invokevirtual 94, 3), (49, .iinc 5 1, 3), (52, .goto (-40), 3), (55, .return_, 1)]
def xtb_25 : List (Nat × Instr × Nat) := [(0, .iconst 0, 1), (1, .istore_n 1, 1), (2, .iload_n 1, 1), (3, .aload_n 0, 1), (4, .getfield 161, 3), (7, .if_icmp .ge 32, 3), (10, .iload_n 1, 1), (11, .sipush 1224, 3), (14, .if_icmp .ge 25, 3), (17, .aload_n 0, 1), (18, .aload_n 0, 1), (19, .getfield 21, 3), (22, .iload_n 1, 1), (23, .aaload, 1), (24, .aload_n 0, 1), (25, .getfield 24, 3), (28, .iload_n 1, 1), (29, .iaload, 1), (30, .invokevirtual 170, 3), (33, .iinc 1 1, 3), (36, .goto (-34), 3), (39, .aload_n 0, 1), (40, .iconst 0, 1), (41, .putfield 161, 3), (44, .return_, 1)]
def xtb_26 : List (Nat × Instr × Nat) := [(0, .aload_n 1, 1), (1, .ifnull 18, 3), (4, .aload_n 1, 1), (5, .getfield 98, 3), (8, .ifCond .eq 11, 3), (11, .aload_n 1, 1), (12, .getfield 105, 3), (15, .iconst 4, 1), (16, .if_icmp .ne 4, 3), (19, .return_, 1), (20, .iload_n 2, 1), (21, .bipush 18, 2), (23, .if_icmp .ne 7, 3), (26, .aload_n 1, 1), (27, .invokestatic 173, 3), (30, .iload_n 2, 1), (31, .bipush 19, 2), (33, .if_icmp .eq 9, 3), (36, .iload_n 2, 1), (37, .bipush 20, 2), (39, .if_icmp .ne 14, 3), (42, .aload_n 1, 1), (43, .dup, 1), (44, .getfield 108, 3), (47, .ldc 176, 2), (49, .iand, 1), (50, .putfield 108, 3), (53, .aload_n 1, 1), (54, .iload_n 2, 1), (55, .invokevirtual 152, 3), (58, .ifCond .ne 18, 3), (61, .aload_n 1, 1), (62, .iload_n 2, 1), (63, .invokevirtual 155, 3), (66, .ifCond .ne 10, 3), (69, .aload_n 0, 1), (70, .aload_n 1, 1), (71, .iload_n 2, 1), (72, .invokevirtual 158, 3), (75, .return_, 1), (76, .aload_n 1, 1), (77, .dup, 1), (78, .getfield 108, 3), (81, .iconst 1, 1), (82, .iload_n 2, 1), (83, .ishl, 1), (84, .ior, 1), (85, .putfield 108, 3), (88, .aload_n 1, 1), (89, .iload_n 2, 1), (90, .invokevirtual 152, 3), (93, .ifCond .ne 7, 3), (96, .aload_n 1, 1), (97, .invokevirtual 177, 3), (100, .return_, 1)]
def xtb_27 : List (Nat × Instr × Nat) := [(0, .aload_n 0, 1), (1, .dup, 1), (2, .getfield 108, 3), (5, .ldc 180, 2), (7, .iand, 1), (8, .putfield 108, 3), (11, .aload_n 0, 1), (12, .getfield 105, 3), (15, .iconst 3, 1), (16, .if_icmp .ne 8, 3), (19, .aload_n 0, 1), (20, .iconst 0, 1), (21, .putfield 105, 3), (24, .return_, 1)]
def xtb_28 : List (Nat × Instr × Nat) := [(0, .aload_n 1, 1), (1, .getfield 146, 3), (4, .iload_n 2, 1), (5, .iaload, 1), (6, .iconst 1, 1), (7, .if_icmp .eq 23, 3), (10, .iload_n 2, 1), (11, .bipush 17, 2), (13, .if_icmp .eq 17, 3), (16, .iload_n 2, 1), (17, .bipush 18, 2), (19, .if_icmp .eq 11, 3), (22, .aload_n 1, 1), (23, .getfield 98, 3), (26, .iconst 1, 1), (27, .if_icmp .ne 4, 3), (30, .return_, 1), (31, .iload_n 2, 1), (32, .bipush 19, 2), (34, .if_icmp .eq 9, 3), (37, .iload_n 2, 1), (38, .bipush 20, 2), (40, .if_icmp .ne 12, 3), (43, .aload_n 0, 1), (44, .aload_n 1, 1), (45, .iload_n 2, 1), (46, .invokevirtual 181, 3), (49, .goto 9, 3), (52, .aload_n 0, 1), (53, .aload_n 1, 1), (54, .iload_n 2, 1), (55, .invokevirtual 127, 3), (58, .return_, 1)]
def xtb_29 : List (Nat × Instr × Nat) := [(0, .aload_n 1, 1), (1, .getfield 105, 3), (4, .iconst 3, 1), (5, .if_icmp .ne 4, 3), (8, .return_, 1), (9, .aload_n 1, 1), (10, .iconst 3, 1), (11, .putfield 105, 3), (14, .aload_n 1, 1), (15, .iload_n 2, 1), (16, .putfield 184, 3), (19, .aload_n 1, 1), (20, .iconst 0, 1), (21, .putfield 187, 3), (24, .aload_n 1, 1), (25, .getfield 191, 3), (28, .ifnull 20, 3), (31, .aload_n 1, 1), (32, .getfield 191, 3), (35, .invokevirtual 195, 3), (38, .aload_n 0, 1), (39, .aload_n 1, 1), (40, .getfield 191, 3), (43, .bipush 17, 2), (45, .invokevirtual 94, 3), (48, .return_, 1)]
def xtb_30 : List (Nat × Instr × Nat) := [(0, .aload_n 0, 1), (1, .dup, 1), (2, .getfield 198, 3), (5, .iconst 1, 1), (6, .iadd, 1), (7, .putfield 198, 3), (10, .aload_n 1, 1), (11, .getfield 98, 3), (14, .iconst 1, 1), (15, .if_icmp .ne 8, 3), (18, .aload_n 0, 1), (19, .invokevirtual 201, 3), (22, .return_, 1), (23, .aload_n 0, 1), (24, .aload_n 1, 1), (25, .invokevirtual 204, 3), (28, .aload_n 0, 1), (29, .aload_n 1, 1), (30, .invokevirtual 207, 3), (33, .aload_n 1, 1), (34, .iconst 4, 1), (35, .putfield 105, 3), (38, .aload_n 1, 1), (39, .iload_n 2, 1), (40, .putfield 210, 3), (43, .aload_n 1, 1), (44, .lconst 0, 1), (45, .putfield 101, 3), (48, .aload_n 1, 1), (49, .iconst 0, 1), (50, .putfield 108, 3), (53, .aload_n 1, 1), (54, .getfield 191, 3), (57, .astore_n 3, 1), (58, .aload_n 3, 1), (59, .ifnull 29, 3), (62, .aload_n 3, 1), (63, .getfield 146, 3), (66, .bipush 17, 2), (68, .iaload, 1), (69, .iconst 1, 1), (70, .if_icmp .ne 7, 3), (73, .aload_n 1, 1), (74, .invokevirtual 213, 3), (77, .aload_n 3, 1), (78, .invokevirtual 195, 3), (81, .aload_n 0, 1), (82, .aload_n 3, 1), (83, .bipush 17, 2), (85, .invokevirtual 94, 3), (88, .aload_n 0, 1), (89, .invokevirtual 216, 3), (92, .return_, 1)]
def xtb_31 : List (Nat × Instr × Nat) := [(0, .aload_n 0, 1), (1, .getfield 17, 3), (4, .astore_n 1, 1), (5, .aload_n 1, 1), (6, .arraylength, 1), (7, .istore_n 2, 1), (8, .iconst 0, 1), (9, .istore_n 3, 1), (10, .iload_n 3, 1), (11, .iload_n 2, 1), (12, .if_icmp .ge 19, 3), (15, .aload_n 1, 1), (16, .iload_n 3, 1), (17, .aaload, 1), (18, .astore 4, 2), (20, .aload 4, 2), (22, .invokevirtual 213, 3), (25, .iinc 3 1, 3), (28, .goto (-18), 3), (31, .aload_n 0, 1), (32, .iconst 0, 1), (33, .putfield 161, 3), (36, .aload_n 0, 1), (37, .dup, 1), (38, .getfield 219, 3), (41, .iconst 1, 1), (42, .iadd, 1), (43, .putfield 219, 3), (46, .return_, 1)]
def xtb_32 : List (Nat × Instr × Nat) := [(0, .aload_n 0, 1), (1, .getfield 17, 3), (4, .iconst 0, 1), (5, .aaload, 1), (6, .astore_n 2, 1), (7, .aload_n 0, 1), (8, .getfield 17, 3), (11, .astore_n 3, 1), (12, .aload_n 3, 1), (13, .arraylength, 1), (14, .istore 4, 2), (16, .iconst 0, 1), (17, .istore 5, 2), (19, .iload 5, 2), (21, .iload 4, 2), (23, .if_icmp .ge 42, 3), (26, .aload_n 3, 1), (27, .iload 5, 2), (29, .aaload, 1), (30, .astore 6, 2), (32, .aload 6, 2), (34, .getfield 98, 3), (37, .ifCond .eq 22, 3), (40, .aload 6, 2), (42, .getfield 191, 3), (45, .aload_n 1, 1), (46, .if_acmp .ne 13, 3), (49, .aload 6, 2), (51, .aload_n 2, 1), (52, .putfield 191, 3), (55, .aload_n 2, 1), (56, .invokevirtual 195, 3), (59, .iinc 5 1, 3), (62, .goto (-43), 3), (65, .return_, 1)]
def xtb_33 : List (Nat × Instr × Nat) := [(0, .iconst 0, 1), (1, .istore_n 2, 1), (2, .iload_n 2, 1), (3, .bipush 24, 2), (5, .if_icmp .ge 58, 3), (8, .aload_n 0, 1), (9, .getfield 17, 3), (12, .iload_n 2, 1), (13, .aaload, 1), (14, .astore_n 3, 1), (15, .aload_n 0, 1), (16, .getfield 28, 3), (19, .iload_n 2, 1), (20, .aload_n 3, 1), (21, .aload_n 1, 1), (22, .if_acmp .eq 33, 3), (25, .aload_n 3, 1), (26, .getfield 98, 3), (29, .ifCond .eq 26, 3), (32, .aload_n 3, 1), (33, .getfield 105, 3), (36, .iconst 3, 1), (37, .if_icmp .ne 18, 3), (40, .aload_n 0, 1), (41, .aload_n 3, 1), (42, .getfield 167, 3), (45, .invokevirtual 222, 3), (48, .ifCond .ne 7, 3), (51, .iconst 1, 1), (52, .goto 4, 3), (55, .iconst 0, 1), (56, .bastore, 1), (57, .iinc 2 1, 3), (60, .goto (-58), 3), (63, .return_, 1)]
def xtb_34 : List (Nat × Instr × Nat) := [(0, .aload_n 0, 1), (1, .iconst 0, 1), (2, .invokevirtual 225, 3), (5, .istore_n 1, 1), (6, .iconst 0, 1), (7, .istore_n 2, 1), (8, .iload_n 2, 1), (9, .bipush 24, 2), (11, .if_icmp .ge 41, 3), (14, .iload_n 1, 1), (15, .iconst (-1), 1), (16, .if_icmp .eq 36, 3), (19, .aload_n 0, 1), (20, .iload_n 1, 1), (21, .invokevirtual 222, 3), (24, .ifCond .eq 16, 3), (27, .aload_n 0, 1), (28, .iload_n 1, 1), (29, .iconst 1, 1), (30, .invokevirtual 228, 3), (33, .aload_n 0, 1), (34, .iload_n 1, 1), (35, .bipush 18, 2), (37, .invokevirtual 228, 3), (40, .aload_n 0, 1), (41, .iload_n 1, 1), (42, .invokevirtual 225, 3), (45, .istore_n 1, 1), (46, .iinc 2 1, 3), (49, .goto (-41), 3), (52, .return_, 1)]
def xtb_35 : List (Nat × Instr × Nat) := [(0, .iconst (-1), 1), (1, .istore_n 2, 1), (2, .iconst 0, 1), (3, .istore_n 3, 1), (4, .iload_n 3, 1), (5, .bipush 24, 2), (7, .if_icmp .ge 49, 3), (10, .aload_n 0, 1), (11, .getfield 17, 3), (14, .iload_n 3, 1), (15, .aaload, 1), (16, .getfield 167, 3), (19, .istore 4, 2), (21, .aload_n 0, 1), (22, .getfield 28, 3), (25, .iload_n 3, 1), (26, .baload, 1), (27, .ifCond .eq 23, 3), (30, .iload 4, 2), (32, .iload_n 1, 1), (33, .if_icmp .le 17, 3), (36, .iload_n 2, 1), (37, .iconst (-1), 1), (38, .if_icmp .eq 9, 3), (41, .iload 4, 2), (43, .iload_n 2, 1), (44, .if_icmp .ge 6, 3), (47, .iload 4, 2), (49, .istore_n 2, 1), (50, .iinc 3 1, 3), (53, .goto (-49), 3), (56, .iload_n 2, 1), (57, .ireturn, 1)]
def xtb_36 : List (Nat × Instr × Nat) := [(0, .iconst 0, 1), (1, .istore_n 2, 1), (2, .aload_n 0, 1), (3, .getfield 17, 3), (6, .astore_n 3, 1), (7, .aload_n 3, 1), (8, .arraylength, 1), (9, .istore 4, 2), (11, .iconst 0, 1), (12, .istore 5, 2), (14, .iload 5, 2), (16, .iload 4, 2), (18, .if_icmp .ge 80, 3), (21, .aload_n 3, 1), (22, .iload 5, 2), (24, .aaload, 1), (25, .astore 6, 2), (27, .aload 6, 2), (29, .getfield 98, 3), (32, .ifCond .eq 60, 3), (35, .aload 6, 2), (37, .getfield 167, 3), (40, .iload_n 1, 1), (41, .if_icmp .ne 51, 3), (44, .aload 6, 2), (46, .getfield 105, 3), (49, .iconst 4, 1), (50, .if_icmp .ne 6, 3), (53, .goto 39, 3), (56, .iconst 1, 1), (57, .istore_n 2, 1), (58, .aload 6, 2), (60, .getfield 191, 3), (63, .ifnull 27, 3), (66, .aload 6, 2), (68, .getfield 191, 3), (71, .getfield 167, 3), (74, .iload_n 1, 1), (75, .if_icmp .eq 17, 3), (78, .aload 6, 2), (80, .getfield 191, 3), (83, .getfield 98, 3), (86, .iconst 1, 1), (87, .if_icmp .eq 5, 3), (90, .iconst 0, 1), (91, .ireturn, 1), (92, .iinc 5 1, 3), (95, .goto (-81), 3), (98, .iload_n 2, 1), (99, .ireturn, 1)]
def xtb_37 : List (Nat × Instr × Nat) := [(0, .iload_n 2, 1), (1, .bipush 7, 2), (3, .if_icmp .gt 15, 3), (6, .aload_n 0, 1), (7, .aload_n 1, 1), (8, .iload_n 2, 1), (9, .iload_n 3, 1), (10, .iload 4, 2), (12, .invokevirtual 232, 3), (15, .goto 48, 3), (18, .iload_n 2, 1), (19, .bipush 13, 2), (21, .if_icmp .gt 15, 3), (24, .aload_n 0, 1), (25, .aload_n 1, 1), (26, .iload_n 2, 1), (27, .iload_n 3, 1), (28, .iload 4, 2), (30, .invokevirtual 235, 3), (33, .goto 30, 3), (36, .iload_n 2, 1), (37, .bipush 19, 2), (39, .if_icmp .gt 15, 3), (42, .aload_n 0, 1), (43, .aload_n 1, 1), (44, .iload_n 2, 1), (45, .iload_n 3, 1), (46, .iload 4, 2), (48, .invokevirtual 238, 3), (51, .goto 12, 3), (54, .aload_n 0, 1), (55, .aload_n 1, 1), (56, .iload_n 2, 1), (57, .iload_n 3, 1), (58, .iload 4, 2), (60, .invokevirtual 241, 3), (63, .return_, 1)]
def xtb_38 : List (Nat × Instr × Nat) := [(0, .iload_n 0, 1), (1, .bipush 7, 2), (3, .iand, 1), (4, .ireturn, 1)]
def xtb_39 : List (Nat × Instr × Nat) := [(0, .aload_n 1, 1), (1, .getfield 244, 3), (4, .astore 5, 2), (6, .iload_n 3, 1), (7, .invokestatic 247, 3), (10, .istore 6, 2), (12, .iload 4, 2), (14, .invokestatic 247, 3), (17, .istore 7, 2), (19, .iload_n 2, 1), (20, .tableswitch 175 0 7 #[48, 58, 71, 87, 103, 111, 135, 159], 48), (68, .aload 5, 2), (70, .iload 6, 2), (72, .iload 4, 2), (74, .iastore, 1), (75, .goto 120, 3), (78, .aload 5, 2), (80, .iload 6, 2), (82, .aload 5, 2), (84, .iload 7, 2), (86, .iaload, 1), (87, .iastore, 1), (88, .goto 107, 3), (91, .aload 5, 2), (93, .iload 6, 2), (95, .dup2, 1), (96, .iaload, 1), (97, .aload 5, 2), (99, .iload 7, 2), (101, .iaload, 1), (102, .iadd, 1), (103, .iastore, 1), (104, .goto 91, 3), (107, .aload 5, 2), (109, .iload 6, 2), (111, .dup2, 1), (112, .iaload, 1), (113, .aload 5, 2), (115, .iload 7, 2), (117, .iaload, 1), (118, .isub, 1), (119, .iastore, 1), (120, .goto 75, 3), (123, .aload_n 1, 1), (124, .iload_n 3, 1), (125, .putfield 124, 3), (128, .goto 67, 3), (131, .aload_n 1, 1), (132, .aload 5, 2), (134, .iload 6, 2), (136, .iaload, 1), (137, .ifCond .ne 8, 3), (140, .iload 4, 2), (142, .goto 7, 3), (145, .aload_n 1, 1), (146, .getfield 124, 3), (149, .putfield 124, 3), (152, .goto 43, 3), (155, .aload_n 1, 1), (156, .aload 5, 2), (158, .iload 6, 2), (160, .iaload, 1), (161, .ifCond .ge 8, 3), (164, .iload 4, 2), (166, .goto 7, 3), (169, .aload_n 1, 1), (170, .getfield 124, 3), (173, .putfield 124, 3), (176, .goto 19, 3), (179, .aload_n 0, 1), (180, .aload_n 1, 1), (181, .getfield 98, 3), (184, .aload 5, 2), (186, .iload 6, 2), (188, .iaload, 1), (189, .invokevirtual 250, 3), (192, .goto 3, 3), (195, .return_, 1)]
def xtb_40 : List (Nat × Instr × Nat) := [(0, .iload_n 3, 1), (1, .invokestatic 247, 3), (4, .istore 5, 2), (6, .iload_n 2, 1), (7, .tableswitch 69 8 10 #[25, 35, 46], 25), (32, .aload_n 0, 1), (33, .aload_n 1, 1), (34, .iload 5, 2), (36, .invokevirtual 253, 3), (39, .goto 50, 3), (42, .aload_n 1, 1), (43, .iload 5, 2), (45, .iload 4, 2), (47, .invokestatic 256, 3), (50, .goto 39, 3), (53, .aload_n 0, 1), (54, .aload_n 1, 1), (55, .sipush 256, 3), (58, .aload_n 1, 1), (59, .getfield 244, 3), (62, .iload 5, 2), (64, .iaload, 1), (65, .sipush 255, 3), (68, .iand, 1), (69, .imul, 1), (70, .invokevirtual 127, 3), (73, .goto 16, 3), (76, .aload_n 0, 1), (77, .aload_n 1, 1), (78, .iload_n 2, 1), (79, .iload 5, 2), (81, .iload 4, 2), (83, .invokestatic 247, 3), (86, .invokevirtual 260, 3), (89, .return_, 1)]
def xtb_41 : List (Nat × Instr × Nat) := [(0, .iload_n 3, 1), (1, .invokestatic 247, 3), (4, .istore 5, 2), (6, .iload_n 2, 1), (7, .tableswitch 131 14 19 #[37, 52, 62, 95, 105, 121], 37), (44, .aload_n 0, 1), (45, .aload_n 1, 1), (46, .iload 5, 2), (48, .iload 4, 2), (50, .invokestatic 247, 3), (53, .invokevirtual 263, 3), (56, .goto 82, 3), (59, .aload_n 1, 1), (60, .iload_n 3, 1), (61, .iload 4, 2), (63, .invokestatic 266, 3), (66, .goto 72, 3), (69, .aload_n 1, 1), (70, .getfield 111, 3), (73, .istore 6, 2), (75, .aload_n 1, 1), (76, .aload_n 1, 1), (77, .getfield 244, 3), (80, .iload 5, 2), (82, .iaload, 1), (83, .ldc_w 269, 3), (86, .iand, 1), (87, .putfield 111, 3), (90, .aload_n 1, 1), (91, .getfield 244, 3), (94, .iload 5, 2), (96, .iload 6, 2), (98, .iastore, 1), (99, .goto 39, 3), (102, .aload_n 1, 1), (103, .iconst 2, 1), (104, .iload 5, 2), (106, .invokevirtual 270, 3), (109, .goto 29, 3), (112, .aload_n 1, 1), (113, .invokestatic 273, 3), (116, .ifCond .ne 22, 3), (119, .aload_n 0, 1), (120, .aload_n 1, 1), (121, .iconst 0, 1), (122, .invokevirtual 127, 3), (125, .goto 13, 3), (128, .aload_n 0, 1), (129, .aload_n 1, 1), (130, .iload 5, 2), (132, .invokevirtual 277, 3), (135, .goto 3, 3), (138, .return_, 1)]
def xtb_42 : List (Nat × Instr × Nat) := [(0, .iload_n 3, 1), (1, .invokestatic 247, 3), (4, .istore 5, 2), (6, .iload_n 2, 1), (7, .tableswitch 103 20 23 #[29, 43, 57, 71], 29), (36, .aload_n 1, 1), (37, .getfield 244, 3), (40, .iload 5, 2), (42, .aload_n 1, 1), (43, .getfield 98, 3), (46, .iastore, 1), (47, .goto 63, 3), (50, .aload_n 1, 1), (51, .getfield 244, 3), (54, .iload 5, 2), (56, .aload_n 1, 1), (57, .invokestatic 280, 3), (60, .iastore, 1), (61, .goto 49, 3), (64, .aload_n 1, 1), (65, .getfield 244, 3), (68, .iload 5, 2), (70, .aload_n 1, 1), (71, .getfield 167, 3), (74, .iastore, 1), (75, .goto 35, 3), (78, .aload_n 1, 1), (79, .getfield 244, 3), (82, .iload 5, 2), (84, .aload_n 0, 1), (85, .aload_n 1, 1), (86, .aload_n 1, 1), (87, .getfield 244, 3), (90, .iload 5, 2), (92, .iaload, 1), (93, .aload_n 1, 1), (94, .getfield 244, 3), (97, .iload 4, 2), (99, .invokestatic 247, 3), (102, .iaload, 1), (103, .invokevirtual 284, 3), (106, .iastore, 1), (107, .goto 3, 3), (110, .return_, 1)]
def xtb_43 : List (Nat × Instr × Nat) := [(0, .aload_n 0, 1), (1, .getfield 191, 3), (4, .ifnonnull 7, 3), (7, .iconst 0, 1), (8, .goto 10, 3), (11, .aload_n 0, 1), (12, .getfield 191, 3), (15, .getfield 98, 3), (18, .ireturn, 1)]
def xtb_44 : List (Nat × Instr × Nat) := [(0, .aload_n 0, 1), (1, .getfield 32, 3), (4, .aload_n 0, 1), (5, .getfield 288, 3), (8, .iload_n 1, 1), (9, .iastore, 1), (10, .aload_n 0, 1), (11, .getfield 35, 3), (14, .aload_n 0, 1), (15, .getfield 288, 3), (18, .iload_n 2, 1), (19, .iastore, 1), (20, .aload_n 0, 1), (21, .aload_n 0, 1), (22, .getfield 288, 3), (25, .iconst 1, 1), (26, .iadd, 1), (27, .bipush 40, 2), (29, .irem, 1), (30, .putfield 288, 3), (33, .aload_n 0, 1), (34, .aload_n 0, 1), (35, .getfield 291, 3), (38, .iconst 1, 1), (39, .iadd, 1), (40, .bipush 40, 2), (42, .invokestatic 294, 3), (45, .putfield 291, 3), (48, .return_, 1)]
def xtb_45 : List (Nat × Instr × Nat) := [(0, .aload_n 0, 1), (1, .invokevirtual 300, 3), (4, .astore_n 3, 1), (5, .aload_n 3, 1), (6, .ifnonnull 22, 3), (9, .aload_n 0, 1), (10, .dup, 1), (11, .getfield 304, 3), (14, .iconst 1, 1), (15, .iadd, 1), (16, .putfield 304, 3), (19, .aload_n 1, 1), (20, .getfield 244, 3), (23, .iload_n 2, 1), (24, .bipush (-11), 2), (26, .iastore, 1), (27, .return_, 1), (28, .aload_n 0, 1), (29, .aload_n 0, 1), (30, .invokevirtual 307, 3), (33, .putfield 71, 3), (36, .aload_n 3, 1), (37, .aload_n 0, 1), (38, .getfield 71, 3), (41, .aload_n 1, 1), (42, .aload_n 1, 1), (43, .getfield 167, 3), (46, .aload_n 1, 1), (47, .getfield 121, 3), (50, .invokevirtual 64, 3), (53, .aload_n 3, 1), (54, .aload_n 1, 1), (55, .invokevirtual 310, 3), (58, .aload_n 3, 1), (59, .getfield 244, 3), (62, .iload_n 2, 1), (63, .iconst 0, 1), (64, .iastore, 1), (65, .aload_n 1, 1), (66, .getfield 244, 3), (69, .iload_n 2, 1), (70, .aload_n 0, 1), (71, .getfield 71, 3), (74, .iastore, 1), (75, .aload_n 0, 1), (76, .dup, 1), (77, .getfield 313, 3), (80, .iconst 1, 1), (81, .iadd, 1), (82, .putfield 313, 3), (85, .return_, 1)]
def xtb_46 : List (Nat × Instr × Nat) := [(0, .aload_n 0, 1), (1, .getfield 17, 3), (4, .astore_n 1, 1), (5, .aload_n 1, 1), (6, .arraylength, 1), (7, .istore_n 2, 1), (8, .iconst 0, 1), (9, .istore_n 3, 1), (10, .iload_n 3, 1), (11, .iload_n 2, 1), (12, .if_icmp .ge 25, 3), (15, .aload_n 1, 1), (16, .iload_n 3, 1), (17, .aaload, 1), (18, .astore 4, 2), (20, .aload 4, 2), (22, .getfield 98, 3), (25, .ifCond .ne 6, 3), (28, .aload 4, 2), (30, .areturn, 1), (31, .iinc 3 1, 3), (34, .goto (-24), 3), (37, .aconst_null, 1), (38, .areturn, 1)]
def xtb_47 : List (Nat × Instr × Nat) := [(0, .aload_n 0, 1), (1, .getfield 71, 3), (4, .istore_n 1, 1), (5, .iconst 1, 1), (6, .istore_n 2, 1), (7, .iload_n 2, 1), (8, .sipush 999, 3), (11, .if_icmp .ge 42, 3), (14, .iload_n 1, 1), (15, .sipush 999, 3), (18, .if_icmp .lt 7, 3), (21, .iconst 2, 1), (22, .goto 6, 3), (25, .iload_n 1, 1), (26, .iconst 1, 1), (27, .iadd, 1), (28, .istore_n 1, 1), (29, .aload_n 0, 1), (30, .iload_n 1, 1), (31, .invokevirtual 60, 3), (34, .ifnonnull 13, 3), (37, .aload_n 0, 1), (38, .iload_n 1, 1), (39, .invokevirtual 316, 3), (42, .ifCond .ne 5, 3), (45, .iload_n 1, 1), (46, .ireturn, 1), (47, .iinc 2 1, 3), (50, .goto (-43), 3), (53, .iload_n 1, 1), (54, .ireturn, 1)]
def xtb_48 : List (Nat × Instr × Nat) := [(0, .aload_n 0, 1), (1, .getfield 17, 3), (4, .astore_n 2, 1), (5, .aload_n 2, 1), (6, .arraylength, 1), (7, .istore_n 3, 1), (8, .iconst 0, 1), (9, .istore 4, 2), (11, .iload 4, 2), (13, .iload_n 3, 1), (14, .if_icmp .ge 34, 3), (17, .aload_n 2, 1), (18, .iload 4, 2), (20, .aaload, 1), (21, .astore 5, 2), (23, .aload 5, 2), (25, .getfield 98, 3), (28, .ifCond .eq 14, 3), (31, .aload 5, 2), (33, .getfield 167, 3), (36, .iload_n 1, 1), (37, .if_icmp .ne 5, 3), (40, .iconst 1, 1), (41, .ireturn, 1), (42, .iinc 4 1, 3), (45, .goto (-34), 3), (48, .iconst 0, 1), (49, .ireturn, 1)]
def xtb_49 : List (Nat × Instr × Nat) := [(0, .iload_n 2, 1), (1, .invokestatic 44, 3), (4, .ifCond .ne 12, 3), (7, .aload_n 0, 1), (8, .getfield 244, 3), (11, .iload_n 1, 1), (12, .bipush (-2), 2), (14, .iastore, 1), (15, .return_, 1), (16, .aload_n 0, 1), (17, .iload_n 2, 1), (18, .putfield 121, 3), (21, .aload_n 0, 1), (22, .iconst 0, 1), (23, .putfield 124, 3), (26, .aload_n 0, 1), (27, .iconst 0, 1), (28, .putfield 137, 3), (31, .aload_n 0, 1), (32, .iconst 1, 1), (33, .putfield 319, 3), (36, .iconst 1, 1), (37, .istore_n 3, 1), (38, .iload_n 3, 1), (39, .bipush 20, 2), (41, .if_icmp .gt 24, 3), (44, .aload_n 0, 1), (45, .iload_n 3, 1), (46, .invokevirtual 155, 3), (49, .ifCond .eq 10, 3), (52, .aload_n 0, 1), (53, .getfield 146, 3), (56, .iload_n 3, 1), (57, .iconst 0, 1), (58, .iastore, 1), (59, .iinc 3 1, 3), (62, .goto (-24), 3), (65, .return_, 1)]
def xtb_50 : List (Nat × Instr × Nat) := [(0, .aload_n 1, 1), (1, .getfield 244, 3), (4, .iload_n 3, 1), (5, .iaload, 1), (6, .istore 5, 2), (8, .iconst 0, 1), (9, .istore 6, 2), (11, .aconst_null, 1), (12, .astore 7, 2), (14, .aconst_null, 1), (15, .astore 8, 2), (17, .aload_n 0, 1), (18, .getfield 17, 3), (21, .astore 9, 2), (23, .aload 9, 2), (25, .arraylength, 1), (26, .istore 10, 2), (28, .iconst 0, 1), (29, .istore 11, 2), (31, .iload 11, 2), (33, .iload 10, 2), (35, .if_icmp .ge 84, 3), (38, .aload 9, 2), (40, .iload 11, 2), (42, .aaload, 1), (43, .astore 12, 2), (45, .aload_n 1, 1), (46, .iload 5, 2), (48, .aload 12, 2), (50, .invokestatic 322, 3), (53, .ifCond .eq 60, 3), (56, .iconst 1, 1), (57, .istore 6, 2), (59, .aload 7, 2), (61, .ifnonnull 17, 3), (64, .aload 12, 2), (66, .getfield 105, 3), (69, .iconst 4, 1), (70, .if_icmp .ne 8, 3), (73, .aload 12, 2), (75, .goto 5, 3), (78, .aload 7, 2), (80, .astore 7, 2), (82, .aload 8, 2), (84, .ifnonnull 25, 3), (87, .aload 12, 2), (89, .getfield 105, 3), (92, .iconst 3, 1), (93, .if_icmp .ne 16, 3), (96, .aload 12, 2), (98, .getfield 187, 3), (101, .ifCond .ne 8, 3), (104, .aload 12, 2), (106, .goto 5, 3), (109, .aload 8, 2), (111, .astore 8, 2), (113, .iinc 11 1, 3), (116, .goto (-85), 3), (119, .iload 6, 2), (121, .ifCond .ne 14, 3), (124, .aload_n 1, 1), (125, .getfield 244, 3), (128, .iload_n 3, 1), (129, .bipush (-10), 2), (131, .iastore, 1), (132, .goto 111, 3), (135, .aload 7, 2), (137, .ifnull 34, 3), (140, .aload_n 1, 1), (141, .getfield 244, 3), (144, .iload_n 3, 1), (145, .aload 7, 2), (147, .getfield 98, 3), (150, .iastore, 1), (151, .aload_n 1, 1), (152, .getfield 244, 3), (155, .iload 4, 2), (157, .aload 7, 2), (159, .getfield 210, 3), (162, .iastore, 1), (163, .aload 7, 2), (165, .invokevirtual 213, 3), (168, .goto 75, 3), (171, .iload_n 2, 1), (172, .bipush 13, 2), (174, .if_icmp .ne 47, 3), (177, .aload 8, 2), (179, .ifnull 42, 3), (182, .aload_n 1, 1), (183, .getfield 244, 3), (186, .iload_n 3, 1), (187, .aload 8, 2), (189, .getfield 98, 3), (192, .iastore, 1), (193, .aload_n 1, 1), (194, .getfield 244, 3), (197, .iload 4, 2), (199, .sipush 256, 3), (202, .aload 8, 2), (204, .getfield 184, 3), (207, .imul, 1), (208, .bipush 127, 2), (210, .iadd, 1), (211, .iastore, 1), (212, .aload 8, 2), (214, .iconst 1, 1), (215, .putfield 187, 3), (218, .goto 25, 3), (221, .iload_n 2, 1), (222, .bipush 12, 2), (224, .if_icmp .ne 13, 3), (227, .aload_n 1, 1), (228, .getfield 244, 3), (231, .iload_n 3, 1), (232, .iconst 0, 1), (233, .iastore, 1), (234, .goto 9, 3), (237, .aload_n 1, 1), (238, .iconst 1, 1), (239, .iload_n 3, 1), (240, .invokevirtual 270, 3), (243, .return_, 1)]
def xtb_51 : List (Nat × Instr × Nat) := [(0, .aload_n 2, 1), (1, .getfield 98, 3), (4, .ifCond .eq 24, 3), (7, .aload_n 2, 1), (8, .getfield 191, 3), (11, .aload_n 0, 1), (12, .if_acmp .ne 16, 3), (15, .aload_n 0, 1), (16, .iload_n 1, 1), (17, .aload_n 2, 1), (18, .invokestatic 326, 3), (21, .ifCond .eq 7, 3), (24, .iconst 1, 1), (25, .goto 4, 3), (28, .iconst 0, 1), (29, .ireturn, 1)]
def xtb_52 : List (Nat × Instr × Nat) := [(0, .iload_n 1, 1), (1, .ifCond .le 17, 3), (4, .aload_n 2, 1), (5, .getfield 98, 3), (8, .iload_n 1, 1), (9, .if_icmp .ne 7, 3), (12, .iconst 1, 1), (13, .goto 4, 3), (16, .iconst 0, 1), (17, .ireturn, 1), (18, .iload_n 1, 1), (19, .ifCond .ne 20, 3), (22, .aload_n 2, 1), (23, .getfield 167, 3), (26, .aload_n 0, 1), (27, .getfield 167, 3), (30, .if_icmp .ne 7, 3), (33, .iconst 1, 1), (34, .goto 4, 3), (37, .iconst 0, 1), (38, .ireturn, 1), (39, .iload_n 1, 1), (40, .iconst (-1), 1), (41, .if_icmp .eq 12, 3), (44, .aload_n 2, 1), (45, .getfield 167, 3), (48, .iload_n 1, 1), (49, .ineg, 1), (50, .if_icmp .ne 7, 3), (53, .iconst 1, 1), (54, .goto 4, 3), (57, .iconst 0, 1), (58, .ireturn, 1)]
def xtb_53 : List (Nat × Instr × Nat) := [(0, .aload_n 1, 1), (1, .getfield 244, 3), (4, .iload_n 2, 1), (5, .iaload, 1), (6, .istore 4, 2), (8, .aload_n 1, 1), (9, .getfield 244, 3), (12, .iload_n 3, 1), (13, .iaload, 1), (14, .istore 5, 2), (16, .iload 5, 2), (18, .ifCond .eq 20, 3), (21, .iload 5, 2), (23, .invokestatic 91, 3), (26, .ifCond .ne 12, 3), (29, .aload_n 1, 1), (30, .getfield 244, 3), (33, .iload_n 2, 1), (34, .bipush (-22), 2), (36, .iastore, 1), (37, .return_, 1), (38, .aload_n 1, 1), (39, .getfield 244, 3), (42, .iload_n 2, 1), (43, .bipush (-3), 2), (45, .iastore, 1), (46, .aload_n 0, 1), (47, .getfield 17, 3), (50, .astore 6, 2), (52, .aload 6, 2), (54, .arraylength, 1), (55, .istore 7, 2), (57, .iconst 0, 1), (58, .istore 8, 2), (60, .iload 8, 2), (62, .iload 7, 2), (64, .if_icmp .ge 88, 3), (67, .aload 6, 2), (69, .iload 8, 2), (71, .aaload, 1), (72, .astore 9, 2), (74, .iload 4, 2), (76, .iconst (-1), 1), (77, .if_icmp .ne 22, 3), (80, .aload 9, 2), (82, .aload_n 1, 1), (83, .if_acmp .eq 12, 3), (86, .aload 9, 2), (88, .getfield 98, 3), (91, .iconst 1, 1), (92, .if_icmp .ne 7, 3), (95, .iconst 1, 1), (96, .goto 4, 3), (99, .iconst 0, 1), (100, .istore 10, 2), (102, .aload 9, 2), (104, .getfield 98, 3), (107, .ifCond .eq 39, 3), (110, .iload 10, 2), (112, .ifCond .ne 34, 3), (115, .aload_n 1, 1), (116, .iload 4, 2), (118, .aload 9, 2), (120, .invokestatic 326, 3), (123, .ifCond .eq 23, 3), (126, .aload_n 1, 1), (127, .getfield 244, 3), (130, .iload_n 2, 1), (131, .iconst 0, 1), (132, .iastore, 1), (133, .iload 5, 2), (135, .ifCond .eq 11, 3), (138, .aload_n 0, 1), (139, .aload 9, 2), (141, .iload 5, 2), (143, .invokevirtual 94, 3), (146, .iinc 8 1, 3), (149, .goto (-89), 3), (152, .return_, 1)]
def xtb_54 : List (Nat × Instr × Nat) := [(0, .iload_n 1, 1), (1, .invokestatic 91, 3), (4, .ifCond .eq 26, 3), (7, .iload_n 1, 1), (8, .bipush 9, 2), (10, .if_icmp .eq 20, 3), (13, .iload_n 1, 1), (14, .bipush 19, 2), (16, .if_icmp .eq 14, 3), (19, .iload_n 2, 1), (20, .ifCond .lt 10, 3), (23, .aload_n 0, 1), (24, .getfield 146, 3), (27, .iload_n 1, 1), (28, .iload_n 2, 1), (29, .iastore, 1), (30, .return_, 1)]
def xtb_55 : List (Nat × Instr × Nat) := [(0, .aload_n 0, 1), (1, .getfield 137, 3), (4, .ifCond .le 11, 3), (7, .aload_n 0, 1), (8, .getfield 137, 3), (11, .iconst 4, 1), (12, .if_icmp .le 5, 3), (15, .iconst 0, 1), (16, .ireturn, 1), (17, .aload_n 0, 1), (18, .dup, 1), (19, .getfield 137, 3), (22, .iconst 1, 1), (23, .isub, 1), (24, .putfield 137, 3), (27, .aload_n 0, 1), (28, .aload_n 0, 1), (29, .getfield 140, 3), (32, .aload_n 0, 1), (33, .getfield 137, 3), (36, .iaload, 1), (37, .putfield 124, 3), (40, .aload_n 0, 1), (41, .aload_n 0, 1), (42, .getfield 143, 3), (45, .aload_n 0, 1), (46, .getfield 137, 3), (49, .iaload, 1), (50, .putfield 111, 3), (53, .iconst 1, 1), (54, .ireturn, 1)]
def xtb_56 : List (Nat × Instr × Nat) := [(0, .aload_n 1, 1), (1, .getfield 244, 3), (4, .iload_n 2, 1), (5, .iaload, 1), (6, .istore_n 3, 1), (7, .aload_n 1, 1), (8, .getfield 244, 3), (11, .iload_n 2, 1), (12, .aload_n 0, 1), (13, .aload_n 1, 1), (14, .invokevirtual 329, 3), (17, .iastore, 1), (18, .aload_n 1, 1), (19, .iload_n 3, 1), (20, .ifCond .le 14, 3), (23, .aload_n 0, 1), (24, .getfield 74, 3), (27, .i2l, 1), (28, .iload_n 3, 1), (29, .i2l, 1), (30, .ladd, 1), (31, .goto 4, 3), (34, .lconst 0, 1), (35, .putfield 101, 3), (38, .return_, 1)]
def xtb_57 : List (Nat × Instr × Nat) := [(0, .aload_n 1, 1), (1, .getfield 101, 3), (4, .lconst 0, 1), (5, .lcmp, 1), (6, .ifCond .ne 7, 3), (9, .iconst 0, 1), (10, .goto 14, 3), (13, .aload_n 1, 1), (14, .getfield 101, 3), (17, .aload_n 0, 1), (18, .getfield 74, 3), (21, .i2l, 1), (22, .lsub, 1), (23, .l2i, 1), (24, .ireturn, 1)]
def xtb_58 : List (Nat × Instr × Nat) := [(0, .iload_n 2, 1), (1, .ifCond .ne 7, 3), (4, .aload_n 1, 1), (5, .goto 8, 3), (8, .aload_n 0, 1), (9, .iload_n 2, 1), (10, .invokevirtual 60, 3), (13, .astore 4, 2), (15, .aload 4, 2), (17, .ifnull 27, 3), (20, .aload 4, 2), (22, .aload_n 1, 1), (23, .if_acmp .eq 24, 3), (26, .aload 4, 2), (28, .getfield 191, 3), (31, .aload_n 1, 1), (32, .if_acmp .ne 12, 3), (35, .aload 4, 2), (37, .getfield 105, 3), (40, .iconst 4, 1), (41, .if_icmp .ne 6, 3), (44, .bipush (-3), 2), (46, .ireturn, 1), (47, .aload 4, 2), (49, .aload_n 1, 1), (50, .if_acmp .eq 14, 3), (53, .aload 4, 2), (55, .getfield 319, 3), (58, .ifCond .eq 6, 3), (61, .bipush (-13), 2), (63, .ireturn, 1), (64, .iload_n 3, 1), (65, .ifCond .ne 11, 3), (68, .aload 4, 2), (70, .getfield 98, 3), (73, .goto 4, 3), (76, .iload_n 3, 1), (77, .istore 5, 2), (79, .iload 5, 2), (81, .aload 4, 2), (83, .getfield 98, 3), (86, .if_icmp .eq 14, 3), (89, .aload_n 0, 1), (90, .iload 5, 2), (92, .invokevirtual 316, 3), (95, .ifCond .ne 5, 3), (98, .iconst (-1), 1), (99, .ireturn, 1), (100, .aload 4, 2), (102, .iload 5, 2), (104, .putfield 167, 3), (107, .iconst 0, 1), (108, .ireturn, 1)]
def xtb_59 : List (Nat × Instr × Nat) := [(0, .iload_n 1, 1), (1, .ifCond .lt 9, 3), (4, .iload_n 1, 1), (5, .bipush 24, 2), (7, .if_icmp .lt 9, 3), (10, .sipush (-1001), 3), (13, .goto 12, 3), (16, .aload_n 0, 1), (17, .getfield 17, 3), (20, .iload_n 1, 1), (21, .aaload, 1), (22, .getfield 98, 3), (25, .ireturn, 1)]
def xtb_60 : List (Nat × Instr × Nat) := [(0, .aload_n 0, 1), (1, .iload_n 1, 1), (2, .invokevirtual 60, 3), (5, .astore_n 3, 1), (6, .aload_n 3, 1), (7, .ifnonnull 7, 3), (10, .sipush (-1001), 3), (13, .ireturn, 1), (14, .iload_n 2, 1), (15, .tableswitch 104 0 9 #[53, 58, 63, 68, 73, 78, 83, 88, 93, 99], 53), (68, .aload_n 3, 1), (69, .getfield 105, 3), (72, .ireturn, 1), (73, .aload_n 3, 1), (74, .invokestatic 280, 3), (77, .ireturn, 1), (78, .aload_n 3, 1), (79, .getfield 167, 3), (82, .ireturn, 1), (83, .aload_n 3, 1), (84, .getfield 121, 3), (87, .ireturn, 1), (88, .aload_n 3, 1), (89, .getfield 124, 3), (92, .ireturn, 1), (93, .aload_n 3, 1), (94, .getfield 108, 3), (97, .ireturn, 1), (98, .aload_n 3, 1), (99, .getfield 111, 3), (102, .ireturn, 1), (103, .aload_n 3, 1), (104, .getfield 137, 3), (107, .ireturn, 1), (108, .aload_n 0, 1), (109, .aload_n 3, 1), (110, .invokevirtual 329, 3), (113, .ireturn, 1), (114, .aload_n 3, 1), (115, .getfield 210, 3), (118, .ireturn, 1), (119, .sipush (-1002), 3), (122, .ireturn, 1)]
def xtb_61 : List (Nat × Instr × Nat) := [(0, .aload_n 0, 1), (1, .iload_n 1, 1), (2, .invokevirtual 60, 3), (5, .astore_n 3, 1), (6, .aload_n 3, 1), (7, .ifnonnull 7, 3), (10, .sipush (-1001), 3), (13, .ireturn, 1), (14, .iload_n 2, 1), (15, .ifCond .lt 9, 3), (18, .iload_n 2, 1), (19, .bipush 8, 2), (21, .if_icmp .lt 9, 3), (24, .sipush (-1002), 3), (27, .goto 9, 3), (30, .aload_n 3, 1), (31, .getfield 244, 3), (34, .iload_n 2, 1), (35, .iaload, 1), (36, .ireturn, 1)]
def xtb_62 : List (Nat × Instr × Nat) := [(0, .aload_n 0, 1), (1, .iload_n 1, 1), (2, .invokevirtual 60, 3), (5, .astore_n 3, 1), (6, .aload_n 3, 1), (7, .ifnonnull 7, 3), (10, .sipush (-1001), 3), (13, .ireturn, 1), (14, .iload_n 2, 1), (15, .invokestatic 91, 3), (18, .ifCond .eq 12, 3), (21, .aload_n 3, 1), (22, .getfield 146, 3), (25, .iload_n 2, 1), (26, .iaload, 1), (27, .goto 6, 3), (30, .sipush (-1002), 3), (33, .ireturn, 1)]
def xtb_63 : List (Nat × Instr × Nat) := [(0, .aload_n 0, 1), (1, .iload_n 1, 1), (2, .invokevirtual 60, 3), (5, .astore_n 3, 1), (6, .aload_n 3, 1), (7, .ifnonnull 7, 3), (10, .sipush (-1001), 3), (13, .ireturn, 1), (14, .iconst 0, 1), (15, .istore 4, 2), (17, .aload_n 0, 1), (18, .getfield 17, 3), (21, .astore 5, 2), (23, .aload 5, 2), (25, .arraylength, 1), (26, .istore 6, 2), (28, .iconst 0, 1), (29, .istore 7, 2), (31, .iload 7, 2), (33, .iload 6, 2), (35, .if_icmp .ge 48, 3), (38, .aload 5, 2), (40, .iload 7, 2), (42, .aaload, 1), (43, .astore 8, 2), (45, .aload 8, 2), (47, .getfield 98, 3), (50, .ifCond .eq 27, 3), (53, .aload 8, 2), (55, .getfield 191, 3), (58, .aload_n 3, 1), (59, .if_acmp .ne 18, 3), (62, .iload 4, 2), (64, .iload_n 2, 1), (65, .if_icmp .ne 9, 3), (68, .aload 8, 2), (70, .getfield 98, 3), (73, .ireturn, 1), (74, .iinc 4 1, 3), (77, .iinc 7 1, 3), (80, .goto (-49), 3), (83, .iconst 0, 1), (84, .ireturn, 1)]
def xtb_64 : List (Nat × Instr × Nat) := [(0, .iconst 0, 1), (1, .istore_n 2, 1), (2, .aload_n 0, 1), (3, .getfield 17, 3), (6, .astore_n 3, 1), (7, .aload_n 3, 1), (8, .arraylength, 1), (9, .istore 4, 2), (11, .iconst 0, 1), (12, .istore 5, 2), (14, .iload 5, 2), (16, .iload 4, 2), (18, .if_icmp .ge 35, 3), (21, .aload_n 3, 1), (22, .iload 5, 2), (24, .aaload, 1), (25, .astore 6, 2), (27, .aload 6, 2), (29, .getfield 98, 3), (32, .ifCond .eq 15, 3), (35, .aload 6, 2), (37, .getfield 167, 3), (40, .iload_n 1, 1), (41, .if_icmp .ne 6, 3), (44, .iinc 2 1, 3), (47, .iinc 5 1, 3), (50, .goto (-36), 3), (53, .iload_n 2, 1), (54, .ireturn, 1)]
def xtb_65 : List (Nat × Instr × Nat) := [(0, .iload_n 2, 1), (1, .ifCond .eq 12, 3), (4, .iload_n 2, 1), (5, .iconst 1, 1), (6, .if_icmp .eq 7, 3), (9, .sipush (-1002), 3), (12, .ireturn, 1), (13, .iload_n 1, 1), (14, .ifCond .lt 11, 3), (17, .iload_n 1, 1), (18, .aload_n 0, 1), (19, .getfield 291, 3), (22, .if_icmp .lt 5, 3), (25, .iconst (-1), 1), (26, .ireturn, 1), (27, .aload_n 0, 1), (28, .getfield 288, 3), (31, .bipush 40, 2), (33, .iadd, 1), (34, .iconst 1, 1), (35, .isub, 1), (36, .iload_n 1, 1), (37, .isub, 1), (38, .bipush 40, 2), (40, .irem, 1), (41, .istore_n 3, 1), (42, .iload_n 2, 1), (43, .ifCond .ne 12, 3), (46, .aload_n 0, 1), (47, .getfield 32, 3), (50, .iload_n 3, 1), (51, .iaload, 1), (52, .goto 9, 3), (55, .aload_n 0, 1), (56, .getfield 35, 3), (59, .iload_n 3, 1), (60, .iaload, 1), (61, .ireturn, 1)]
def xtb_66 : List (Nat × Instr × Nat) := [(0, .iload_n 1, 1), (1, .tableswitch 107 0 9 #[55, 60, 66, 72, 77, 82, 87, 92, 97, 102], 55), (56, .aload_n 0, 1), (57, .invokevirtual 332, 3), (60, .ireturn, 1), (61, .aload_n 0, 1), (62, .iconst 4, 1), (63, .invokevirtual 335, 3), (66, .ireturn, 1), (67, .aload_n 0, 1), (68, .iconst 0, 1), (69, .invokevirtual 335, 3), (72, .ireturn, 1), (73, .aload_n 0, 1), (74, .getfield 74, 3), (77, .ireturn, 1), (78, .aload_n 0, 1), (79, .getfield 313, 3), (82, .ireturn, 1), (83, .aload_n 0, 1), (84, .getfield 304, 3), (87, .ireturn, 1), (88, .aload_n 0, 1), (89, .getfield 198, 3), (92, .ireturn, 1), (93, .aload_n 0, 1), (94, .getfield 164, 3), (97, .ireturn, 1), (98, .aload_n 0, 1), (99, .getfield 149, 3), (102, .ireturn, 1), (103, .aload_n 0, 1), (104, .getfield 219, 3), (107, .ireturn, 1), (108, .sipush (-1002), 3), (111, .ireturn, 1)]
def xtb_67 : List (Nat × Instr × Nat) := [(0, .iconst 0, 1), (1, .istore_n 1, 1), (2, .aload_n 0, 1), (3, .getfield 17, 3), (6, .astore_n 2, 1), (7, .aload_n 2, 1), (8, .arraylength, 1), (9, .istore_n 3, 1), (10, .iconst 0, 1), (11, .istore 4, 2), (13, .iload 4, 2), (15, .iload_n 3, 1), (16, .if_icmp .ge 26, 3), (19, .aload_n 2, 1), (20, .iload 4, 2), (22, .aaload, 1), (23, .astore 5, 2), (25, .aload 5, 2), (27, .getfield 98, 3), (30, .ifCond .eq 6, 3), (33, .iinc 1 1, 3), (36, .iinc 4 1, 3), (39, .goto (-26), 3), (42, .iload_n 1, 1), (43, .ireturn, 1)]
def xtb_68 : List (Nat × Instr × Nat) := [(0, .iconst 0, 1), (1, .istore_n 2, 1), (2, .aload_n 0, 1), (3, .getfield 17, 3), (6, .astore_n 3, 1), (7, .aload_n 3, 1), (8, .arraylength, 1), (9, .istore 4, 2), (11, .iconst 0, 1), (12, .istore 5, 2), (14, .iload 5, 2), (16, .iload 4, 2), (18, .if_icmp .ge 35, 3), (21, .aload_n 3, 1), (22, .iload 5, 2), (24, .aaload, 1), (25, .astore 6, 2), (27, .aload 6, 2), (29, .getfield 98, 3), (32, .ifCond .eq 15, 3), (35, .aload 6, 2), (37, .getfield 105, 3), (40, .iload_n 1, 1), (41, .if_icmp .ne 6, 3), (44, .iinc 2 1, 3), (47, .iinc 5 1, 3), (50, .goto (-36), 3), (53, .iload_n 2, 1), (54, .ireturn, 1)]
def xtb_69 : List (Nat × Instr × Nat) := [(0, .lload_n 0, 1), (1, .lload_n 2, 1), (2, .lcmp, 1), (3, .ifCond .lt 14, 3), (6, .lload_n 0, 1), (7, .lload 4, 2), (9, .lcmp, 1), (10, .ifCond .gt 7, 3), (13, .iconst 1, 1), (14, .goto 4, 3), (17, .iconst 0, 1), (18, .ireturn, 1)]
def xtb_70 : List (Nat × Instr × Nat) := [(0, .iload_n 1, 1), (1, .i2l, 1), (2, .lconst 0, 1), (3, .ldc2_w 103, 3), (6, .invokestatic 105, 3), (9, .ifCond .ne 7, 3), (12, .sipush (-1001), 3), (15, .ireturn, 1), (16, .aload_n 0, 1), (17, .getfield 7, 3), (20, .iload_n 1, 1), (21, .iaload, 1), (22, .bipush 60, 2), (24, .if_icmp .ne 7, 3), (27, .sipush (-1004), 3), (30, .ireturn, 1), (31, .bipush 60, 2), (33, .iload_n 1, 1), (34, .imul, 1), (35, .aload_n 0, 1), (36, .getfield 7, 3), (39, .iload_n 1, 1), (40, .iaload, 1), (41, .iadd, 1), (42, .istore 5, 2), (44, .aload_n 0, 1), (45, .getfield 13, 3), (48, .iload 5, 2), (50, .iload_n 2, 1), (51, .iastore, 1), (52, .aload_n 0, 1), (53, .getfield 16, 3), (56, .iload 5, 2), (58, .iload_n 3, 1), (59, .iastore, 1), (60, .aload_n 0, 1), (61, .getfield 19, 3), (64, .iload 5, 2), (66, .iload 4, 2), (68, .iastore, 1), (69, .aload_n 0, 1), (70, .getfield 7, 3), (73, .iload_n 1, 1), (74, .dup2, 1), (75, .iaload, 1), (76, .iconst 1, 1), (77, .iadd, 1), (78, .iastore, 1), (79, .aload_n 0, 1), (80, .getfield 7, 3), (83, .iload_n 1, 1), (84, .iaload, 1), (85, .ireturn, 1)]
def xtb_71 : List (Nat × Instr × Nat) := [(0, .iload_n 1, 1), (1, .i2l, 1), (2, .lconst 0, 1), (3, .ldc2_w 103, 3), (6, .invokestatic 105, 3), (9, .ifCond .ne 7, 3), (12, .sipush (-1001), 3), (15, .ireturn, 1), (16, .aload_n 0, 1), (17, .getfield 7, 3), (20, .iload_n 1, 1), (21, .iaload, 1), (22, .istore_n 2, 1), (23, .aload_n 0, 1), (24, .getfield 7, 3), (27, .iload_n 1, 1), (28, .iconst 0, 1), (29, .iastore, 1), (30, .iload_n 2, 1), (31, .ireturn, 1)]
def xtb_72 : List (Nat × Instr × Nat) := [(0, .iconst (-1), 1), (1, .istore_n 2, 1), (2, .iconst 0, 1), (3, .istore_n 3, 1), (4, .iload_n 3, 1), (5, .bipush 24, 2), (7, .if_icmp .ge 29, 3), (10, .iload_n 1, 1), (11, .ifCond .le 17, 3), (14, .aload_n 0, 1), (15, .getfield 22, 3), (18, .iload_n 3, 1), (19, .iaload, 1), (20, .iload_n 1, 1), (21, .if_icmp .ne 7, 3), (24, .iload_n 3, 1), (25, .goto 4, 3), (28, .iload_n 2, 1), (29, .istore_n 2, 1), (30, .iinc 3 1, 3), (33, .goto (-29), 3), (36, .iload_n 2, 1), (37, .ireturn, 1)]
def xtb_73 : List (Nat × Instr × Nat) := [(0, .iconst 0, 1), (1, .istore_n 1, 1), (2, .iload_n 1, 1), (3, .bipush 24, 2), (5, .if_icmp .ge 18, 3), (8, .aload_n 0, 1), (9, .getfield 22, 3), (12, .iload_n 1, 1), (13, .iaload, 1), (14, .ifCond .le 9, 3), (17, .iinc 1 1, 3), (20, .goto (-18), 3), (23, .iload_n 1, 1), (24, .ireturn, 1)]
def xtb_74 : List (Nat × Instr × Nat) := [(0, .iconst 0, 1), (1, .istore_n 2, 1), (2, .iconst 0, 1), (3, .istore_n 3, 1), (4, .iload_n 3, 1), (5, .bipush 24, 2), (7, .if_icmp .ge 48, 3), (10, .iload_n 2, 1), (11, .ifCond .ne 32, 3), (14, .aload_n 0, 1), (15, .getfield 22, 3), (18, .iload_n 3, 1), (19, .iaload, 1), (20, .ifCond .le 27, 3), (23, .aload_n 0, 1), (24, .getfield 22, 3), (27, .iload_n 3, 1), (28, .iaload, 1), (29, .iload_n 1, 1), (30, .if_icmp .eq 13, 3), (33, .aload_n 0, 1), (34, .getfield 28, 3), (37, .iload_n 3, 1), (38, .iaload, 1), (39, .iload_n 1, 1), (40, .if_icmp .ne 7, 3), (43, .iconst 1, 1), (44, .goto 4, 3), (47, .iconst 0, 1), (48, .istore_n 2, 1), (49, .iinc 3 1, 3), (52, .goto (-48), 3), (55, .iload_n 2, 1), (56, .ireturn, 1)]
def xtb_75 : List (Nat × Instr × Nat) := [(0, .aload_n 0, 1), (1, .getfield 109, 3), (4, .istore_n 1, 1), (5, .iconst 1, 1), (6, .istore_n 2, 1), (7, .iload_n 2, 1), (8, .ifCond .eq 27, 3), (11, .iload_n 1, 1), (12, .sipush 999, 3), (15, .if_icmp .lt 7, 3), (18, .iconst 2, 1), (19, .goto 6, 3), (22, .iload_n 1, 1), (23, .iconst 1, 1), (24, .iadd, 1), (25, .istore_n 1, 1), (26, .aload_n 0, 1), (27, .iload_n 1, 1), (28, .invokevirtual 112, 3), (31, .istore_n 2, 1), (32, .goto (-25), 3), (35, .aload_n 0, 1), (36, .iload_n 1, 1), (37, .putfield 109, 3), (40, .iload_n 1, 1), (41, .ireturn, 1)]
def xtb_76 : List (Nat × Instr × Nat) := [(0, .iload_n 1, 1), (1, .i2l, 1), (2, .lconst 0, 1), (3, .ldc2_w 103, 3), (6, .invokestatic 105, 3), (9, .ifCond .ne 7, 3), (12, .sipush (-1001), 3), (15, .ireturn, 1), (16, .aload_n 0, 1), (17, .iconst 1, 1), (18, .invokevirtual 116, 3), (21, .ifCond .lt 7, 3), (24, .sipush (-1003), 3), (27, .ireturn, 1), (28, .iconst 0, 1), (29, .istore_n 2, 1), (30, .iload_n 2, 1), (31, .bipush 24, 2), (33, .if_icmp .ge 16, 3), (36, .aload_n 0, 1), (37, .getfield 22, 3), (40, .iload_n 2, 1), (41, .iconst 0, 1), (42, .iastore, 1), (43, .iinc 2 1, 3), (46, .goto (-16), 3), (49, .aload_n 0, 1), (50, .getfield 22, 3), (53, .iconst 0, 1), (54, .iconst 1, 1), (55, .iastore, 1), (56, .aload_n 0, 1), (57, .getfield 25, 3), (60, .iconst 0, 1), (61, .iconst 0, 1), (62, .iastore, 1), (63, .aload_n 0, 1), (64, .getfield 28, 3), (67, .iconst 0, 1), (68, .iconst 1, 1), (69, .iastore, 1), (70, .aload_n 0, 1), (71, .getfield 31, 3), (74, .iconst 0, 1), (75, .iconst 0, 1), (76, .iastore, 1), (77, .aload_n 0, 1), (78, .getfield 34, 3), (81, .iconst 0, 1), (82, .iload_n 1, 1), (83, .iastore, 1), (84, .aload_n 0, 1), (85, .getfield 37, 3), (88, .iconst 0, 1), (89, .iconst 0, 1), (90, .iastore, 1), (91, .aload_n 0, 1), (92, .getfield 46, 3), (95, .iconst 0, 1), (96, .iconst 0, 1), (97, .iastore, 1), (98, .aload_n 0, 1), (99, .getfield 49, 3), (102, .iconst 0, 1), (103, .iconst 0, 1), (104, .iastore, 1), (105, .aload_n 0, 1), (106, .getfield 52, 3), (109, .iconst 0, 1), (110, .iconst 0, 1), (111, .iastore, 1), (112, .aload_n 0, 1), (113, .getfield 61, 3), (116, .iconst 0, 1), (117, .lconst 0, 1), (118, .lastore, 1), (119, .aload_n 0, 1), (120, .getfield 65, 3), (123, .iconst 0, 1), (124, .iconst 0, 1), (125, .iastore, 1), (126, .aload_n 0, 1), (127, .getfield 75, 3), (130, .iconst 0, 1), (131, .iconst 0, 1), (132, .bastore, 1), (133, .aload_n 0, 1), (134, .getfield 71, 3), (137, .iconst 0, 1), (138, .iconst 0, 1), (139, .bastore, 1), (140, .iconst 0, 1), (141, .istore_n 2, 1), (142, .iload_n 2, 1), (143, .bipush 8, 2), (145, .if_icmp .ge 16, 3), (148, .aload_n 0, 1), (149, .getfield 40, 3), (152, .iload_n 2, 1), (153, .iconst 0, 1), (154, .iastore, 1), (155, .iinc 2 1, 3), (158, .goto (-16), 3), (161, .iconst 0, 1), (162, .istore_n 2, 1), (163, .iload_n 2, 1), (164, .bipush 21, 2), (166, .if_icmp .ge 16, 3), (169, .aload_n 0, 1), (170, .getfield 43, 3), (173, .iload_n 2, 1), (174, .iconst 0, 1), (175, .iastore, 1), (176, .iinc 2 1, 3), (179, .goto (-16), 3), (182, .aload_n 0, 1), (183, .iconst 1, 1), (184, .putfield 109, 3), (187, .aload_n 0, 1), (188, .bipush 23, 2), (190, .putfield 84, 3), (193, .iconst 1, 1), (194, .ireturn, 1)]
def xtb_77 : List (Nat × Instr × Nat) := [(0, .aload_n 0, 1), (1, .getfield 88, 3), (4, .aload_n 0, 1), (5, .getfield 120, 3), (8, .aload_n 0, 1), (9, .getfield 22, 3), (12, .iload_n 1, 1), (13, .iaload, 1), (14, .iastore, 1), (15, .aload_n 0, 1), (16, .getfield 91, 3), (19, .aload_n 0, 1), (20, .getfield 120, 3), (23, .iload_n 2, 1), (24, .iastore, 1), (25, .aload_n 0, 1), (26, .dup, 1), (27, .getfield 120, 3), (30, .iconst 1, 1), (31, .iadd, 1), (32, .putfield 120, 3), (35, .aload_n 0, 1), (36, .dup, 1), (37, .getfield 123, 3), (40, .iconst 1, 1), (41, .iadd, 1), (42, .putfield 123, 3), (45, .return_, 1)]
def xtb_78 : List (Nat × Instr × Nat) := [(0, .aload_n 0, 1), (1, .iload_n 1, 1), (2, .invokevirtual 116, 3), (5, .istore_n 3, 1), (6, .iload_n 3, 1), (7, .ifCond .lt 9, 3), (10, .aload_n 0, 1), (11, .iload_n 3, 1), (12, .iload_n 2, 1), (13, .invokevirtual 126, 3), (16, .return_, 1)]
def xtb_79 : List (Nat × Instr × Nat) := [(0, .aload_n 0, 1), (1, .getfield 130, 3), (4, .aload_n 0, 1), (5, .getfield 120, 3), (8, .if_icmp .ge 60, 3), (11, .aload_n 0, 1), (12, .aload_n 0, 1), (13, .getfield 88, 3), (16, .aload_n 0, 1), (17, .getfield 130, 3), (20, .iaload, 1), (21, .invokevirtual 116, 3), (24, .istore_n 1, 1), (25, .aload_n 0, 1), (26, .getfield 91, 3), (29, .aload_n 0, 1), (30, .getfield 130, 3), (33, .iaload, 1), (34, .istore_n 2, 1), (35, .aload_n 0, 1), (36, .dup, 1), (37, .getfield 130, 3), (40, .iconst 1, 1), (41, .iadd, 1), (42, .putfield 130, 3), (45, .iload_n 1, 1), (46, .ifCond .lt 19, 3), (49, .aload_n 0, 1), (50, .getfield 31, 3), (53, .iload_n 1, 1), (54, .iaload, 1), (55, .iconst 4, 1), (56, .if_icmp .eq 9, 3), (59, .aload_n 0, 1), (60, .iload_n 1, 1), (61, .iload_n 2, 1), (62, .invokevirtual 133, 3), (65, .goto (-65), 3), (68, .aload_n 0, 1), (69, .iconst 0, 1), (70, .putfield 120, 3), (73, .aload_n 0, 1), (74, .iconst 0, 1), (75, .putfield 130, 3), (78, .return_, 1)]
def xtb_80 : List (Nat × Instr × Nat) := [(0, .iload_n 2, 1), (1, .bipush 18, 2), (3, .if_icmp .ne 43, 3), (6, .aload_n 0, 1), (7, .getfield 46, 3), (10, .iload_n 1, 1), (11, .dup2, 1), (12, .iaload, 1), (13, .ldc 136, 2), (15, .iand, 1), (16, .iastore, 1), (17, .aload_n 0, 1), (18, .getfield 31, 3), (21, .iload_n 1, 1), (22, .aload_n 0, 1), (23, .getfield 31, 3), (26, .iload_n 1, 1), (27, .iaload, 1), (28, .iconst 3, 1), (29, .if_icmp .ne 7, 3), (32, .iconst 0, 1), (33, .goto 9, 3), (36, .aload_n 0, 1), (37, .getfield 31, 3), (40, .iload_n 1, 1), (41, .iaload, 1), (42, .iastore, 1), (43, .goto 26, 3), (46, .iload_n 2, 1), (47, .bipush 19, 2), (49, .if_icmp .eq 9, 3), (52, .iload_n 2, 1), (53, .bipush 20, 2), (55, .if_icmp .ne 14, 3), (58, .aload_n 0, 1), (59, .getfield 46, 3), (62, .iload_n 1, 1), (63, .dup2, 1), (64, .iaload, 1), (65, .ldc 137, 2), (67, .iand, 1), (68, .iastore, 1), (69, .aload_n 0, 1), (70, .getfield 49, 3), (73, .iload_n 1, 1), (74, .iaload, 1), (75, .iload_n 2, 1), (76, .ishr, 1), (77, .iconst 1, 1), (78, .iand, 1), (79, .iconst 1, 1), (80, .if_icmp .ne 7, 3), (83, .iconst 1, 1), (84, .goto 4, 3), (87, .iconst 0, 1), (88, .istore_n 3, 1), (89, .aload_n 0, 1), (90, .getfield 43, 3), (93, .bipush 21, 2), (95, .iload_n 1, 1), (96, .imul, 1), (97, .iload_n 2, 1), (98, .iadd, 1), (99, .iaload, 1), (100, .iconst 1, 1), (101, .if_icmp .le 7, 3), (104, .iconst 1, 1), (105, .goto 4, 3), (108, .iconst 0, 1), (109, .istore 4, 2), (111, .iload_n 3, 1), (112, .ifCond .ne 15, 3), (115, .iload 4, 2), (117, .ifCond .ne 10, 3), (120, .aload_n 0, 1), (121, .iload_n 1, 1), (122, .iload_n 2, 1), (123, .invokevirtual 138, 3), (126, .return_, 1), (127, .aload_n 0, 1), (128, .getfield 46, 3), (131, .iload_n 1, 1), (132, .dup2, 1), (133, .iaload, 1), (134, .iconst 1, 1), (135, .iload_n 2, 1), (136, .ishl, 1), (137, .ior, 1), (138, .iastore, 1), (139, .iload_n 3, 1), (140, .ifCond .ne 60, 3), (143, .aload_n 0, 1), (144, .getfield 31, 3), (147, .iload_n 1, 1), (148, .iaload, 1), (149, .iconst 1, 1), (150, .if_icmp .eq 13, 3), (153, .aload_n 0, 1), (154, .getfield 31, 3), (157, .iload_n 1, 1), (158, .iaload, 1), (159, .iconst 2, 1), (160, .if_icmp .ne 40, 3), (163, .aload_n 0, 1), (164, .getfield 31, 3), (167, .iload_n 1, 1), (168, .iconst 0, 1), (169, .iastore, 1), (170, .aload_n 0, 1), (171, .getfield 40, 3), (174, .bipush 8, 2), (176, .iload_n 1, 1), (177, .imul, 1), (178, .aload_n 0, 1), (179, .getfield 78, 3), (182, .iload_n 1, 1), (183, .iaload, 1), (184, .iadd, 1), (185, .bipush (-4), 2), (187, .iastore, 1), (188, .aload_n 0, 1), (189, .getfield 37, 3), (192, .iload_n 1, 1), (193, .aload_n 0, 1), (194, .getfield 81, 3), (197, .iload_n 1, 1), (198, .iaload, 1), (199, .iastore, 1), (200, .return_, 1)]
def xtb_81 : List (Nat × Instr × Nat) := [(0, .aload_n 0, 1), (1, .getfield 43, 3), (4, .bipush 21, 2), (6, .iload_n 1, 1), (7, .imul, 1), (8, .iload_n 2, 1), (9, .iadd, 1), (10, .iaload, 1), (11, .iconst 1, 1), (12, .if_icmp .eq 25, 3), (15, .iload_n 2, 1), (16, .bipush 17, 2), (18, .if_icmp .eq 19, 3), (21, .iload_n 2, 1), (22, .bipush 18, 2), (24, .if_icmp .eq 13, 3), (27, .aload_n 0, 1), (28, .getfield 22, 3), (31, .iload_n 1, 1), (32, .iaload, 1), (33, .iconst 1, 1), (34, .if_icmp .ne 4, 3), (37, .return_, 1), (38, .iload_n 2, 1), (39, .bipush 19, 2), (41, .if_icmp .eq 18, 3), (44, .iload_n 2, 1), (45, .bipush 20, 2), (47, .if_icmp .eq 12, 3), (50, .aload_n 0, 1), (51, .iload_n 1, 1), (52, .iload_n 2, 1), (53, .invokevirtual 141, 3), (56, .goto 56, 3), (59, .aload_n 0, 1), (60, .getfield 31, 3), (63, .iload_n 1, 1), (64, .iaload, 1), (65, .iconst 3, 1), (66, .if_icmp .eq 46, 3), (69, .aload_n 0, 1), (70, .getfield 31, 3), (73, .iload_n 1, 1), (74, .iconst 3, 1), (75, .iastore, 1), (76, .aload_n 0, 1), (77, .getfield 68, 3), (80, .iload_n 1, 1), (81, .iload_n 2, 1), (82, .iastore, 1), (83, .aload_n 0, 1), (84, .getfield 71, 3), (87, .iload_n 1, 1), (88, .iconst 0, 1), (89, .bastore, 1), (90, .aload_n 0, 1), (91, .aload_n 0, 1), (92, .getfield 25, 3), (95, .iload_n 1, 1), (96, .iaload, 1), (97, .invokevirtual 144, 3), (100, .aload_n 0, 1), (101, .aload_n 0, 1), (102, .getfield 25, 3), (105, .iload_n 1, 1), (106, .iaload, 1), (107, .bipush 17, 2), (109, .invokevirtual 148, 3), (112, .return_, 1)]
def xtb_82 : List (Nat × Instr × Nat) := [(0, .aload_n 0, 1), (1, .iload_n 1, 1), (2, .invokevirtual 116, 3), (5, .istore_n 2, 1), (6, .iload_n 2, 1), (7, .ifCond .lt 20, 3), (10, .aload_n 0, 1), (11, .getfield 31, 3), (14, .iload_n 2, 1), (15, .iaload, 1), (16, .iconst 1, 1), (17, .if_icmp .ne 10, 3), (20, .aload_n 0, 1), (21, .getfield 31, 3), (24, .iload_n 2, 1), (25, .iconst 0, 1), (26, .iastore, 1), (27, .return_, 1)]
def xtb_83 : List (Nat × Instr × Nat) := [(0, .iconst 0, 1), (1, .istore_n 2, 1), (2, .iconst 1, 1), (3, .istore_n 3, 1), (4, .iconst 0, 1), (5, .istore 4, 2), (7, .iload 4, 2), (9, .bipush 24, 2), (11, .if_icmp .ge 93, 3), (14, .aload_n 0, 1), (15, .getfield 22, 3), (18, .iload 4, 2), (20, .iaload, 1), (21, .ifCond .le 77, 3), (24, .aload_n 0, 1), (25, .getfield 28, 3), (28, .iload 4, 2), (30, .iaload, 1), (31, .iload_n 1, 1), (32, .if_icmp .ne 66, 3), (35, .aload_n 0, 1), (36, .getfield 31, 3), (39, .iload 4, 2), (41, .iaload, 1), (42, .iconst 4, 1), (43, .if_icmp .eq 55, 3), (46, .iconst 1, 1), (47, .istore_n 2, 1), (48, .aload_n 0, 1), (49, .aload_n 0, 1), (50, .getfield 25, 3), (53, .iload 4, 2), (55, .iaload, 1), (56, .invokevirtual 116, 3), (59, .istore 5, 2), (61, .iload_n 3, 1), (62, .ifCond .eq 34, 3), (65, .aload_n 0, 1), (66, .getfield 25, 3), (69, .iload 4, 2), (71, .iaload, 1), (72, .iconst 1, 1), (73, .if_icmp .eq 19, 3), (76, .iload 5, 2), (78, .ifCond .lt 18, 3), (81, .aload_n 0, 1), (82, .getfield 28, 3), (85, .iload 5, 2), (87, .iaload, 1), (88, .iload_n 1, 1), (89, .if_icmp .ne 7, 3), (92, .iconst 1, 1), (93, .goto 4, 3), (96, .iconst 0, 1), (97, .istore_n 3, 1), (98, .iinc 4 1, 3), (101, .goto (-94), 3), (104, .iload_n 2, 1), (105, .ifCond .eq 11, 3), (108, .iload_n 3, 1), (109, .ifCond .eq 7, 3), (112, .iconst 1, 1), (113, .goto 4, 3), (116, .iconst 0, 1), (117, .ireturn, 1)]
def xtb_84 : List (Nat × Instr × Nat) := [(0, .aload_n 0, 1), (1, .dup, 1), (2, .getfield 150, 3), (5, .iconst 1, 1), (6, .iadd, 1), (7, .putfield 150, 3), (10, .aload_n 0, 1), (11, .getfield 22, 3), (14, .iload_n 1, 1), (15, .iaload, 1), (16, .iconst 1, 1), (17, .if_icmp .ne 8, 3), (20, .aload_n 0, 1), (21, .invokevirtual 153, 3), (24, .return_, 1), (25, .iconst 1, 1), (26, .istore_n 3, 1), (27, .iload_n 3, 1), (28, .sipush 1000, 3), (31, .if_icmp .ge 16, 3), (34, .aload_n 0, 1), (35, .getfield 100, 3), (38, .iload_n 3, 1), (39, .iconst 1, 1), (40, .bastore, 1), (41, .iinc 3 1, 3), (44, .goto (-17), 3), (47, .iconst 0, 1), (48, .istore_n 3, 1), (49, .iload_n 3, 1), (50, .bipush 24, 2), (52, .if_icmp .ge 39, 3), (55, .aload_n 0, 1), (56, .getfield 22, 3), (59, .iload_n 3, 1), (60, .iaload, 1), (61, .ifCond .le 24, 3), (64, .aload_n 0, 1), (65, .getfield 100, 3), (68, .aload_n 0, 1), (69, .getfield 28, 3), (72, .iload_n 3, 1), (73, .iaload, 1), (74, .aload_n 0, 1), (75, .aload_n 0, 1), (76, .getfield 28, 3), (79, .iload_n 3, 1), (80, .iaload, 1), (81, .invokevirtual 156, 3), (84, .bastore, 1), (85, .iinc 3 1, 3), (88, .goto (-39), 3), (91, .iconst 0, 1), (92, .istore_n 3, 1), (93, .iconst 0, 1), (94, .istore 4, 2), (96, .iload 4, 2), (98, .bipush 24, 2), (100, .if_icmp .ge 45, 3), (103, .aload_n 0, 1), (104, .getfield 22, 3), (107, .iload 4, 2), (109, .iaload, 1), (110, .ifCond .le 29, 3), (113, .aload_n 0, 1), (114, .getfield 25, 3), (117, .iload 4, 2), (119, .iaload, 1), (120, .aload_n 0, 1), (121, .getfield 22, 3), (124, .iload_n 1, 1), (125, .iaload, 1), (126, .if_icmp .ne 13, 3), (129, .aload_n 0, 1), (130, .getfield 25, 3), (133, .iload 4, 2), (135, .iconst 1, 1), (136, .iastore, 1), (137, .iconst 1, 1), (138, .istore_n 3, 1), (139, .iinc 4 1, 3), (142, .goto (-46), 3), (145, .iload_n 3, 1), (146, .ifCond .eq 8, 3), (149, .aload_n 0, 1), (150, .iconst 1, 1), (151, .invokevirtual 144, 3), (154, .aload_n 0, 1), (155, .aload_n 0, 1), (156, .getfield 25, 3), (159, .iload_n 1, 1), (160, .iaload, 1), (161, .invokevirtual 116, 3), (164, .istore 4, 2), (166, .aload_n 0, 1), (167, .getfield 31, 3), (170, .iload_n 1, 1), (171, .iconst 4, 1), (172, .iastore, 1), (173, .aload_n 0, 1), (174, .getfield 61, 3), (177, .iload_n 1, 1), (178, .lconst 0, 1), (179, .lastore, 1), (180, .aload_n 0, 1), (181, .getfield 46, 3), (184, .iload_n 1, 1), (185, .iconst 0, 1), (186, .iastore, 1), (187, .aload_n 0, 1), (188, .getfield 65, 3), (191, .iload_n 1, 1), (192, .iload_n 2, 1), (193, .iastore, 1), (194, .aload_n 0, 1), (195, .aload_n 0, 1), (196, .getfield 25, 3), (199, .iload_n 1, 1), (200, .iaload, 1), (201, .invokevirtual 144, 3), (204, .iload 4, 2), (206, .ifCond .lt 27, 3), (209, .aload_n 0, 1), (210, .getfield 43, 3), (213, .bipush 21, 2), (215, .iload 4, 2), (217, .imul, 1), (218, .bipush 17, 2), (220, .iadd, 1), (221, .iaload, 1), (222, .iconst 1, 1), (223, .if_icmp .ne 10, 3), (226, .aload_n 0, 1), (227, .getfield 22, 3), (230, .iload_n 1, 1), (231, .iconst 0, 1), (232, .iastore, 1), (233, .aload_n 0, 1), (234, .aload_n 0, 1), (235, .getfield 25, 3), (238, .iload_n 1, 1), (239, .iaload, 1), (240, .bipush 17, 2), (242, .invokevirtual 148, 3), (245, .iconst 1, 1), (246, .istore 5, 2), (248, .iload 5, 2), (250, .sipush 1000, 3), (253, .if_icmp .ge 34, 3), (256, .aload_n 0, 1), (257, .getfield 100, 3), (260, .iload 5, 2), (262, .baload, 1), (263, .ifCond .ne 18, 3), (266, .aload_n 0, 1), (267, .iload 5, 2), (269, .invokevirtual 156, 3), (272, .ifCond .eq 9, 3), (275, .aload_n 0, 1), (276, .iload 5, 2), (278, .invokevirtual 159, 3), (281, .iinc 5 1, 3), (284, .goto (-36), 3), (287, .return_, 1)]
def xtb_85 : List (Nat × Instr × Nat) := [(0, .iconst 0, 1), (1, .istore_n 2, 1), (2, .iconst 0, 1), (3, .istore_n 3, 1), (4, .iload_n 3, 1), (5, .bipush 24, 2), (7, .if_icmp .ge 48, 3), (10, .iload_n 2, 1), (11, .ifCond .ne 32, 3), (14, .aload_n 0, 1), (15, .getfield 22, 3), (18, .iload_n 3, 1), (19, .iaload, 1), (20, .ifCond .le 27, 3), (23, .aload_n 0, 1), (24, .getfield 28, 3), (27, .iload_n 3, 1), (28, .iaload, 1), (29, .iload_n 1, 1), (30, .if_icmp .ne 17, 3), (33, .aload_n 0, 1), (34, .getfield 31, 3), (37, .iload_n 3, 1), (38, .iaload, 1), (39, .iconst 3, 1), (40, .if_icmp .ne 7, 3), (43, .iconst 1, 1), (44, .goto 4, 3), (47, .iconst 0, 1), (48, .istore_n 2, 1), (49, .iinc 3 1, 3), (52, .goto (-48), 3), (55, .iconst 1, 1), (56, .istore_n 3, 1), (57, .iload_n 3, 1), (58, .bipush 19, 2), (60, .if_icmp .ge 57, 3), (63, .iload_n 2, 1), (64, .ifCond .eq 53, 3), (67, .iconst 0, 1), (68, .istore 4, 2), (70, .iload 4, 2), (72, .bipush 24, 2), (74, .if_icmp .ge 37, 3), (77, .aload_n 0, 1), (78, .getfield 22, 3), (81, .iload 4, 2), (83, .iaload, 1), (84, .ifCond .le 21, 3), (87, .aload_n 0, 1), (88, .getfield 28, 3), (91, .iload 4, 2), (93, .iaload, 1), (94, .iload_n 1, 1), (95, .if_icmp .ne 10, 3), (98, .aload_n 0, 1), (99, .iload 4, 2), (101, .iload_n 3, 1), (102, .invokevirtual 126, 3), (105, .iinc 4 1, 3), (108, .goto (-38), 3), (111, .iinc 3 17, 3), (114, .goto (-57), 3), (117, .return_, 1)]
def xtb_86 : List (Nat × Instr × Nat) := [(0, .aload_n 0, 1), (1, .dup, 1), (2, .getfield 162, 3), (5, .iconst 1, 1), (6, .iadd, 1), (7, .putfield 162, 3), (10, .iconst 0, 1), (11, .istore_n 1, 1), (12, .iload_n 1, 1), (13, .bipush 24, 2), (15, .if_icmp .ge 16, 3), (18, .aload_n 0, 1), (19, .getfield 22, 3), (22, .iload_n 1, 1), (23, .iconst 0, 1), (24, .iastore, 1), (25, .iinc 1 1, 3), (28, .goto (-16), 3), (31, .aload_n 0, 1), (32, .iconst 0, 1), (33, .putfield 120, 3), (36, .aload_n 0, 1), (37, .iconst 0, 1), (38, .putfield 130, 3), (41, .return_, 1)]
def xtb_87 : List (Nat × Instr × Nat) := [(0, .iload_n 1, 1), (1, .i2l, 1), (2, .lconst 0, 1), (3, .ldc2_w 165, 3), (6, .invokestatic 105, 3), (9, .ifCond .ne 7, 3), (12, .sipush (-1002), 3), (15, .ireturn, 1), (16, .iconst 0, 1), (17, .istore_n 2, 1), (18, .iconst 0, 1), (19, .istore_n 3, 1), (20, .iload_n 3, 1), (21, .iload_n 1, 1), (22, .if_icmp .ge 112, 3), (25, .aload_n 0, 1), (26, .dup, 1), (27, .getfield 167, 3), (30, .iconst 1, 1), (31, .iadd, 1), (32, .putfield 167, 3), (35, .iconst 0, 1), (36, .istore 4, 2), (38, .iload 4, 2), (40, .bipush 24, 2), (42, .if_icmp .ge 63, 3), (45, .aload_n 0, 1), (46, .getfield 22, 3), (49, .iload 4, 2), (51, .iaload, 1), (52, .ifCond .le 47, 3), (55, .aload_n 0, 1), (56, .getfield 61, 3), (59, .iload 4, 2), (61, .laload, 1), (62, .lconst 0, 1), (63, .lcmp, 1), (64, .ifCond .le 35, 3), (67, .aload_n 0, 1), (68, .getfield 61, 3), (71, .iload 4, 2), (73, .laload, 1), (74, .aload_n 0, 1), (75, .getfield 167, 3), (78, .i2l, 1), (79, .lcmp, 1), (80, .ifCond .gt 19, 3), (83, .aload_n 0, 1), (84, .getfield 61, 3), (87, .iload 4, 2), (89, .lconst 0, 1), (90, .lastore, 1), (91, .aload_n 0, 1), (92, .iload 4, 2), (94, .bipush 14, 2), (96, .invokevirtual 126, 3), (99, .iinc 4 1, 3), (102, .goto (-64), 3), (105, .aload_n 0, 1), (106, .invokevirtual 170, 3), (109, .iload_n 2, 1), (110, .aload_n 0, 1), (111, .invokevirtual 173, 3), (114, .ifCond .eq 7, 3), (117, .iconst 1, 1), (118, .goto 4, 3), (121, .iconst 0, 1), (122, .iadd, 1), (123, .istore_n 2, 1), (124, .aload_n 0, 1), (125, .invokevirtual 170, 3), (128, .iinc 3 1, 3), (131, .goto (-111), 3), (134, .iload_n 2, 1), (135, .ireturn, 1)]
def xtb_88 : List (Nat × Instr × Nat) := [(0, .iconst (-1), 1), (1, .istore_n 1, 1), (2, .iconst 1, 1), (3, .istore_n 2, 1), (4, .iload_n 2, 1), (5, .bipush 24, 2), (7, .if_icmp .gt 47, 3), (10, .iload_n 1, 1), (11, .ifCond .ge 43, 3), (14, .aload_n 0, 1), (15, .getfield 84, 3), (18, .iload_n 2, 1), (19, .iadd, 1), (20, .bipush 24, 2), (22, .irem, 1), (23, .istore_n 3, 1), (24, .aload_n 0, 1), (25, .getfield 22, 3), (28, .iload_n 3, 1), (29, .iaload, 1), (30, .ifCond .le 16, 3), (33, .aload_n 0, 1), (34, .getfield 31, 3), (37, .iload_n 3, 1), (38, .iaload, 1), (39, .ifCond .ne 7, 3), (42, .iload_n 3, 1), (43, .goto 4, 3), (46, .iload_n 1, 1), (47, .istore_n 1, 1), (48, .iinc 2 1, 3), (51, .goto (-47), 3), (54, .iload_n 1, 1), (55, .ifCond .ge 5, 3), (58, .iconst 0, 1), (59, .ireturn, 1), (60, .aload_n 0, 1), (61, .iload_n 1, 1), (62, .putfield 84, 3), (65, .aload_n 0, 1), (66, .getfield 46, 3), (69, .iload_n 1, 1), (70, .iaload, 1), (71, .aload_n 0, 1), (72, .getfield 49, 3), (75, .iload_n 1, 1), (76, .iaload, 1), (77, .iconst (-1), 1), (78, .ixor, 1), (79, .iand, 1), (80, .istore_n 2, 1), (81, .iload_n 2, 1), (82, .ifCond .eq 11, 3), (85, .aload_n 0, 1), (86, .iload_n 1, 1), (87, .iload_n 2, 1), (88, .invokevirtual 177, 3), (91, .iconst 1, 1), (92, .ireturn, 1), (93, .aload_n 0, 1), (94, .getfield 22, 3), (97, .iload_n 1, 1), (98, .iaload, 1), (99, .istore_n 3, 1), (100, .aload_n 0, 1), (101, .getfield 37, 3), (104, .iload_n 1, 1), (105, .iaload, 1), (106, .i2l, 1), (107, .lconst 0, 1), (108, .aload_n 0, 1), (109, .getfield 7, 3), (112, .aload_n 0, 1), (113, .getfield 34, 3), (116, .iload_n 1, 1), (117, .iaload, 1), (118, .iaload, 1), (119, .iconst 1, 1), (120, .isub, 1), (121, .i2l, 1), (122, .invokestatic 105, 3), (125, .ifCond .ne 12, 3), (128, .aload_n 0, 1), (129, .iload_n 1, 1), (130, .iconst 0, 1), (131, .invokevirtual 141, 3), (134, .goto 8, 3), (137, .aload_n 0, 1), (138, .iload_n 1, 1), (139, .invokevirtual 180, 3), (142, .iconst 1, 1), (143, .istore 4, 2), (145, .iload 4, 2), (147, .bipush 21, 2), (149, .if_icmp .ge 90, 3), (152, .aload_n 0, 1), (153, .getfield 22, 3), (156, .iload_n 1, 1), (157, .iaload, 1), (158, .iload_n 3, 1), (159, .if_icmp .ne 80, 3), (162, .aload_n 0, 1), (163, .getfield 31, 3), (166, .iload_n 1, 1), (167, .iaload, 1), (168, .iconst 4, 1), (169, .if_icmp .eq 70, 3), (172, .aload_n 0, 1), (173, .getfield 46, 3), (176, .iload_n 1, 1), (177, .iaload, 1), (178, .aload_n 0, 1), (179, .getfield 49, 3), (182, .iload_n 1, 1), (183, .iaload, 1), (184, .iconst (-1), 1), (185, .ixor, 1), (186, .iand, 1), (187, .iconst 1, 1), (188, .iload 4, 2), (190, .ishl, 1), (191, .iand, 1), (192, .ifCond .eq 41, 3), (195, .aload_n 0, 1), (196, .getfield 43, 3), (199, .bipush 21, 2), (201, .iload_n 1, 1), (202, .imul, 1), (203, .iload 4, 2), (205, .iadd, 1), (206, .iaload, 1), (207, .iconst 2, 1), (208, .if_icmp .ge 25, 3), (211, .aload_n 0, 1), (212, .getfield 46, 3), (215, .iload_n 1, 1), (216, .dup2, 1), (217, .iaload, 1), (218, .iconst 1, 1), (219, .iload 4, 2), (221, .ishl, 1), (222, .iconst (-1), 1), (223, .ixor, 1), (224, .iand, 1), (225, .iastore, 1), (226, .aload_n 0, 1), (227, .iload_n 1, 1), (228, .iload 4, 2), (230, .invokevirtual 138, 3), (233, .iinc 4 1, 3), (236, .goto (-91), 3), (239, .iconst 1, 1), (240, .ireturn, 1)]
def xtb_89 : List (Nat × Instr × Nat) := [(0, .iconst 1, 1), (1, .istore_n 3, 1), (2, .iload_n 2, 1), (3, .iload_n 3, 1), (4, .ishr, 1), (5, .iconst 1, 1), (6, .iand, 1), (7, .ifCond .ne 9, 3), (10, .iinc 3 1, 3), (13, .goto (-11), 3), (16, .aload_n 0, 1), (17, .getfield 52, 3), (20, .iload_n 1, 1), (21, .iaload, 1), (22, .iconst 4, 1), (23, .if_icmp .ne 11, 3), (26, .aload_n 0, 1), (27, .iload_n 1, 1), (28, .bipush 11, 2), (30, .invokevirtual 141, 3), (33, .return_, 1), (34, .aload_n 0, 1), (35, .getfield 55, 3), (38, .iconst 4, 1), (39, .iload_n 1, 1), (40, .imul, 1), (41, .aload_n 0, 1), (42, .getfield 52, 3), (45, .iload_n 1, 1), (46, .iaload, 1), (47, .iadd, 1), (48, .aload_n 0, 1), (49, .getfield 37, 3), (52, .iload_n 1, 1), (53, .iaload, 1), (54, .iastore, 1), (55, .aload_n 0, 1), (56, .getfield 58, 3), (59, .iconst 4, 1), (60, .iload_n 1, 1), (61, .imul, 1), (62, .aload_n 0, 1), (63, .getfield 52, 3), (66, .iload_n 1, 1), (67, .iaload, 1), (68, .iadd, 1), (69, .aload_n 0, 1), (70, .getfield 49, 3), (73, .iload_n 1, 1), (74, .iaload, 1), (75, .iastore, 1), (76, .aload_n 0, 1), (77, .getfield 52, 3), (80, .iload_n 1, 1), (81, .dup2, 1), (82, .iaload, 1), (83, .iconst 1, 1), (84, .iadd, 1), (85, .iastore, 1), (86, .aload_n 0, 1), (87, .getfield 46, 3), (90, .iload_n 1, 1), (91, .dup2, 1), (92, .iaload, 1), (93, .iconst 1, 1), (94, .iload_n 3, 1), (95, .ishl, 1), (96, .iconst (-1), 1), (97, .ixor, 1), (98, .iand, 1), (99, .iastore, 1), (100, .aload_n 0, 1), (101, .getfield 49, 3), (104, .iload_n 1, 1), (105, .dup2, 1), (106, .iaload, 1), (107, .iconst 1, 1), (108, .iload_n 3, 1), (109, .ishl, 1), (110, .ior, 1), (111, .iastore, 1), (112, .aload_n 0, 1), (113, .getfield 37, 3), (116, .iload_n 1, 1), (117, .aload_n 0, 1), (118, .getfield 43, 3), (121, .bipush 21, 2), (123, .iload_n 1, 1), (124, .imul, 1), (125, .iload_n 3, 1), (126, .iadd, 1), (127, .iaload, 1), (128, .iconst 2, 1), (129, .isub, 1), (130, .iastore, 1), (131, .aload_n 0, 1), (132, .dup, 1), (133, .getfield 183, 3), (136, .iconst 1, 1), (137, .iadd, 1), (138, .putfield 183, 3), (141, .return_, 1)]
def xtb_90 : List (Nat × Instr × Nat) := [(0, .iload_n 0, 1), (1, .bipush 8, 2), (3, .irem, 1), (4, .bipush 8, 2), (6, .iadd, 1), (7, .bipush 8, 2), (9, .irem, 1), (10, .ireturn, 1)]
def xtb_91 : List (Nat × Instr × Nat) := [(0, .bipush 60, 2), (2, .aload_n 0, 1), (3, .getfield 34, 3), (6, .iload_n 1, 1), (7, .iaload, 1), (8, .imul, 1), (9, .aload_n 0, 1), (10, .getfield 37, 3), (13, .iload_n 1, 1), (14, .iaload, 1), (15, .iadd, 1), (16, .istore_n 2, 1), (17, .aload_n 0, 1), (18, .getfield 13, 3), (21, .iload_n 2, 1), (22, .iaload, 1), (23, .istore_n 3, 1), (24, .aload_n 0, 1), (25, .getfield 16, 3), (28, .iload_n 2, 1), (29, .iaload, 1), (30, .istore 4, 2), (32, .aload_n 0, 1), (33, .getfield 19, 3), (36, .iload_n 2, 1), (37, .iaload, 1), (38, .istore 5, 2), (40, .bipush 8, 2), (42, .iload_n 1, 1), (43, .imul, 1), (44, .iload 4, 2), (46, .invokestatic 186, 3), (49, .iadd, 1), (50, .istore 6, 2), (52, .bipush 8, 2), (54, .iload_n 1, 1), (55, .imul, 1), (56, .iload 5, 2), (58, .invokestatic 186, 3), (61, .iadd, 1), (62, .istore 7, 2), (64, .aload_n 0, 1), (65, .getfield 37, 3), (68, .iload_n 1, 1), (69, .dup2, 1), (70, .iaload, 1), (71, .iconst 1, 1), (72, .iadd, 1), (73, .iastore, 1), (74, .iload_n 3, 1), (75, .tableswitch 333 0 14 #[73, 85, 102, 122, 142, 153, 183, 213, 263, 273, 285, 308, 308, 308, 321], 73), (148, .aload_n 0, 1), (149, .getfield 40, 3), (152, .iload 6, 2), (154, .iload 5, 2), (156, .iastore, 1), (157, .goto 265, 3), (160, .aload_n 0, 1), (161, .getfield 40, 3), (164, .iload 6, 2), (166, .aload_n 0, 1), (167, .getfield 40, 3), (170, .iload 7, 2), (172, .iaload, 1), (173, .iastore, 1), (174, .goto 248, 3), (177, .aload_n 0, 1), (178, .getfield 40, 3), (181, .iload 6, 2), (183, .dup2, 1), (184, .iaload, 1), (185, .aload_n 0, 1), (186, .getfield 40, 3), (189, .iload 7, 2), (191, .iaload, 1), (192, .iadd, 1), (193, .iastore, 1), (194, .goto 228, 3), (197, .aload_n 0, 1), (198, .getfield 40, 3), (201, .iload 6, 2), (203, .dup2, 1), (204, .iaload, 1), (205, .aload_n 0, 1), (206, .getfield 40, 3), (209, .iload 7, 2), (211, .iaload, 1), (212, .isub, 1), (213, .iastore, 1), (214, .goto 208, 3), (217, .aload_n 0, 1), (218, .getfield 37, 3), (221, .iload_n 1, 1), (222, .iload 4, 2), (224, .iastore, 1), (225, .goto 197, 3), (228, .aload_n 0, 1), (229, .getfield 37, 3), (232, .iload_n 1, 1), (233, .aload_n 0, 1), (234, .getfield 40, 3), (237, .iload 6, 2), (239, .iaload, 1), (240, .ifCond .ne 8, 3), (243, .iload 5, 2), (245, .goto 9, 3), (248, .aload_n 0, 1), (249, .getfield 37, 3), (252, .iload_n 1, 1), (253, .iaload, 1), (254, .iastore, 1), (255, .goto 167, 3), (258, .aload_n 0, 1), (259, .getfield 37, 3), (262, .iload_n 1, 1), (263, .aload_n 0, 1), (264, .getfield 40, 3), (267, .iload 6, 2), (269, .iaload, 1), (270, .ifCond .ge 8, 3), (273, .iload 5, 2), (275, .goto 9, 3), (278, .aload_n 0, 1), (279, .getfield 37, 3), (282, .iload_n 1, 1), (283, .iaload, 1), (284, .iastore, 1), (285, .goto 137, 3), (288, .aload_n 0, 1), (289, .getfield 94, 3), (292, .aload_n 0, 1), (293, .getfield 189, 3), (296, .bipush 40, 2), (298, .irem, 1), (299, .aload_n 0, 1), (300, .getfield 22, 3), (303, .iload_n 1, 1), (304, .iaload, 1), (305, .iastore, 1), (306, .aload_n 0, 1), (307, .getfield 97, 3), (310, .aload_n 0, 1), (311, .getfield 189, 3), (314, .bipush 40, 2), (316, .irem, 1), (317, .aload_n 0, 1), (318, .getfield 40, 3), (321, .iload 6, 2), (323, .iaload, 1), (324, .iastore, 1), (325, .aload_n 0, 1), (326, .dup, 1), (327, .getfield 189, 3), (330, .iconst 1, 1), (331, .iadd, 1), (332, .putfield 189, 3), (335, .goto 87, 3), (338, .aload_n 0, 1), (339, .iload_n 1, 1), (340, .iload 6, 2), (342, .invokevirtual 192, 3), (345, .goto 77, 3), (348, .aload_n 0, 1), (349, .iload_n 1, 1), (350, .iload 5, 2), (352, .iload 6, 2), (354, .invokevirtual 195, 3), (357, .goto 65, 3), (360, .aload_n 0, 1), (361, .iload_n 1, 1), (362, .sipush 256, 3), (365, .aload_n 0, 1), (366, .getfield 40, 3), (369, .iload 6, 2), (371, .iaload, 1), (372, .sipush 255, 3), (375, .iand, 1), (376, .imul, 1), (377, .invokevirtual 141, 3), (380, .goto 42, 3), (383, .aload_n 0, 1), (384, .iload_n 1, 1), (385, .iload_n 3, 1), (386, .iload 6, 2), (388, .iload 7, 2), (390, .invokevirtual 199, 3), (393, .goto 29, 3), (396, .aload_n 0, 1), (397, .iload_n 1, 1), (398, .iload 6, 2), (400, .iload 7, 2), (402, .invokevirtual 203, 3), (405, .goto 17, 3), (408, .aload_n 0, 1), (409, .iload_n 1, 1), (410, .iload_n 3, 1), (411, .iload 4, 2), (413, .iload 5, 2), (415, .iload 6, 2), (417, .iload 7, 2), (419, .invokevirtual 206, 3), (422, .return_, 1)]
def xtb_92 : List (Nat × Instr × Nat) := [(0, .iload_n 2, 1), (1, .tableswitch 389 15 23 #[51, 96, 135, 180, 253, 329, 345, 361, 377], 51), (52, .iload_n 3, 1), (53, .i2l, 1), (54, .lconst 1, 1), (55, .ldc2_w 210, 3), (58, .invokestatic 105, 3), (61, .ifCond .eq 329, 3), (64, .iload_n 3, 1), (65, .bipush 9, 2), (67, .if_icmp .eq 323, 3), (70, .iload_n 3, 1), (71, .bipush 19, 2), (73, .if_icmp .eq 317, 3), (76, .iload 4, 2), (78, .ifCond .lt 312, 3), (81, .aload_n 0, 1), (82, .getfield 43, 3), (85, .bipush 21, 2), (87, .iload_n 1, 1), (88, .imul, 1), (89, .iload_n 3, 1), (90, .iadd, 1), (91, .iload 4, 2), (93, .iastore, 1), (94, .goto 296, 3), (97, .aload_n 0, 1), (98, .getfield 49, 3), (101, .iload_n 1, 1), (102, .iaload, 1), (103, .istore 7, 2), (105, .aload_n 0, 1), (106, .getfield 49, 3), (109, .iload_n 1, 1), (110, .aload_n 0, 1), (111, .getfield 40, 3), (114, .iload 5, 2), (116, .iaload, 1), (117, .ldc 212, 2), (119, .iand, 1), (120, .ldc 213, 2), (122, .iand, 1), (123, .iastore, 1), (124, .aload_n 0, 1), (125, .getfield 40, 3), (128, .iload 5, 2), (130, .iload 7, 2), (132, .iastore, 1), (133, .goto 257, 3), (136, .aload_n 0, 1), (137, .getfield 31, 3), (140, .iload_n 1, 1), (141, .iconst 2, 1), (142, .iastore, 1), (143, .aload_n 0, 1), (144, .getfield 78, 3), (147, .iload_n 1, 1), (148, .iload 5, 2), (150, .bipush 8, 2), (152, .iload_n 1, 1), (153, .imul, 1), (154, .isub, 1), (155, .iastore, 1), (156, .aload_n 0, 1), (157, .getfield 81, 3), (160, .iload_n 1, 1), (161, .aload_n 0, 1), (162, .getfield 37, 3), (165, .iload_n 1, 1), (166, .iaload, 1), (167, .iastore, 1), (168, .aload_n 0, 1), (169, .getfield 37, 3), (172, .iload_n 1, 1), (173, .dup2, 1), (174, .iaload, 1), (175, .iconst 1, 1), (176, .isub, 1), (177, .iastore, 1), (178, .goto 212, 3), (181, .aload_n 0, 1), (182, .getfield 52, 3), (185, .iload_n 1, 1), (186, .iaload, 1), (187, .ifCond .ne 12, 3), (190, .aload_n 0, 1), (191, .iload_n 1, 1), (192, .iconst 0, 1), (193, .invokevirtual 141, 3), (196, .goto 194, 3), (199, .aload_n 0, 1), (200, .getfield 52, 3), (203, .iload_n 1, 1), (204, .dup2, 1), (205, .iaload, 1), (206, .iconst 1, 1), (207, .isub, 1), (208, .iastore, 1), (209, .aload_n 0, 1), (210, .getfield 37, 3), (213, .iload_n 1, 1), (214, .aload_n 0, 1), (215, .getfield 55, 3), (218, .iconst 4, 1), (219, .iload_n 1, 1), (220, .imul, 1), (221, .aload_n 0, 1), (222, .getfield 52, 3), (225, .iload_n 1, 1), (226, .iaload, 1), (227, .iadd, 1), (228, .iaload, 1), (229, .iastore, 1), (230, .aload_n 0, 1), (231, .getfield 49, 3), (234, .iload_n 1, 1), (235, .aload_n 0, 1), (236, .getfield 58, 3), (239, .iconst 4, 1), (240, .iload_n 1, 1), (241, .imul, 1), (242, .aload_n 0, 1), (243, .getfield 52, 3), (246, .iload_n 1, 1), (247, .iaload, 1), (248, .iadd, 1), (249, .iaload, 1), (250, .iastore, 1), (251, .goto 139, 3), (254, .aload_n 0, 1), (255, .getfield 61, 3), (258, .iload_n 1, 1), (259, .laload, 1), (260, .lconst 0, 1), (261, .lcmp, 1), (262, .ifCond .le 19, 3), (265, .aload_n 0, 1), (266, .getfield 61, 3), (269, .iload_n 1, 1), (270, .laload, 1), (271, .aload_n 0, 1), (272, .getfield 167, 3), (275, .i2l, 1), (276, .lsub, 1), (277, .l2i, 1), (278, .goto 4, 3), (281, .iconst 0, 1), (282, .istore 7, 2), (284, .aload_n 0, 1), (285, .getfield 61, 3), (288, .iload_n 1, 1), (289, .aload_n 0, 1), (290, .getfield 40, 3), (293, .iload 5, 2), (295, .iaload, 1), (296, .ifCond .le 20, 3), (299, .aload_n 0, 1), (300, .getfield 167, 3), (303, .i2l, 1), (304, .aload_n 0, 1), (305, .getfield 40, 3), (308, .iload 5, 2), (310, .iaload, 1), (311, .i2l, 1), (312, .ladd, 1), (313, .goto 4, 3), (316, .lconst 0, 1), (317, .lastore, 1), (318, .aload_n 0, 1), (319, .getfield 40, 3), (322, .iload 5, 2), (324, .iload 7, 2), (326, .iastore, 1), (327, .goto 63, 3), (330, .aload_n 0, 1), (331, .getfield 40, 3), (334, .iload 5, 2), (336, .aload_n 0, 1), (337, .getfield 22, 3), (340, .iload_n 1, 1), (341, .iaload, 1), (342, .iastore, 1), (343, .goto 47, 3), (346, .aload_n 0, 1), (347, .getfield 40, 3), (350, .iload 5, 2), (352, .aload_n 0, 1), (353, .getfield 25, 3), (356, .iload_n 1, 1), (357, .iaload, 1), (358, .iastore, 1), (359, .goto 31, 3), (362, .aload_n 0, 1), (363, .getfield 40, 3), (366, .iload 5, 2), (368, .aload_n 0, 1), (369, .getfield 28, 3), (372, .iload_n 1, 1), (373, .iaload, 1), (374, .iastore, 1), (375, .goto 15, 3), (378, .aload_n 0, 1), (379, .iload_n 1, 1), (380, .iload 5, 2), (382, .iload 6, 2), (384, .invokevirtual 214, 3), (387, .goto 3, 3), (390, .return_, 1)]
def xtb_93 : List (Nat × Instr × Nat) := [(0, .aload_n 0, 1), (1, .invokevirtual 217, 3), (4, .istore_n 3, 1), (5, .iload_n 3, 1), (6, .bipush 24, 2), (8, .if_icmp .ne 22, 3), (11, .aload_n 0, 1), (12, .getfield 40, 3), (15, .iload_n 2, 1), (16, .bipush (-11), 2), (18, .iastore, 1), (19, .aload_n 0, 1), (20, .dup, 1), (21, .getfield 221, 3), (24, .iconst 1, 1), (25, .iadd, 1), (26, .putfield 221, 3), (29, .return_, 1), (30, .aload_n 0, 1), (31, .invokevirtual 224, 3), (34, .istore 4, 2), (36, .aload_n 0, 1), (37, .getfield 22, 3), (40, .iload_n 3, 1), (41, .iload 4, 2), (43, .iastore, 1), (44, .aload_n 0, 1), (45, .getfield 25, 3), (48, .iload_n 3, 1), (49, .aload_n 0, 1), (50, .getfield 22, 3), (53, .iload_n 1, 1), (54, .iaload, 1), (55, .iastore, 1), (56, .aload_n 0, 1), (57, .getfield 28, 3), (60, .iload_n 3, 1), (61, .aload_n 0, 1), (62, .getfield 28, 3), (65, .iload_n 1, 1), (66, .iaload, 1), (67, .iastore, 1), (68, .aload_n 0, 1), (69, .getfield 31, 3), (72, .iload_n 3, 1), (73, .iconst 0, 1), (74, .iastore, 1), (75, .aload_n 0, 1), (76, .getfield 34, 3), (79, .iload_n 3, 1), (80, .aload_n 0, 1), (81, .getfield 34, 3), (84, .iload_n 1, 1), (85, .iaload, 1), (86, .iastore, 1), (87, .aload_n 0, 1), (88, .getfield 37, 3), (91, .iload_n 3, 1), (92, .aload_n 0, 1), (93, .getfield 37, 3), (96, .iload_n 1, 1), (97, .iaload, 1), (98, .iastore, 1), (99, .iconst 0, 1), (100, .istore 5, 2), (102, .iload 5, 2), (104, .bipush 8, 2), (106, .if_icmp .ge 33, 3), (109, .aload_n 0, 1), (110, .getfield 40, 3), (113, .bipush 8, 2), (115, .iload_n 3, 1), (116, .imul, 1), (117, .iload 5, 2), (119, .iadd, 1), (120, .aload_n 0, 1), (121, .getfield 40, 3), (124, .bipush 8, 2), (126, .iload_n 1, 1), (127, .imul, 1), (128, .iload 5, 2), (130, .iadd, 1), (131, .iaload, 1), (132, .iastore, 1), (133, .iinc 5 1, 3), (136, .goto (-34), 3), (139, .iconst 0, 1), (140, .istore 5, 2), (142, .iload 5, 2), (144, .bipush 21, 2), (146, .if_icmp .ge 33, 3), (149, .aload_n 0, 1), (150, .getfield 43, 3), (153, .bipush 21, 2), (155, .iload_n 3, 1), (156, .imul, 1), (157, .iload 5, 2), (159, .iadd, 1), (160, .aload_n 0, 1), (161, .getfield 43, 3), (164, .bipush 21, 2), (166, .iload_n 1, 1), (167, .imul, 1), (168, .iload 5, 2), (170, .iadd, 1), (171, .iaload, 1), (172, .iastore, 1), (173, .iinc 5 1, 3), (176, .goto (-34), 3), (179, .aload_n 0, 1), (180, .getfield 46, 3), (183, .iload_n 3, 1), (184, .iconst 0, 1), (185, .iastore, 1), (186, .aload_n 0, 1), (187, .getfield 49, 3), (190, .iload_n 3, 1), (191, .aload_n 0, 1), (192, .getfield 49, 3), (195, .iload_n 1, 1), (196, .iaload, 1), (197, .iastore, 1), (198, .aload_n 0, 1), (199, .getfield 52, 3), (202, .iload_n 3, 1), (203, .aload_n 0, 1), (204, .getfield 52, 3), (207, .iload_n 1, 1), (208, .iaload, 1), (209, .iastore, 1), (210, .iconst 0, 1), (211, .istore 5, 2), (213, .iload 5, 2), (215, .iconst 4, 1), (216, .if_icmp .ge 53, 3), (219, .aload_n 0, 1), (220, .getfield 55, 3), (223, .iconst 4, 1), (224, .iload_n 3, 1), (225, .imul, 1), (226, .iload 5, 2), (228, .iadd, 1), (229, .aload_n 0, 1), (230, .getfield 55, 3), (233, .iconst 4, 1), (234, .iload_n 1, 1), (235, .imul, 1), (236, .iload 5, 2), (238, .iadd, 1), (239, .iaload, 1), (240, .iastore, 1), (241, .aload_n 0, 1), (242, .getfield 58, 3), (245, .iconst 4, 1), (246, .iload_n 3, 1), (247, .imul, 1), (248, .iload 5, 2), (250, .iadd, 1), (251, .aload_n 0, 1), (252, .getfield 58, 3), (255, .iconst 4, 1), (256, .iload_n 1, 1), (257, .imul, 1), (258, .iload 5, 2), (260, .iadd, 1), (261, .iaload, 1), (262, .iastore, 1), (263, .iinc 5 1, 3), (266, .goto (-53), 3), (269, .aload_n 0, 1), (270, .getfield 61, 3), (273, .iload_n 3, 1), (274, .lconst 0, 1), (275, .lastore, 1), (276, .aload_n 0, 1), (277, .getfield 65, 3), (280, .iload_n 3, 1), (281, .iconst 0, 1), (282, .iastore, 1), (283, .aload_n 0, 1), (284, .getfield 71, 3), (287, .iload_n 3, 1), (288, .iconst 0, 1), (289, .bastore, 1), (290, .aload_n 0, 1), (291, .getfield 75, 3), (294, .iload_n 3, 1), (295, .iconst 0, 1), (296, .bastore, 1), (297, .aload_n 0, 1), (298, .getfield 40, 3), (301, .bipush 8, 2), (303, .iload_n 3, 1), (304, .imul, 1), (305, .iload_n 2, 1), (306, .iadd, 1), (307, .bipush 8, 2), (309, .iload_n 1, 1), (310, .imul, 1), (311, .isub, 1), (312, .iconst 0, 1), (313, .iastore, 1), (314, .aload_n 0, 1), (315, .getfield 40, 3), (318, .iload_n 2, 1), (319, .iload 4, 2), (321, .iastore, 1), (322, .aload_n 0, 1), (323, .dup, 1), (324, .getfield 227, 3), (327, .iconst 1, 1), (328, .iadd, 1), (329, .putfield 227, 3), (332, .return_, 1)]
def xtb_94 : List (Nat × Instr × Nat) := [(0, .iload_n 2, 1), (1, .i2l, 1), (2, .lconst 0, 1), (3, .ldc2_w 103, 3), (6, .invokestatic 105, 3), (9, .ifCond .ne 12, 3), (12, .aload_n 0, 1), (13, .getfield 40, 3), (16, .iload_n 3, 1), (17, .bipush (-2), 2), (19, .iastore, 1), (20, .return_, 1), (21, .aload_n 0, 1), (22, .getfield 34, 3), (25, .iload_n 1, 1), (26, .iload_n 2, 1), (27, .iastore, 1), (28, .aload_n 0, 1), (29, .getfield 37, 3), (32, .iload_n 1, 1), (33, .iconst 0, 1), (34, .iastore, 1), (35, .aload_n 0, 1), (36, .getfield 52, 3), (39, .iload_n 1, 1), (40, .iconst 0, 1), (41, .iastore, 1), (42, .aload_n 0, 1), (43, .getfield 75, 3), (46, .iload_n 1, 1), (47, .iconst 1, 1), (48, .bastore, 1), (49, .iconst 0, 1), (50, .istore 4, 2), (52, .iload 4, 2), (54, .bipush 21, 2), (56, .if_icmp .ge 53, 3), (59, .aload_n 0, 1), (60, .getfield 43, 3), (63, .bipush 21, 2), (65, .iload_n 1, 1), (66, .imul, 1), (67, .iload 4, 2), (69, .iadd, 1), (70, .aload_n 0, 1), (71, .getfield 43, 3), (74, .bipush 21, 2), (76, .iload_n 1, 1), (77, .imul, 1), (78, .iload 4, 2), (80, .iadd, 1), (81, .iaload, 1), (82, .iconst 1, 1), (83, .if_icmp .le 7, 3), (86, .iconst 0, 1), (87, .goto 15, 3), (90, .aload_n 0, 1), (91, .getfield 43, 3), (94, .bipush 21, 2), (96, .iload_n 1, 1), (97, .imul, 1), (98, .iload 4, 2), (100, .iadd, 1), (101, .iaload, 1), (102, .iastore, 1), (103, .iinc 4 1, 3), (106, .goto (-54), 3), (109, .return_, 1)]
def xtb_95 : List (Nat × Instr × Nat) := [(0, .iload_n 2, 1), (1, .ifCond .le 21, 3), (4, .aload_n 0, 1), (5, .getfield 22, 3), (8, .iload_n 3, 1), (9, .iaload, 1), (10, .iload_n 2, 1), (11, .if_icmp .ne 7, 3), (14, .iconst 1, 1), (15, .goto 55, 3), (18, .iconst 0, 1), (19, .goto 51, 3), (22, .iload_n 2, 1), (23, .ifCond .ne 26, 3), (26, .aload_n 0, 1), (27, .getfield 28, 3), (30, .iload_n 3, 1), (31, .iaload, 1), (32, .aload_n 0, 1), (33, .getfield 28, 3), (36, .iload_n 1, 1), (37, .iaload, 1), (38, .if_icmp .ne 7, 3), (41, .iconst 1, 1), (42, .goto 28, 3), (45, .iconst 0, 1), (46, .goto 24, 3), (49, .iload_n 2, 1), (50, .iconst (-1), 1), (51, .if_icmp .eq 14, 3), (54, .aload_n 0, 1), (55, .getfield 28, 3), (58, .iload_n 3, 1), (59, .iaload, 1), (60, .iload_n 2, 1), (61, .ineg, 1), (62, .if_icmp .ne 7, 3), (65, .iconst 1, 1), (66, .goto 4, 3), (69, .iconst 0, 1), (70, .ireturn, 1)]
def xtb_96 : List (Nat × Instr × Nat) := [(0, .aload_n 0, 1), (1, .getfield 40, 3), (4, .iload_n 3, 1), (5, .iaload, 1), (6, .istore 5, 2), (8, .iconst (-1), 1), (9, .istore 6, 2), (11, .iconst (-1), 1), (12, .istore 7, 2), (14, .iconst (-1), 1), (15, .istore 8, 2), (17, .bipush 23, 2), (19, .istore 9, 2), (21, .iload 9, 2), (23, .ifCond .lt 101, 3), (26, .aload_n 0, 1), (27, .getfield 22, 3), (30, .iload 9, 2), (32, .iaload, 1), (33, .ifCond .le 85, 3), (36, .aload_n 0, 1), (37, .getfield 25, 3), (40, .iload 9, 2), (42, .iaload, 1), (43, .aload_n 0, 1), (44, .getfield 22, 3), (47, .iload_n 1, 1), (48, .iaload, 1), (49, .if_icmp .ne 69, 3), (52, .aload_n 0, 1), (53, .iload_n 1, 1), (54, .iload 5, 2), (56, .iload 9, 2), (58, .invokevirtual 230, 3), (61, .ifCond .eq 57, 3), (64, .iload 9, 2), (66, .istore 6, 2), (68, .aload_n 0, 1), (69, .getfield 31, 3), (72, .iload 9, 2), (74, .iaload, 1), (75, .iconst 4, 1), (76, .if_icmp .ne 8, 3), (79, .iload 9, 2), (81, .goto 5, 3), (84, .iload 7, 2), (86, .istore 7, 2), (88, .aload_n 0, 1), (89, .getfield 31, 3), (92, .iload 9, 2), (94, .iaload, 1), (95, .iconst 3, 1), (96, .if_icmp .ne 18, 3), (99, .aload_n 0, 1), (100, .getfield 71, 3), (103, .iload 9, 2), (105, .baload, 1), (106, .ifCond .ne 8, 3), (109, .iload 9, 2), (111, .goto 5, 3), (114, .iload 8, 2), (116, .istore 8, 2), (118, .iinc 9 (-1), 3), (121, .goto (-100), 3), (124, .iload 6, 2), (126, .ifCond .ge 14, 3), (129, .aload_n 0, 1), (130, .getfield 40, 3), (133, .iload_n 3, 1), (134, .bipush (-10), 2), (136, .iastore, 1), (137, .goto 159, 3), (140, .iload 7, 2), (142, .ifCond .lt 41, 3), (145, .aload_n 0, 1), (146, .getfield 40, 3), (149, .iload_n 3, 1), (150, .aload_n 0, 1), (151, .getfield 22, 3), (154, .iload 7, 2), (156, .iaload, 1), (157, .iastore, 1), (158, .aload_n 0, 1), (159, .getfield 40, 3), (162, .iload 4, 2), (164, .aload_n 0, 1), (165, .getfield 65, 3), (168, .iload 7, 2), (170, .iaload, 1), (171, .iastore, 1), (172, .aload_n 0, 1), (173, .getfield 22, 3), (176, .iload 7, 2), (178, .iconst 0, 1), (179, .iastore, 1), (180, .goto 116, 3), (183, .iload_n 2, 1), (184, .bipush 13, 2), (186, .if_icmp .ne 53, 3), (189, .iload 8, 2), (191, .ifCond .lt 48, 3), (194, .aload_n 0, 1), (195, .getfield 40, 3), (198, .iload_n 3, 1), (199, .aload_n 0, 1), (200, .getfield 22, 3), (203, .iload 8, 2), (205, .iaload, 1), (206, .iastore, 1), (207, .aload_n 0, 1), (208, .getfield 40, 3), (211, .iload 4, 2), (213, .sipush 256, 3), (216, .aload_n 0, 1), (217, .getfield 68, 3), (220, .iload 8, 2), (222, .iaload, 1), (223, .imul, 1), (224, .bipush 127, 2), (226, .iadd, 1), (227, .iastore, 1), (228, .aload_n 0, 1), (229, .getfield 71, 3), (232, .iload 8, 2), (234, .iconst 1, 1), (235, .bastore, 1), (236, .goto 60, 3), (239, .iload_n 2, 1), (240, .bipush 12, 2), (242, .if_icmp .ne 13, 3), (245, .aload_n 0, 1), (246, .getfield 40, 3), (249, .iload_n 3, 1), (250, .iconst 0, 1), (251, .iastore, 1), (252, .goto 44, 3), (255, .aload_n 0, 1), (256, .getfield 31, 3), (259, .iload_n 1, 1), (260, .iconst 1, 1), (261, .iastore, 1), (262, .aload_n 0, 1), (263, .getfield 78, 3), (266, .iload_n 1, 1), (267, .iload_n 3, 1), (268, .bipush 8, 2), (270, .iload_n 1, 1), (271, .imul, 1), (272, .isub, 1), (273, .iastore, 1), (274, .aload_n 0, 1), (275, .getfield 81, 3), (278, .iload_n 1, 1), (279, .aload_n 0, 1), (280, .getfield 37, 3), (283, .iload_n 1, 1), (284, .iaload, 1), (285, .iastore, 1), (286, .aload_n 0, 1), (287, .getfield 37, 3), (290, .iload_n 1, 1), (291, .dup2, 1), (292, .iaload, 1), (293, .iconst 1, 1), (294, .isub, 1), (295, .iastore, 1), (296, .return_, 1)]
def xtb_97 : List (Nat × Instr × Nat) := [(0, .aload_n 0, 1), (1, .getfield 40, 3), (4, .iload_n 2, 1), (5, .iaload, 1), (6, .istore 4, 2), (8, .aload_n 0, 1), (9, .getfield 40, 3), (12, .iload_n 3, 1), (13, .iaload, 1), (14, .istore 5, 2), (16, .iload 5, 2), (18, .i2l, 1), (19, .lconst 0, 1), (20, .ldc2_w 210, 3), (23, .invokestatic 105, 3), (26, .ifCond .ne 12, 3), (29, .aload_n 0, 1), (30, .getfield 40, 3), (33, .iload_n 2, 1), (34, .bipush (-22), 2), (36, .iastore, 1), (37, .return_, 1), (38, .iconst 0, 1), (39, .istore 6, 2), (41, .iconst 0, 1), (42, .istore 7, 2), (44, .iload 7, 2), (46, .bipush 24, 2), (48, .if_icmp .ge 97, 3), (51, .aload_n 0, 1), (52, .getfield 22, 3), (55, .iload 7, 2), (57, .iaload, 1), (58, .ifCond .le 45, 3), (61, .iload 4, 2), (63, .iconst (-1), 1), (64, .if_icmp .ne 23, 3), (67, .iload 7, 2), (69, .iload_n 1, 1), (70, .if_icmp .eq 33, 3), (73, .aload_n 0, 1), (74, .getfield 22, 3), (77, .iload 7, 2), (79, .iaload, 1), (80, .iconst 1, 1), (81, .if_icmp .eq 22, 3), (84, .goto 15, 3), (87, .aload_n 0, 1), (88, .iload_n 1, 1), (89, .iload 4, 2), (91, .iload 7, 2), (93, .invokevirtual 230, 3), (96, .ifCond .eq 7, 3), (99, .iconst 1, 1), (100, .goto 4, 3), (103, .iconst 0, 1), (104, .istore 8, 2), (106, .iload 6, 2), (108, .iload 8, 2), (110, .ifCond .eq 7, 3), (113, .iconst 1, 1), (114, .goto 4, 3), (117, .iconst 0, 1), (118, .iadd, 1), (119, .istore 6, 2), (121, .iload 8, 2), (123, .ifCond .eq 16, 3), (126, .iload 5, 2), (128, .ifCond .le 11, 3), (131, .aload_n 0, 1), (132, .iload 7, 2), (134, .iload 5, 2), (136, .invokevirtual 126, 3), (139, .iinc 7 1, 3), (142, .goto (-98), 3), (145, .aload_n 0, 1), (146, .getfield 40, 3), (149, .iload_n 2, 1), (150, .iload 6, 2), (152, .ifCond .le 7, 3), (155, .iconst 0, 1), (156, .goto 5, 3), (159, .bipush (-3), 2), (161, .iastore, 1), (162, .return_, 1)]
def xtb_98 : List (Nat × Instr × Nat) := [(0, .aload_n 0, 1), (1, .getfield 40, 3), (4, .iload_n 2, 1), (5, .iaload, 1), (6, .istore 4, 2), (8, .iload 4, 2), (10, .ifCond .ne 7, 3), (13, .iload_n 1, 1), (14, .goto 9, 3), (17, .aload_n 0, 1), (18, .iload 4, 2), (20, .invokevirtual 116, 3), (23, .istore 5, 2), (25, .iload 5, 2), (27, .ifCond .lt 36, 3), (30, .iload 5, 2), (32, .iload_n 1, 1), (33, .if_icmp .eq 39, 3), (36, .aload_n 0, 1), (37, .getfield 25, 3), (40, .iload 5, 2), (42, .iaload, 1), (43, .aload_n 0, 1), (44, .getfield 22, 3), (47, .iload_n 1, 1), (48, .iaload, 1), (49, .if_icmp .ne 14, 3), (52, .aload_n 0, 1), (53, .getfield 31, 3), (56, .iload 5, 2), (58, .iaload, 1), (59, .iconst 4, 1), (60, .if_icmp .ne 12, 3), (63, .aload_n 0, 1), (64, .getfield 40, 3), (67, .iload_n 2, 1), (68, .bipush (-3), 2), (70, .iastore, 1), (71, .return_, 1), (72, .iload 5, 2), (74, .iload_n 1, 1), (75, .if_icmp .eq 22, 3), (78, .aload_n 0, 1), (79, .getfield 75, 3), (82, .iload 5, 2), (84, .baload, 1), (85, .ifCond .eq 12, 3), (88, .aload_n 0, 1), (89, .getfield 40, 3), (92, .iload_n 2, 1), (93, .bipush (-13), 2), (95, .iastore, 1), (96, .return_, 1), (97, .aload_n 0, 1), (98, .getfield 40, 3), (101, .iload_n 3, 1), (102, .iaload, 1), (103, .ifCond .ne 13, 3), (106, .aload_n 0, 1), (107, .getfield 22, 3), (110, .iload 5, 2), (112, .iaload, 1), (113, .goto 9, 3), (116, .aload_n 0, 1), (117, .getfield 40, 3), (120, .iload_n 3, 1), (121, .iaload, 1), (122, .istore 6, 2), (124, .iload 6, 2), (126, .aload_n 0, 1), (127, .getfield 22, 3), (130, .iload 5, 2), (132, .iaload, 1), (133, .if_icmp .ne 7, 3), (136, .iconst 1, 1), (137, .goto 4, 3), (140, .iconst 0, 1), (141, .istore 7, 2), (143, .iconst 0, 1), (144, .istore 8, 2), (146, .iload 8, 2), (148, .bipush 24, 2), (150, .if_icmp .ge 43, 3), (153, .iload 7, 2), (155, .ifCond .ne 25, 3), (158, .aload_n 0, 1), (159, .getfield 22, 3), (162, .iload 8, 2), (164, .iaload, 1), (165, .ifCond .le 19, 3), (168, .aload_n 0, 1), (169, .getfield 28, 3), (172, .iload 8, 2), (174, .iaload, 1), (175, .iload 6, 2), (177, .if_icmp .ne 7, 3), (180, .iconst 1, 1), (181, .goto 4, 3), (184, .iconst 0, 1), (185, .istore 7, 2), (187, .iinc 8 1, 3), (190, .goto (-44), 3), (193, .iload 7, 2), (195, .ifCond .eq 12, 3), (198, .aload_n 0, 1), (199, .getfield 28, 3), (202, .iload 5, 2), (204, .iload 6, 2), (206, .iastore, 1), (207, .aload_n 0, 1), (208, .getfield 40, 3), (211, .iload_n 2, 1), (212, .iload 7, 2), (214, .ifCond .eq 7, 3), (217, .iconst 0, 1), (218, .goto 4, 3), (221, .iconst (-1), 1), (222, .iastore, 1), (223, .return_, 1)]
def xtb_99 : List (Nat × Instr × Nat) := [(0, .aload_n 0, 1), (1, .iload_n 1, 1), (2, .invokevirtual 116, 3), (5, .istore_n 3, 1), (6, .iload_n 3, 1), (7, .ifCond .ge 7, 3), (10, .sipush (-1001), 3), (13, .ireturn, 1), (14, .iload_n 2, 1), (15, .i2l, 1), (16, .lconst 1, 1), (17, .ldc2_w 210, 3), (20, .invokestatic 105, 3), (23, .ifCond .ne 7, 3), (26, .sipush (-1002), 3), (29, .ireturn, 1), (30, .aload_n 0, 1), (31, .iload_n 3, 1), (32, .iload_n 2, 1), (33, .invokevirtual 126, 3), (36, .aload_n 0, 1), (37, .invokevirtual 170, 3), (40, .iconst 1, 1), (41, .ireturn, 1)]
def xtb_100 : List (Nat × Instr × Nat) := [(0, .iload_n 1, 1), (1, .i2l, 1), (2, .lconst 0, 1), (3, .ldc2_w 234, 3), (6, .invokestatic 105, 3), (9, .ifCond .eq 12, 3), (12, .aload_n 0, 1), (13, .getfield 22, 3), (16, .iload_n 1, 1), (17, .iaload, 1), (18, .goto 6, 3), (21, .sipush (-1001), 3), (24, .ireturn, 1)]
def xtb_101 : List (Nat × Instr × Nat) := [(0, .aload_n 0, 1), (1, .iload_n 1, 1), (2, .invokevirtual 116, 3), (5, .istore_n 3, 1), (6, .iload_n 3, 1), (7, .ifCond .ge 7, 3), (10, .sipush (-1001), 3), (13, .ireturn, 1), (14, .iload_n 2, 1), (15, .tableswitch 159 0 9 #[53, 60, 67, 74, 81, 88, 95, 102, 109, 138], 53), (68, .aload_n 0, 1), (69, .getfield 31, 3), (72, .iload_n 3, 1), (73, .iaload, 1), (74, .ireturn, 1), (75, .aload_n 0, 1), (76, .getfield 25, 3), (79, .iload_n 3, 1), (80, .iaload, 1), (81, .ireturn, 1), (82, .aload_n 0, 1), (83, .getfield 28, 3), (86, .iload_n 3, 1), (87, .iaload, 1), (88, .ireturn, 1), (89, .aload_n 0, 1), (90, .getfield 34, 3), (93, .iload_n 3, 1), (94, .iaload, 1), (95, .ireturn, 1), (96, .aload_n 0, 1), (97, .getfield 37, 3), (100, .iload_n 3, 1), (101, .iaload, 1), (102, .ireturn, 1), (103, .aload_n 0, 1), (104, .getfield 46, 3), (107, .iload_n 3, 1), (108, .iaload, 1), (109, .ireturn, 1), (110, .aload_n 0, 1), (111, .getfield 49, 3), (114, .iload_n 3, 1), (115, .iaload, 1), (116, .ireturn, 1), (117, .aload_n 0, 1), (118, .getfield 52, 3), (121, .iload_n 3, 1), (122, .iaload, 1), (123, .ireturn, 1), (124, .aload_n 0, 1), (125, .getfield 61, 3), (128, .iload_n 3, 1), (129, .laload, 1), (130, .lconst 0, 1), (131, .lcmp, 1), (132, .ifCond .le 19, 3), (135, .aload_n 0, 1), (136, .getfield 61, 3), (139, .iload_n 3, 1), (140, .laload, 1), (141, .aload_n 0, 1), (142, .getfield 167, 3), (145, .i2l, 1), (146, .lsub, 1), (147, .l2i, 1), (148, .goto 4, 3), (151, .iconst 0, 1), (152, .ireturn, 1), (153, .aload_n 0, 1), (154, .getfield 31, 3), (157, .iload_n 3, 1), (158, .iaload, 1), (159, .iconst 4, 1), (160, .if_icmp .ne 12, 3), (163, .aload_n 0, 1), (164, .getfield 65, 3), (167, .iload_n 3, 1), (168, .iaload, 1), (169, .goto 4, 3), (172, .iconst 0, 1), (173, .ireturn, 1), (174, .sipush (-1002), 3), (177, .ireturn, 1)]
def xtb_102 : List (Nat × Instr × Nat) := [(0, .aload_n 0, 1), (1, .iload_n 1, 1), (2, .invokevirtual 116, 3), (5, .istore_n 3, 1), (6, .iload_n 3, 1), (7, .ifCond .ge 7, 3), (10, .sipush (-1001), 3), (13, .ireturn, 1), (14, .iload_n 2, 1), (15, .i2l, 1), (16, .lconst 0, 1), (17, .ldc2_w 236, 3), (20, .invokestatic 105, 3), (23, .ifCond .eq 17, 3), (26, .aload_n 0, 1), (27, .getfield 40, 3), (30, .bipush 8, 2), (32, .iload_n 3, 1), (33, .imul, 1), (34, .iload_n 2, 1), (35, .iadd, 1), (36, .iaload, 1), (37, .goto 6, 3), (40, .sipush (-1002), 3), (43, .ireturn, 1)]
def xtb_103 : List (Nat × Instr × Nat) := [(0, .aload_n 0, 1), (1, .iload_n 1, 1), (2, .invokevirtual 116, 3), (5, .istore_n 3, 1), (6, .iload_n 3, 1), (7, .ifCond .ge 7, 3), (10, .sipush (-1001), 3), (13, .ireturn, 1), (14, .iload_n 2, 1), (15, .i2l, 1), (16, .lconst 1, 1), (17, .ldc2_w 210, 3), (20, .invokestatic 105, 3), (23, .ifCond .eq 17, 3), (26, .aload_n 0, 1), (27, .getfield 43, 3), (30, .bipush 21, 2), (32, .iload_n 3, 1), (33, .imul, 1), (34, .iload_n 2, 1), (35, .iadd, 1), (36, .iaload, 1), (37, .goto 6, 3), (40, .sipush (-1002), 3), (43, .ireturn, 1)]
def xtb_104 : List (Nat × Instr × Nat) := [(0, .aload_n 0, 1), (1, .iload_n 1, 1), (2, .invokevirtual 116, 3), (5, .istore_n 3, 1), (6, .iload_n 3, 1), (7, .ifCond .ge 7, 3), (10, .sipush (-1001), 3), (13, .ireturn, 1), (14, .iload_n 2, 1), (15, .istore 4, 2), (17, .iconst 0, 1), (18, .istore 5, 2), (20, .iload 5, 2), (22, .bipush 24, 2), (24, .if_icmp .ge 46, 3), (27, .aload_n 0, 1), (28, .getfield 22, 3), (31, .iload 5, 2), (33, .iaload, 1), (34, .ifCond .le 30, 3), (37, .aload_n 0, 1), (38, .getfield 25, 3), (41, .iload 5, 2), (43, .iaload, 1), (44, .iload_n 1, 1), (45, .if_icmp .ne 19, 3), (48, .iload 4, 2), (50, .ifCond .ne 11, 3), (53, .aload_n 0, 1), (54, .getfield 22, 3), (57, .iload 5, 2), (59, .iaload, 1), (60, .ireturn, 1), (61, .iinc 4 (-1), 3), (64, .iinc 5 1, 3), (67, .goto (-47), 3), (70, .iconst 0, 1), (71, .ireturn, 1)]
def xtb_105 : List (Nat × Instr × Nat) := [(0, .iconst 0, 1), (1, .istore_n 2, 1), (2, .iconst 0, 1), (3, .istore_n 3, 1), (4, .iload_n 3, 1), (5, .bipush 24, 2), (7, .if_icmp .ge 36, 3), (10, .iload_n 2, 1), (11, .aload_n 0, 1), (12, .getfield 22, 3), (15, .iload_n 3, 1), (16, .iaload, 1), (17, .ifCond .le 17, 3), (20, .aload_n 0, 1), (21, .getfield 28, 3), (24, .iload_n 3, 1), (25, .iaload, 1), (26, .iload_n 1, 1), (27, .if_icmp .ne 7, 3), (30, .iconst 1, 1), (31, .goto 4, 3), (34, .iconst 0, 1), (35, .iadd, 1), (36, .istore_n 2, 1), (37, .iinc 3 1, 3), (40, .goto (-36), 3), (43, .iload_n 2, 1), (44, .ireturn, 1)]
def xtb_106 : List (Nat × Instr × Nat) := [(0, .iload_n 2, 1), (1, .i2l, 1), (2, .lconst 0, 1), (3, .lconst 1, 1), (4, .invokestatic 105, 3), (7, .ifCond .ne 7, 3), (10, .sipush (-1002), 3), (13, .ireturn, 1), (14, .iload_n 1, 1), (15, .i2l, 1), (16, .lconst 0, 1), (17, .aload_n 0, 1), (18, .getfield 189, 3), (21, .bipush 40, 2), (23, .if_icmp .ge 10, 3), (26, .aload_n 0, 1), (27, .getfield 189, 3), (30, .goto 5, 3), (33, .bipush 40, 2), (35, .iconst 1, 1), (36, .isub, 1), (37, .i2l, 1), (38, .invokestatic 105, 3), (41, .ifCond .ne 5, 3), (44, .iconst (-1), 1), (45, .ireturn, 1), (46, .aload_n 0, 1), (47, .getfield 189, 3), (50, .iconst 1, 1), (51, .isub, 1), (52, .iload_n 1, 1), (53, .isub, 1), (54, .bipush 40, 2), (56, .irem, 1), (57, .istore_n 3, 1), (58, .iload_n 2, 1), (59, .ifCond .ne 12, 3), (62, .aload_n 0, 1), (63, .getfield 94, 3), (66, .iload_n 3, 1), (67, .iaload, 1), (68, .goto 9, 3), (71, .aload_n 0, 1), (72, .getfield 97, 3), (75, .iload_n 3, 1), (76, .iaload, 1), (77, .ireturn, 1)]
def xtb_107 : List (Nat × Instr × Nat) := [(0, .iconst 0, 1), (1, .istore_n 2, 1), (2, .iconst 0, 1), (3, .istore_n 3, 1), (4, .iload_n 3, 1), (5, .bipush 24, 2), (7, .if_icmp .ge 40, 3), (10, .iload_n 2, 1), (11, .aload_n 0, 1), (12, .getfield 22, 3), (15, .iload_n 3, 1), (16, .iaload, 1), (17, .ifCond .le 21, 3), (20, .iload_n 1, 1), (21, .ifCond .lt 13, 3), (24, .aload_n 0, 1), (25, .getfield 31, 3), (28, .iload_n 3, 1), (29, .iaload, 1), (30, .iload_n 1, 1), (31, .if_icmp .ne 7, 3), (34, .iconst 1, 1), (35, .goto 4, 3), (38, .iconst 0, 1), (39, .iadd, 1), (40, .istore_n 2, 1), (41, .iinc 3 1, 3), (44, .goto (-40), 3), (47, .iload_n 2, 1), (48, .ireturn, 1)]
def xtb_108 : List (Nat × Instr × Nat) := [(0, .iload_n 1, 1), (1, .tableswitch 108 0 9 #[55, 61, 67, 73, 78, 83, 88, 93, 98, 103], 55), (56, .aload_n 0, 1), (57, .iconst (-1), 1), (58, .invokevirtual 238, 3), (61, .ireturn, 1), (62, .aload_n 0, 1), (63, .iconst 4, 1), (64, .invokevirtual 238, 3), (67, .ireturn, 1), (68, .aload_n 0, 1), (69, .iconst 0, 1), (70, .invokevirtual 238, 3), (73, .ireturn, 1), (74, .aload_n 0, 1), (75, .getfield 167, 3), (78, .ireturn, 1), (79, .aload_n 0, 1), (80, .getfield 227, 3), (83, .ireturn, 1), (84, .aload_n 0, 1), (85, .getfield 221, 3), (88, .ireturn, 1), (89, .aload_n 0, 1), (90, .getfield 150, 3), (93, .ireturn, 1), (94, .aload_n 0, 1), (95, .getfield 123, 3), (98, .ireturn, 1), (99, .aload_n 0, 1), (100, .getfield 183, 3), (103, .ireturn, 1), (104, .aload_n 0, 1), (105, .getfield 162, 3), (108, .ireturn, 1), (109, .sipush (-1002), 3), (112, .ireturn, 1)]
def xtbs : List (List (Nat × Instr × Nat)) := [xtb_0, xtb_1, xtb_2, xtb_3, xtb_4, xtb_5, xtb_6, xtb_7, xtb_8, xtb_9, xtb_10, xtb_11, xtb_12, xtb_13, xtb_14, xtb_15, xtb_16, xtb_17, xtb_18, xtb_19, xtb_20, xtb_21, xtb_22, xtb_23, xtb_24, xtb_25, xtb_26, xtb_27, xtb_28, xtb_29, xtb_30, xtb_31, xtb_32, xtb_33, xtb_34, xtb_35, xtb_36, xtb_37, xtb_38, xtb_39, xtb_40, xtb_41, xtb_42, xtb_43, xtb_44, xtb_45, xtb_46, xtb_47, xtb_48, xtb_49, xtb_50, xtb_51, xtb_52, xtb_53, xtb_54, xtb_55, xtb_56, xtb_57, xtb_58, xtb_59, xtb_60, xtb_61, xtb_62, xtb_63, xtb_64, xtb_65, xtb_66, xtb_67, xtb_68, xtb_69, xtb_70, xtb_71, xtb_72, xtb_73, xtb_74, xtb_75, xtb_76, xtb_77, xtb_78, xtb_79, xtb_80, xtb_81, xtb_82, xtb_83, xtb_84, xtb_85, xtb_86, xtb_87, xtb_88, xtb_89, xtb_90, xtb_91, xtb_92, xtb_93, xtb_94, xtb_95, xtb_96, xtb_97, xtb_98, xtb_99, xtb_100, xtb_101, xtb_102, xtb_103, xtb_104, xtb_105, xtb_106, xtb_107, xtb_108]
/- links: (owner, pool entry), what it is, its place in lw_tbl -/
def xflL : List ((Nat × Nat) × Nat × Nat × Bool) := [((1, 9), 5, 0, false), ((2, 51), 5, 0, true), ((1, 15), 5, 1, false), ((2, 54), 5, 1, true), ((1, 18), 5, 2, false), ((2, 57), 5, 2, true), ((2, 48), 5, 3, true), ((0, 24), 0, 0, false), ((2, 98), 0, 0, true), ((0, 28), 0, 1, false), ((2, 191), 0, 1, true), ((0, 32), 0, 2, false), ((2, 167), 0, 2, true), ((0, 35), 0, 3, false), ((2, 105), 0, 3, true), ((0, 38), 0, 4, false), ((2, 121), 0, 4, true), ((0, 41), 0, 5, false), ((2, 124), 0, 5, true), ((0, 9), 0, 6, false), ((2, 244), 0, 6, true), ((0, 15), 0, 7, false), ((2, 146), 0, 7, true), ((0, 44), 0, 8, false), ((2, 108), 0, 8, true), ((0, 47), 0, 9, false), ((2, 111), 0, 9, true), ((0, 18), 0, 10, false), ((2, 140), 0, 10, true), ((0, 21), 0, 11, false), ((2, 143), 0, 11, true), ((0, 50), 0, 12, false), ((2, 137), 0, 12, true), ((0, 53), 0, 13, false), ((2, 101), 0, 13, true), ((0, 57), 0, 14, false), ((2, 210), 0, 14, true), ((0, 60), 0, 15, false), ((2, 184), 0, 15, true), ((0, 63), 0, 16, false), ((2, 187), 0, 16, true), ((0, 67), 0, 17, false), ((2, 319), 0, 17, true), ((0, 70), 0, 18, false), ((2, 11), 9, 0, false), ((2, 17), 9, 1, false), ((2, 21), 9, 2, false), ((2, 24), 9, 3, false), ((2, 161), 9, 4, false), ((2, 28), 9, 5, false), ((2, 32), 9, 6, false), ((2, 35), 9, 7, false), ((2, 291), 9, 8, false), ((2, 288), 9, 9, false), ((2, 74), 9, 10, false), ((2, 38), 9, 11, false), ((2, 71), 9, 12, false), ((2, 313), 9, 13, false), ((2, 304), 9, 14, false), ((2, 198), 9, 15, false), ((2, 164), 9, 16, false), ((2, 149), 9, 17, false), ((2, 219), 9, 18, false), ((3, 7), 20, 0, false), ((3, 13), 20, 1, false), ((3, 16), 20, 2, false), ((3, 19), 20, 3, false), ((3, 22), 20, 4, false), ((3, 25), 20, 5, false), ((3, 28), 20, 6, false), ((3, 31), 20, 7, false), ((3, 34), 20, 8, false), ((3, 37), 20, 9, false), ((3, 40), 20, 10, false), ((3, 43), 20, 11, false), ((3, 46), 20, 12, false), ((3, 49), 20, 13, false), ((3, 52), 20, 14, false), ((3, 55), 20, 15, false), ((3, 58), 20, 16, false), ((3, 61), 20, 17, false), ((3, 65), 20, 18, false), ((3, 68), 20, 19, false), ((3, 71), 20, 20, false), ((3, 75), 20, 21, false), ((3, 78), 20, 22, false), ((3, 81), 20, 23, false), ((3, 109), 20, 24, false), ((3, 84), 20, 25, false), ((3, 167), 20, 26, false), ((3, 88), 20, 27, false), ((3, 91), 20, 28, false), ((3, 120), 20, 29, false), ((3, 130), 20, 30, false), ((3, 189), 20, 31, false), ((3, 94), 20, 32, false), ((3, 97), 20, 33, false), ((3, 227), 20, 34, false), ((3, 221), 20, 35, false), ((3, 150), 20, 36, false), ((3, 123), 20, 37, false), ((3, 183), 20, 38, false), ((3, 162), 20, 39, false), ((3, 100), 20, 40, false)]
def xflP : List Nat := [94, 95, 96, 97, 98, 99, 100, 117, 118, 119, 120, 121, 122, 123, 124, 125, 126, 127, 128, 129, 130, 131, 132, 133, 134, 135, 136, 137, 138, 139, 140, 141, 142, 143, 144, 145, 146, 147, 148, 149, 150, 151, 152, 153, 193, 194, 195, 196, 197, 198, 199, 200, 201, 202, 203, 204, 205, 206, 207, 208, 209, 210, 211, 531, 532, 533, 534, 535, 536, 537, 538, 539, 540, 541, 542, 543, 544, 545, 546, 547, 548, 549, 550, 551, 552, 553, 554, 555, 556, 557, 558, 559, 560, 561, 562, 563, 564, 565, 566, 567, 568, 569, 570, 571]
def xmlL : List ((Nat × Nat) × Nat × Nat) := [((2, 44), 11, 2), ((2, 60), 16, 0), ((2, 64), 0, 1), ((2, 68), 1, 1), ((2, 77), 17, 0), ((2, 94), 23, 0), ((2, 80), 25, 0), ((2, 170), 26, 0), ((2, 173), 27, 2), ((2, 152), 8, 1), ((2, 155), 7, 1), ((2, 158), 28, 0), ((2, 181), 29, 0), ((2, 195), 4, 1), ((2, 127), 30, 0), ((2, 201), 31, 0), ((2, 213), 3, 1), ((2, 204), 33, 0), ((2, 222), 36, 0), ((2, 207), 32, 0), ((2, 216), 34, 0), ((2, 225), 35, 0), ((2, 228), 24, 0), ((2, 177), 5, 1), ((2, 83), 18, 0), ((2, 87), 19, 0), ((2, 114), 20, 2), ((2, 118), 21, 0), ((2, 130), 37, 0), ((2, 232), 39, 0), ((2, 247), 38, 2), ((2, 250), 44, 0), ((2, 235), 40, 0), ((2, 253), 45, 0), ((2, 300), 46, 0), ((2, 307), 47, 0), ((2, 316), 48, 0), ((2, 310), 2, 1), ((2, 256), 49, 2), ((2, 260), 50, 0), ((2, 322), 51, 2), ((2, 326), 52, 2), ((2, 270), 6, 1), ((2, 238), 41, 0), ((2, 263), 53, 0), ((2, 91), 15, 2), ((2, 266), 54, 2), ((2, 273), 55, 2), ((2, 277), 56, 0), ((2, 329), 57, 0), ((2, 241), 42, 0), ((2, 280), 43, 2), ((2, 284), 58, 0), ((2, 134), 22, 0), ((2, 332), 67, 0), ((2, 335), 68, 0), ((3, 105), 69, 2), ((3, 116), 72, 0), ((3, 126), 77, 0), ((3, 170), 79, 0), ((3, 133), 80, 0), ((3, 138), 81, 0), ((3, 141), 84, 0), ((3, 153), 86, 0), ((3, 156), 83, 0), ((3, 144), 82, 0), ((3, 148), 78, 0), ((3, 159), 85, 0), ((3, 173), 88, 0), ((3, 177), 89, 0), ((3, 180), 91, 0), ((3, 186), 90, 2), ((3, 192), 93, 0), ((3, 217), 73, 0), ((3, 224), 75, 0), ((3, 112), 74, 0), ((3, 195), 94, 0), ((3, 199), 96, 0), ((3, 230), 95, 0), ((3, 203), 97, 0), ((3, 206), 92, 0), ((3, 214), 98, 0), ((3, 238), 107, 0)]
def xmlP : List Nat := [255, 266, 270, 274, 282, 286, 290, 294, 298, 303, 307, 311, 315, 319, 323, 327, 331, 335, 339, 343, 347, 351, 355, 359, 363, 367, 371, 374, 378, 382, 386, 389, 396, 400, 404, 408, 412, 416, 423, 426, 430, 433, 436, 440, 444, 448, 451, 455, 458, 462, 466, 470, 473, 477, 517, 521, 661, 672, 681, 685, 689, 695, 699, 703, 707, 711, 715, 719, 723, 727, 731, 735, 738, 742, 746, 750, 754, 758, 762, 766, 771, 777, 819]
def xkcL : List ((Nat × Nat) × Int32) := [((2, 180), -1572865), ((2, 176), -262145), ((2, 269), 1572350), ((3, 136), -1572865), ((3, 137), -262145), ((3, 212), 2097150), ((3, 213), -524801)]
def xkcP : List Nat := [301, 302, 454, 693, 694, 775, 776]
def xklL : List ((Nat × Nat) × Int64) := [((3, 103), 15), ((3, 165), 200), ((3, 210), 20), ((3, 234), 23), ((3, 236), 7)]
def xklP : List Nat := [660, 680, 770, 789, 798]
def xacL : List (Nat × Nat) := [(0, 73)]
def xacP : List Nat := [420]
def xmmL : List (Nat × Nat) := [(2, 294)]
def xmmP : List Nat := [393]
def xcdP : List Nat := [273, 277, 419, 334, 322, 362, 439, 310, 306, 254, 261, 257, 265, 281, 484, 450, 269, 285, 366, 370, 373, 377, 480, 289, 358, 293, 297, 300, 314, 318, 326, 330, 346, 338, 350, 354, 342, 381, 388, 385, 399, 443, 469, 472, 392, 403, 407, 411, 415, 425, 429, 432, 435, 447, 453, 457, 461, 465, 476, 488, 492, 496, 500, 504, 508, 512, 516, 520, 524, 663, 659, 667, 675, 745, 753, 749, 671, 684, 718, 688, 692, 698, 714, 710, 702, 722, 706, 679, 726, 730, 737, 734, 774, 741, 757, 765, 761, 769, 780, 784, 788, 793, 797, 802, 806, 810, 814, 822, 818]
def xinP : List Nat := [272, 276, 418, 333, 321, 361, 438, 309, 305, 252, 259, 256, 263, 279, 482, 449, 268, 284, 365, 369, 372, 376, 479, 288, 357, 292, 296, 299, 313, 317, 325, 329, 345, 337, 349, 353, 341, 380, 387, 384, 398, 442, 468, 471, 391, 402, 406, 410, 414, 424, 428, 431, 434, 446, 452, 456, 460, 464, 475, 486, 490, 494, 498, 502, 506, 510, 514, 519, 523, 662, 657, 665, 674, 744, 752, 748, 669, 683, 717, 687, 691, 697, 713, 709, 701, 721, 705, 677, 725, 729, 736, 733, 773, 740, 756, 764, 760, 768, 779, 782, 786, 791, 795, 800, 804, 808, 812, 821, 816]
def xseP : List Nat := [1, 2, 33, 14, 11, 21, 35, 8, 7, 253, 260, 0, 264, 280, 483, 0, 0, 3, 22, 23, 0, 24, 42, 4, 20, 5, 6, 0, 9, 10, 12, 13, 17, 15, 18, 19, 16, 25, 0, 26, 28, 36, 40, 0, 27, 29, 30, 31, 32, 0, 34, 0, 0, 37, 0, 0, 38, 39, 41, 487, 491, 495, 499, 503, 507, 511, 515, 43, 44, 0, 658, 666, 45, 60, 62, 61, 670, 46, 54, 47, 48, 49, 53, 52, 50, 55, 51, 678, 56, 57, 0, 58, 67, 59, 63, 65, 64, 66, 68, 783, 787, 792, 796, 801, 805, 809, 813, 69, 817]
def xiiP : List Nat := [73, 73, 73, 73, 73, 73, 73, 73, 73, 71, 71, 71, 71, 71, 71, 71, 71, 71, 71, 71, 71, 71, 71, 71, 71, 71, 71, 71, 71, 71, 71, 71, 71, 71, 71, 71, 71, 71, 71, 71, 71, 71, 71, 71, 71, 71, 71, 71, 71, 71, 71, 71, 71, 71, 71, 71, 71, 71, 71, 71, 71, 71, 71, 71, 71, 71, 71, 71, 71, 74, 74, 74, 74, 74, 74, 74, 74, 74, 74, 74, 74, 74, 74, 74, 74, 74, 74, 74, 74, 74, 74, 74, 74, 74, 74, 74, 74, 74, 74, 74, 74, 74, 74, 74, 74, 74, 74, 74, 74]
end
section
/-! WHAT THE TABLES SAY: every word of the machine's tables is a word of the Statement -/
def xcn (t : Nat) : Nat := xcnL.getD t 0
def xob (t : Nat) : Option Nat := xobL.getD t none
def xfk (t : Nat) : List Nat := xfkL.getD t []
def xek (t : Nat) : Nat := xekL.getD t 0
def xal (t : Nat) : Nat := xalL.getD t 0
def xat (t : Nat) : FieldType := xatL.getD t .int
def xmd (j : Nat) : xMd := xms.getD j (0, ⟨"", "", ""⟩, ⟨#[]⟩, 0, none, 0, 0)
def xmo (j : Nat) : Nat := (xmd j).1
def xmy (j : Nat) : MethodName := (xmd j).2.1
def xmc (j : Nat) : ByteArray := (xmd j).2.2.1
def xmL (j : Nat) : Nat := (xmd j).2.2.2.1
def xmr (j : Nat) : Option FieldType := (xmd j).2.2.2.2.1
def xmt (j : Nat) : Nat := (xmd j).2.2.2.2.2.1
def xmn (j : Nat) : Nat := (xmd j).2.2.2.2.2.2
def xfet (j pc : Nat) : Option (Instr × Nat) := (xtbs.getD j []).lookup pc
def xfl (o i : Nat) : Option (Nat × Nat × Bool) := xflL.lookup (o, i)
def xml (o i : Nat) : Option (Nat × Nat) := xmlL.lookup (o, i)
def xkc (o i : Nat) : Option Int32 := xkcL.lookup (o, i)
def xkl (o i : Nat) : Option Int64 := xklL.lookup (o, i)
theorem x_mem_pos {α : Type} {big ws : List α} (ps : List Nat) (h : ws = ps.filterMap (fun i => big[i]?)) : ∀ w ∈ ws, w ∈ big := by
  intro w hw
  rw [h] at hw
  obtain ⟨i, -, hi⟩ := List.mem_filterMap.mp hw
  exact List.mem_of_getElem? hi
theorem x_lookup {α β : Type} [BEq α] [LawfulBEq α] {l : List (α × β)} {k : α} {v : β} (h : l.lookup k = some v) : (k, v) ∈ l := by
  induction l with
  | nil => simp at h
  | cons q l ih =>
    obtain ⟨a, b⟩ := q
    rw [List.lookup_cons] at h
    by_cases hk : (k == a) = true
    · rw [hk] at h
      simp only [beq_iff_eq] at hk
      subst hk
      cases h
      exact List.mem_cons_self
    · simp only [hk] at h
      exact List.mem_cons_of_mem _ (ih h)
def xflW (q : (Nat × Nat) × Nat × Nat × Bool) : Cond :=
  match vwCl[(xob q.2.1).getD 0]? with
  | some r => if q.2.2.2 then .fieldLinkNest (xon q.1.1) q.1.2 (r.2.1 q.2.2.1).1 (r.2.1 q.2.2.1).2.1 (r.2.1 q.2.2.1).2.2.1 RX2 else .fieldLink (xon q.1.1) q.1.2 (r.2.1 q.2.2.1).1 (r.2.1 q.2.2.1).2.1 (r.2.1 q.2.2.1).2.2.1
  | none => .arrayClass .int
set_option maxRecDepth 100000 in
theorem xfl_w : xflL.map xflW = xflP.filterMap (fun i => lw_tbl[i]?) := by decide +kernel
def xmlW (q : (Nat × Nat) × Nat × Nat) : Cond := if q.2.2 = 1 then .methodLinkNest (xon q.1.1) q.1.2 (xmy q.2.1) RX2 else .methodLink (xon q.1.1) q.1.2 (xmy q.2.1)
set_option maxRecDepth 100000 in
theorem xml_w : xmlL.map xmlW = xmlP.filterMap (fun i => lw_tbl[i]?) := by decide +kernel
def xkcW (q : (Nat × Nat) × Int32) : Cond := .constant (xon q.1.1) q.1.2 q.2
set_option maxRecDepth 100000 in
theorem xkc_w : xkcL.map xkcW = xkcP.filterMap (fun i => lw_tbl[i]?) := by decide +kernel
def xklW (q : (Nat × Nat) × Int64) : Cond := .constantLong (xon q.1.1) q.1.2 q.2
set_option maxRecDepth 100000 in
theorem xkl_w : xklL.map xklW = xklP.filterMap (fun i => lw_tbl[i]?) := by decide +kernel
def xacW (q : Nat × Nat) : Cond := .methodLink (xon q.1) q.2 arraycopyName
set_option maxRecDepth 100000 in
theorem xac_w : xacL.map xacW = xacP.filterMap (fun i => lw_tbl[i]?) := by decide +kernel
def xmmW (q : Nat × Nat) : Cond := .methodLink (xon q.1) q.2 Lib.Math.min.name
set_option maxRecDepth 100000 in
theorem xmm_w : xmmL.map xmmW = xmmP.filterMap (fun i => lw_tbl[i]?) := by decide +kernel
def xinW (q : xMd) : Cond := if q.2.2.2.2.2.1 = 0 then .static q.2.1 else .instanceMethod q.2.1
set_option maxRecDepth 100000 in
theorem xin_w : xms.map xinW = xinP.filterMap (fun i => lw_tbl[i]?) := by decide +kernel
def xseW (q : xMd) : Cond := .selects q.2.1.cls q.2.1 q.2.1
set_option maxRecDepth 100000 in
theorem xse_w : (xms.filter (fun q => q.2.2.2.2.2.1 != 0)).map xseW = ((xms.zip xseP).filter (fun q => q.1.2.2.2.2.2.1 != 0)).filterMap (fun q => lw_tbl[q.2]?) := by decide +kernel
def xiiW (q : xMd) : Cond := .initialized q.2.1.cls
set_option maxRecDepth 100000 in
theorem xii_w : xms.map xiiW = xiiP.filterMap (fun i => lw_tbl[i]?) := by decide +kernel
set_option maxRecDepth 100000 in
theorem xmd_own : ∀ q ∈ xms, xon q.1 = q.2.1.cls ∧ plainName q.2.1.cls = true ∧ (q.2.1.cls ≠ "java/lang/invoke/MethodHandle" ∧ q.2.1.cls ≠ "java/lang/invoke/VarHandle" ∧ (parseMethodDescriptor q.2.1.desc).map (fun d => d.parameters.length) = some q.2.2.2.2.2.2) ∧ q.2.2.2.1 ≤ 19 := by decide +kernel
def xchk (t : List (Nat × Instr × Nat)) (b : ByteArray) : Bool := t.all fun q => decide (decode b q.1 = .ok q.2)
end
section
set_option maxRecDepth 100000 in
theorem xck_0 : xchk xtb_0 cX0_begin = true := by decide +kernel
set_option maxRecDepth 100000 in
theorem xck_1 : xchk xtb_1 cX0_clearRows = true := by decide +kernel
set_option maxRecDepth 100000 in
theorem xck_2 : xchk xtb_2 cX0_copyFrom = true := by decide +kernel
set_option maxRecDepth 100000 in
theorem xck_3 : xchk xtb_3 cX0_leaveEntry = true := by decide +kernel
set_option maxRecDepth 100000 in
theorem xck_4 : xchk xtb_4 cX0_wake = true := by decide +kernel
set_option maxRecDepth 100000 in
theorem xck_5 : xchk xtb_5 cX0_interrupt = true := by decide +kernel
set_option maxRecDepth 100000 in
theorem xck_6 : xchk xtb_6 cX0_sleep = true := by decide +kernel
set_option maxRecDepth 100000 in
theorem xck_7 : xchk xtb_7 cX0_handles = true := by decide +kernel
set_option maxRecDepth 100000 in
theorem xck_8 : xchk xtb_8 cX0_blocks = true := by decide +kernel
set_option maxRecDepth 100000 in
theorem xck_9 : xchk xtb_9 cX2_act = true := by decide +kernel
set_option maxRecDepth 100000 in
theorem xck_10 : xchk xtb_10 cX2_wipe = true := by decide +kernel
set_option maxRecDepth 100000 in
theorem xck_11 : xchk xtb_11 cX2_isProgram = true := by decide +kernel
set_option maxRecDepth 100000 in
theorem xck_12 : xchk xtb_12 cX2_boot = true := by decide +kernel
set_option maxRecDepth 100000 in
theorem xck_13 : xchk xtb_13 cX2_tick = true := by decide +kernel
set_option maxRecDepth 100000 in
theorem xck_14 : xchk xtb_14 cX2_kill = true := by decide +kernel
set_option maxRecDepth 100000 in
theorem xck_15 : xchk xtb_15 cX2_isSignal = true := by decide +kernel
set_option maxRecDepth 100000 in
theorem xck_16 : xchk xtb_16 cX2_find = true := by decide +kernel
set_option maxRecDepth 100000 in
theorem xck_17 : xchk xtb_17 cX2_ringAlarms = true := by decide +kernel
set_option maxRecDepth 100000 in
theorem xck_18 : xchk xtb_18 cX2_nextReady = true := by decide +kernel
set_option maxRecDepth 100000 in
theorem xck_19 : xchk xtb_19 cX2_takeTurn = true := by decide +kernel
set_option maxRecDepth 100000 in
theorem xck_20 : xchk xtb_20 cX2_leastSignal = true := by decide +kernel
set_option maxRecDepth 100000 in
theorem xck_21 : xchk xtb_21 cX2_beginHandler = true := by decide +kernel
set_option maxRecDepth 100000 in
theorem xck_22 : xchk xtb_22 cX2_happenPending = true := by decide +kernel
set_option maxRecDepth 100000 in
theorem xck_23 : xchk xtb_23 cX2_send = true := by decide +kernel
set_option maxRecDepth 100000 in
theorem xck_24 : xchk xtb_24 cX2_sendToGroup = true := by decide +kernel
set_option maxRecDepth 100000 in
theorem xck_25 : xchk xtb_25 cX2_deliverRow = true := by decide +kernel
set_option maxRecDepth 100000 in
theorem xck_26 : xchk xtb_26 cX2_deliver = true := by decide +kernel
set_option maxRecDepth 100000 in
theorem xck_27 : xchk xtb_27 cX2_goOn = true := by decide +kernel
set_option maxRecDepth 100000 in
theorem xck_28 : xchk xtb_28 cX2_happen = true := by decide +kernel
set_option maxRecDepth 100000 in
theorem xck_29 : xchk xtb_29 cX2_stop = true := by decide +kernel
set_option maxRecDepth 100000 in
theorem xck_30 : xchk xtb_30 cX2_end = true := by decide +kernel
set_option maxRecDepth 100000 in
theorem xck_31 : xchk xtb_31 cX2_panic = true := by decide +kernel
set_option maxRecDepth 100000 in
theorem xck_32 : xchk xtb_32 cX2_leaveChildren = true := by decide +kernel
set_option maxRecDepth 100000 in
theorem xck_33 : xchk xtb_33 cX2_noteStoppedInCare = true := by decide +kernel
set_option maxRecDepth 100000 in
theorem xck_34 : xchk xtb_34 cX2_sendToOrphaned = true := by decide +kernel
set_option maxRecDepth 100000 in
theorem xck_35 : xchk xtb_35 cX2_leastGroupInCare = true := by decide +kernel
set_option maxRecDepth 100000 in
theorem xck_36 : xchk xtb_36 cX2_isOrphaned = true := by decide +kernel
set_option maxRecDepth 100000 in
theorem xck_37 : xchk xtb_37 cX2_doAct = true := by decide +kernel
set_option maxRecDepth 100000 in
theorem xck_38 : xchk xtb_38 cX2_registerOf = true := by decide +kernel
set_option maxRecDepth 100000 in
theorem xck_39 : xchk xtb_39 cX2_doPlainOp = true := by decide +kernel
set_option maxRecDepth 100000 in
theorem xck_40 : xchk xtb_40 cX2_doFamilyOp = true := by decide +kernel
set_option maxRecDepth 100000 in
theorem xck_41 : xchk xtb_41 cX2_doSignalOp = true := by decide +kernel
set_option maxRecDepth 100000 in
theorem xck_42 : xchk xtb_42 cX2_doNameOp = true := by decide +kernel
set_option maxRecDepth 100000 in
theorem xck_43 : xchk xtb_43 cX2_parentOf = true := by decide +kernel
set_option maxRecDepth 100000 in
theorem xck_44 : xchk xtb_44 cX2_writeLog = true := by decide +kernel
set_option maxRecDepth 100000 in
theorem xck_45 : xchk xtb_45 cX2_fork = true := by decide +kernel
set_option maxRecDepth 100000 in
theorem xck_46 : xchk xtb_46 cX2_firstFree = true := by decide +kernel
set_option maxRecDepth 100000 in
theorem xck_47 : xchk xtb_47 cX2_newPid = true := by decide +kernel
set_option maxRecDepth 100000 in
theorem xck_48 : xchk xtb_48 cX2_isGroup = true := by decide +kernel
set_option maxRecDepth 100000 in
theorem xck_49 : xchk xtb_49 cX2_exec = true := by decide +kernel
set_option maxRecDepth 100000 in
theorem xck_50 : xchk xtb_50 cX2_awaitChild = true := by decide +kernel
set_option maxRecDepth 100000 in
theorem xck_51 : xchk xtb_51 cX2_isMeantChild = true := by decide +kernel
set_option maxRecDepth 100000 in
theorem xck_52 : xchk xtb_52 cX2_means = true := by decide +kernel
set_option maxRecDepth 100000 in
theorem xck_53 : xchk xtb_53 cX2_sendToMeant = true := by decide +kernel
set_option maxRecDepth 100000 in
theorem xck_54 : xchk xtb_54 cX2_setAction = true := by decide +kernel
set_option maxRecDepth 100000 in
theorem xck_55 : xchk xtb_55 cX2_returnFromHandler = true := by decide +kernel
set_option maxRecDepth 100000 in
theorem xck_56 : xchk xtb_56 cX2_setAlarm = true := by decide +kernel
set_option maxRecDepth 100000 in
theorem xck_57 : xchk xtb_57 cX2_untilAlarm = true := by decide +kernel
set_option maxRecDepth 100000 in
theorem xck_58 : xchk xtb_58 cX2_join = true := by decide +kernel
set_option maxRecDepth 100000 in
theorem xck_59 : xchk xtb_59 cX2_entry = true := by decide +kernel
set_option maxRecDepth 100000 in
theorem xck_60 : xchk xtb_60 cX2_told = true := by decide +kernel
set_option maxRecDepth 100000 in
theorem xck_61 : xchk xtb_61 cX2_register = true := by decide +kernel
set_option maxRecDepth 100000 in
theorem xck_62 : xchk xtb_62 cX2_action = true := by decide +kernel
set_option maxRecDepth 100000 in
theorem xck_63 : xchk xtb_63 cX2_child = true := by decide +kernel
set_option maxRecDepth 100000 in
theorem xck_64 : xchk xtb_64 cX2_members = true := by decide +kernel
set_option maxRecDepth 100000 in
theorem xck_65 : xchk xtb_65 cX2_log = true := by decide +kernel
set_option maxRecDepth 100000 in
theorem xck_66 : xchk xtb_66 cX2_count = true := by decide +kernel
set_option maxRecDepth 100000 in
theorem xck_67 : xchk xtb_67 cX2_countProcesses = true := by decide +kernel
set_option maxRecDepth 100000 in
theorem xck_68 : xchk xtb_68 cX2_countInState = true := by decide +kernel
set_option maxRecDepth 100000 in
theorem xck_69 : xchk xtb_69 cX3_in = true := by decide +kernel
set_option maxRecDepth 100000 in
theorem xck_70 : xchk xtb_70 cX3_act = true := by decide +kernel
set_option maxRecDepth 100000 in
theorem xck_71 : xchk xtb_71 cX3_wipe = true := by decide +kernel
set_option maxRecDepth 100000 in
theorem xck_72 : xchk xtb_72 cX3_entryOf = true := by decide +kernel
set_option maxRecDepth 100000 in
theorem xck_73 : xchk xtb_73 cX3_freeEntry = true := by decide +kernel
set_option maxRecDepth 100000 in
theorem xck_74 : xchk xtb_74 cX3_isTaken = true := by decide +kernel
set_option maxRecDepth 100000 in
theorem xck_75 : xchk xtb_75 cX3_newPid = true := by decide +kernel
set_option maxRecDepth 100000 in
theorem xck_76 : xchk xtb_76 cX3_boot = true := by decide +kernel
set_option maxRecDepth 100000 in
theorem xck_77 : xchk xtb_77 cX3_send = true := by decide +kernel
set_option maxRecDepth 100000 in
theorem xck_78 : xchk xtb_78 cX3_sendTo = true := by decide +kernel
set_option maxRecDepth 100000 in
theorem xck_79 : xchk xtb_79 cX3_doRow = true := by decide +kernel
set_option maxRecDepth 100000 in
theorem xck_80 : xchk xtb_80 cX3_come = true := by decide +kernel
set_option maxRecDepth 100000 in
theorem xck_81 : xchk xtb_81 cX3_happen = true := by decide +kernel
set_option maxRecDepth 100000 in
theorem xck_82 : xchk xtb_82 cX3_wake = true := by decide +kernel
set_option maxRecDepth 100000 in
theorem xck_83 : xchk xtb_83 cX3_isOrphaned = true := by decide +kernel
set_option maxRecDepth 100000 in
theorem xck_84 : xchk xtb_84 cX3_end = true := by decide +kernel
set_option maxRecDepth 100000 in
theorem xck_85 : xchk xtb_85 cX3_tellOrphans = true := by decide +kernel
set_option maxRecDepth 100000 in
theorem xck_86 : xchk xtb_86 cX3_panic = true := by decide +kernel
set_option maxRecDepth 100000 in
theorem xck_87 : xchk xtb_87 cX3_tick = true := by decide +kernel
set_option maxRecDepth 100000 in
theorem xck_88 : xchk xtb_88 cX3_takeTurn = true := by decide +kernel
set_option maxRecDepth 100000 in
theorem xck_89 : xchk xtb_89 cX3_beginHandler = true := by decide +kernel
set_option maxRecDepth 100000 in
theorem xck_90 : xchk xtb_90 cX3_eighth = true := by decide +kernel
set_option maxRecDepth 100000 in
theorem xck_91 : xchk xtb_91 cX3_doAct = true := by decide +kernel
set_option maxRecDepth 100000 in
theorem xck_92 : xchk xtb_92 cX3_doMore = true := by decide +kernel
set_option maxRecDepth 100000 in
theorem xck_93 : xchk xtb_93 cX3_fork = true := by decide +kernel
set_option maxRecDepth 100000 in
theorem xck_94 : xchk xtb_94 cX3_exec = true := by decide +kernel
set_option maxRecDepth 100000 in
theorem xck_95 : xchk xtb_95 cX3_means = true := by decide +kernel
set_option maxRecDepth 100000 in
theorem xck_96 : xchk xtb_96 cX3_await = true := by decide +kernel
set_option maxRecDepth 100000 in
theorem xck_97 : xchk xtb_97 cX3_kill = true := by decide +kernel
set_option maxRecDepth 100000 in
theorem xck_98 : xchk xtb_98 cX3_join = true := by decide +kernel
set_option maxRecDepth 100000 in
theorem xck_99 : xchk xtb_99 cX3_kill_ = true := by decide +kernel
set_option maxRecDepth 100000 in
theorem xck_100 : xchk xtb_100 cX3_entry = true := by decide +kernel
set_option maxRecDepth 100000 in
theorem xck_101 : xchk xtb_101 cX3_told = true := by decide +kernel
set_option maxRecDepth 100000 in
theorem xck_102 : xchk xtb_102 cX3_register = true := by decide +kernel
set_option maxRecDepth 100000 in
theorem xck_103 : xchk xtb_103 cX3_action = true := by decide +kernel
set_option maxRecDepth 100000 in
theorem xck_104 : xchk xtb_104 cX3_child = true := by decide +kernel
set_option maxRecDepth 100000 in
theorem xck_105 : xchk xtb_105 cX3_members = true := by decide +kernel
set_option maxRecDepth 100000 in
theorem xck_106 : xchk xtb_106 cX3_log = true := by decide +kernel
set_option maxRecDepth 100000 in
theorem xck_107 : xchk xtb_107 cX3_howMany = true := by decide +kernel
set_option maxRecDepth 100000 in
theorem xck_108 : xchk xtb_108 cX3_count = true := by decide +kernel
theorem xck_all : ∀ q ∈ xtbs.zip (xms.map fun q => q.2.2.1), xchk q.1 q.2 = true := List.forall_mem_cons.mpr ⟨xck_0, List.forall_mem_cons.mpr ⟨xck_1, List.forall_mem_cons.mpr ⟨xck_2, List.forall_mem_cons.mpr ⟨xck_3, List.forall_mem_cons.mpr ⟨xck_4, List.forall_mem_cons.mpr ⟨xck_5, List.forall_mem_cons.mpr ⟨xck_6, List.forall_mem_cons.mpr ⟨xck_7, List.forall_mem_cons.mpr ⟨xck_8, List.forall_mem_cons.mpr ⟨xck_9, List.forall_mem_cons.mpr ⟨xck_10, List.forall_mem_cons.mpr ⟨xck_11, List.forall_mem_cons.mpr ⟨xck_12, List.forall_mem_cons.mpr ⟨xck_13, List.forall_mem_cons.mpr ⟨xck_14, List.forall_mem_cons.mpr ⟨xck_15, List.forall_mem_cons.mpr ⟨xck_16, List.forall_mem_cons.mpr ⟨xck_17, List.forall_mem_cons.mpr ⟨xck_18, List.forall_mem_cons.mpr ⟨xck_19, List.forall_mem_cons.mpr ⟨xck_20, List.forall_mem_cons.mpr ⟨xck_21, List.forall_mem_cons.mpr ⟨xck_22, List.forall_mem_cons.mpr ⟨xck_23, List.forall_mem_cons.mpr ⟨xck_24, List.forall_mem_cons.mpr ⟨xck_25, List.forall_mem_cons.mpr ⟨xck_26, List.forall_mem_cons.mpr ⟨xck_27, List.forall_mem_cons.mpr ⟨xck_28, List.forall_mem_cons.mpr ⟨xck_29, List.forall_mem_cons.mpr ⟨xck_30, List.forall_mem_cons.mpr ⟨xck_31, List.forall_mem_cons.mpr ⟨xck_32, List.forall_mem_cons.mpr ⟨xck_33, List.forall_mem_cons.mpr ⟨xck_34, List.forall_mem_cons.mpr ⟨xck_35, List.forall_mem_cons.mpr ⟨xck_36, List.forall_mem_cons.mpr ⟨xck_37, List.forall_mem_cons.mpr ⟨xck_38, List.forall_mem_cons.mpr ⟨xck_39, List.forall_mem_cons.mpr ⟨xck_40, List.forall_mem_cons.mpr ⟨xck_41, List.forall_mem_cons.mpr ⟨xck_42, List.forall_mem_cons.mpr ⟨xck_43, List.forall_mem_cons.mpr ⟨xck_44, List.forall_mem_cons.mpr ⟨xck_45, List.forall_mem_cons.mpr ⟨xck_46, List.forall_mem_cons.mpr ⟨xck_47, List.forall_mem_cons.mpr ⟨xck_48, List.forall_mem_cons.mpr ⟨xck_49, List.forall_mem_cons.mpr ⟨xck_50, List.forall_mem_cons.mpr ⟨xck_51, List.forall_mem_cons.mpr ⟨xck_52, List.forall_mem_cons.mpr ⟨xck_53, List.forall_mem_cons.mpr ⟨xck_54, List.forall_mem_cons.mpr ⟨xck_55, List.forall_mem_cons.mpr ⟨xck_56, List.forall_mem_cons.mpr ⟨xck_57, List.forall_mem_cons.mpr ⟨xck_58, List.forall_mem_cons.mpr ⟨xck_59, List.forall_mem_cons.mpr ⟨xck_60, List.forall_mem_cons.mpr ⟨xck_61, List.forall_mem_cons.mpr ⟨xck_62, List.forall_mem_cons.mpr ⟨xck_63, List.forall_mem_cons.mpr ⟨xck_64, List.forall_mem_cons.mpr ⟨xck_65, List.forall_mem_cons.mpr ⟨xck_66, List.forall_mem_cons.mpr ⟨xck_67, List.forall_mem_cons.mpr ⟨xck_68, List.forall_mem_cons.mpr ⟨xck_69, List.forall_mem_cons.mpr ⟨xck_70, List.forall_mem_cons.mpr ⟨xck_71, List.forall_mem_cons.mpr ⟨xck_72, List.forall_mem_cons.mpr ⟨xck_73, List.forall_mem_cons.mpr ⟨xck_74, List.forall_mem_cons.mpr ⟨xck_75, List.forall_mem_cons.mpr ⟨xck_76, List.forall_mem_cons.mpr ⟨xck_77, List.forall_mem_cons.mpr ⟨xck_78, List.forall_mem_cons.mpr ⟨xck_79, List.forall_mem_cons.mpr ⟨xck_80, List.forall_mem_cons.mpr ⟨xck_81, List.forall_mem_cons.mpr ⟨xck_82, List.forall_mem_cons.mpr ⟨xck_83, List.forall_mem_cons.mpr ⟨xck_84, List.forall_mem_cons.mpr ⟨xck_85, List.forall_mem_cons.mpr ⟨xck_86, List.forall_mem_cons.mpr ⟨xck_87, List.forall_mem_cons.mpr ⟨xck_88, List.forall_mem_cons.mpr ⟨xck_89, List.forall_mem_cons.mpr ⟨xck_90, List.forall_mem_cons.mpr ⟨xck_91, List.forall_mem_cons.mpr ⟨xck_92, List.forall_mem_cons.mpr ⟨xck_93, List.forall_mem_cons.mpr ⟨xck_94, List.forall_mem_cons.mpr ⟨xck_95, List.forall_mem_cons.mpr ⟨xck_96, List.forall_mem_cons.mpr ⟨xck_97, List.forall_mem_cons.mpr ⟨xck_98, List.forall_mem_cons.mpr ⟨xck_99, List.forall_mem_cons.mpr ⟨xck_100, List.forall_mem_cons.mpr ⟨xck_101, List.forall_mem_cons.mpr ⟨xck_102, List.forall_mem_cons.mpr ⟨xck_103, List.forall_mem_cons.mpr ⟨xck_104, List.forall_mem_cons.mpr ⟨xck_105, List.forall_mem_cons.mpr ⟨xck_106, List.forall_mem_cons.mpr ⟨xck_107, List.forall_mem_cons.mpr ⟨xck_108, fun _ h => absurd h List.not_mem_nil⟩⟩⟩⟩⟩⟩⟩⟩⟩⟩⟩⟩⟩⟩⟩⟩⟩⟩⟩⟩⟩⟩⟩⟩⟩⟩⟩⟩⟩⟩⟩⟩⟩⟩⟩⟩⟩⟩⟩⟩⟩⟩⟩⟩⟩⟩⟩⟩⟩⟩⟩⟩⟩⟩⟩⟩⟩⟩⟩⟩⟩⟩⟩⟩⟩⟩⟩⟩⟩⟩⟩⟩⟩⟩⟩⟩⟩⟩⟩⟩⟩⟩⟩⟩⟩⟩⟩⟩⟩⟩⟩⟩⟩⟩⟩⟩⟩⟩⟩⟩⟩⟩⟩⟩⟩⟩⟩⟩⟩
def xcdW (q : xMd) : Cond := .code q.2.1 q.2.2.1 q.2.2.2.1 q.2.2.2.2.1
set_option maxRecDepth 100000 in
theorem xcd_0 : lw_tbl[273]? = some (xcdW xms_0) := rfl
set_option maxRecDepth 100000 in
theorem xcd_1 : lw_tbl[277]? = some (xcdW xms_1) := rfl
set_option maxRecDepth 100000 in
theorem xcd_2 : lw_tbl[419]? = some (xcdW xms_2) := rfl
set_option maxRecDepth 100000 in
theorem xcd_3 : lw_tbl[334]? = some (xcdW xms_3) := rfl
set_option maxRecDepth 100000 in
theorem xcd_4 : lw_tbl[322]? = some (xcdW xms_4) := rfl
set_option maxRecDepth 100000 in
theorem xcd_5 : lw_tbl[362]? = some (xcdW xms_5) := rfl
set_option maxRecDepth 100000 in
theorem xcd_6 : lw_tbl[439]? = some (xcdW xms_6) := rfl
set_option maxRecDepth 100000 in
theorem xcd_7 : lw_tbl[310]? = some (xcdW xms_7) := rfl
set_option maxRecDepth 100000 in
theorem xcd_8 : lw_tbl[306]? = some (xcdW xms_8) := rfl
set_option maxRecDepth 100000 in
theorem xcd_9 : lw_tbl[254]? = some (xcdW xms_9) := rfl
set_option maxRecDepth 100000 in
theorem xcd_10 : lw_tbl[261]? = some (xcdW xms_10) := rfl
set_option maxRecDepth 100000 in
theorem xcd_11 : lw_tbl[257]? = some (xcdW xms_11) := rfl
set_option maxRecDepth 100000 in
theorem xcd_12 : lw_tbl[265]? = some (xcdW xms_12) := rfl
set_option maxRecDepth 100000 in
theorem xcd_13 : lw_tbl[281]? = some (xcdW xms_13) := rfl
set_option maxRecDepth 100000 in
theorem xcd_14 : lw_tbl[484]? = some (xcdW xms_14) := rfl
set_option maxRecDepth 100000 in
theorem xcd_15 : lw_tbl[450]? = some (xcdW xms_15) := rfl
set_option maxRecDepth 100000 in
theorem xcd_16 : lw_tbl[269]? = some (xcdW xms_16) := rfl
set_option maxRecDepth 100000 in
theorem xcd_17 : lw_tbl[285]? = some (xcdW xms_17) := rfl
set_option maxRecDepth 100000 in
theorem xcd_18 : lw_tbl[366]? = some (xcdW xms_18) := rfl
set_option maxRecDepth 100000 in
theorem xcd_19 : lw_tbl[370]? = some (xcdW xms_19) := rfl
set_option maxRecDepth 100000 in
theorem xcd_20 : lw_tbl[373]? = some (xcdW xms_20) := rfl
set_option maxRecDepth 100000 in
theorem xcd_21 : lw_tbl[377]? = some (xcdW xms_21) := rfl
set_option maxRecDepth 100000 in
theorem xcd_22 : lw_tbl[480]? = some (xcdW xms_22) := rfl
set_option maxRecDepth 100000 in
theorem xcd_23 : lw_tbl[289]? = some (xcdW xms_23) := rfl
set_option maxRecDepth 100000 in
theorem xcd_24 : lw_tbl[358]? = some (xcdW xms_24) := rfl
set_option maxRecDepth 100000 in
theorem xcd_25 : lw_tbl[293]? = some (xcdW xms_25) := rfl
set_option maxRecDepth 100000 in
theorem xcd_26 : lw_tbl[297]? = some (xcdW xms_26) := rfl
set_option maxRecDepth 100000 in
theorem xcd_27 : lw_tbl[300]? = some (xcdW xms_27) := rfl
set_option maxRecDepth 100000 in
theorem xcd_28 : lw_tbl[314]? = some (xcdW xms_28) := rfl
set_option maxRecDepth 100000 in
theorem xcd_29 : lw_tbl[318]? = some (xcdW xms_29) := rfl
set_option maxRecDepth 100000 in
theorem xcd_30 : lw_tbl[326]? = some (xcdW xms_30) := rfl
set_option maxRecDepth 100000 in
theorem xcd_31 : lw_tbl[330]? = some (xcdW xms_31) := rfl
set_option maxRecDepth 100000 in
theorem xcd_32 : lw_tbl[346]? = some (xcdW xms_32) := rfl
set_option maxRecDepth 100000 in
theorem xcd_33 : lw_tbl[338]? = some (xcdW xms_33) := rfl
set_option maxRecDepth 100000 in
theorem xcd_34 : lw_tbl[350]? = some (xcdW xms_34) := rfl
set_option maxRecDepth 100000 in
theorem xcd_35 : lw_tbl[354]? = some (xcdW xms_35) := rfl
set_option maxRecDepth 100000 in
theorem xcd_36 : lw_tbl[342]? = some (xcdW xms_36) := rfl
set_option maxRecDepth 100000 in
theorem xcd_37 : lw_tbl[381]? = some (xcdW xms_37) := rfl
set_option maxRecDepth 100000 in
theorem xcd_38 : lw_tbl[388]? = some (xcdW xms_38) := rfl
set_option maxRecDepth 100000 in
theorem xcd_39 : lw_tbl[385]? = some (xcdW xms_39) := rfl
set_option maxRecDepth 100000 in
theorem xcd_40 : lw_tbl[399]? = some (xcdW xms_40) := rfl
set_option maxRecDepth 100000 in
theorem xcd_41 : lw_tbl[443]? = some (xcdW xms_41) := rfl
set_option maxRecDepth 100000 in
theorem xcd_42 : lw_tbl[469]? = some (xcdW xms_42) := rfl
set_option maxRecDepth 100000 in
theorem xcd_43 : lw_tbl[472]? = some (xcdW xms_43) := rfl
set_option maxRecDepth 100000 in
theorem xcd_44 : lw_tbl[392]? = some (xcdW xms_44) := rfl
set_option maxRecDepth 100000 in
theorem xcd_45 : lw_tbl[403]? = some (xcdW xms_45) := rfl
set_option maxRecDepth 100000 in
theorem xcd_46 : lw_tbl[407]? = some (xcdW xms_46) := rfl
set_option maxRecDepth 100000 in
theorem xcd_47 : lw_tbl[411]? = some (xcdW xms_47) := rfl
set_option maxRecDepth 100000 in
theorem xcd_48 : lw_tbl[415]? = some (xcdW xms_48) := rfl
set_option maxRecDepth 100000 in
theorem xcd_49 : lw_tbl[425]? = some (xcdW xms_49) := rfl
set_option maxRecDepth 100000 in
theorem xcd_50 : lw_tbl[429]? = some (xcdW xms_50) := rfl
set_option maxRecDepth 100000 in
theorem xcd_51 : lw_tbl[432]? = some (xcdW xms_51) := rfl
set_option maxRecDepth 100000 in
theorem xcd_52 : lw_tbl[435]? = some (xcdW xms_52) := rfl
set_option maxRecDepth 100000 in
theorem xcd_53 : lw_tbl[447]? = some (xcdW xms_53) := rfl
set_option maxRecDepth 100000 in
theorem xcd_54 : lw_tbl[453]? = some (xcdW xms_54) := rfl
set_option maxRecDepth 100000 in
theorem xcd_55 : lw_tbl[457]? = some (xcdW xms_55) := rfl
set_option maxRecDepth 100000 in
theorem xcd_56 : lw_tbl[461]? = some (xcdW xms_56) := rfl
set_option maxRecDepth 100000 in
theorem xcd_57 : lw_tbl[465]? = some (xcdW xms_57) := rfl
set_option maxRecDepth 100000 in
theorem xcd_58 : lw_tbl[476]? = some (xcdW xms_58) := rfl
set_option maxRecDepth 100000 in
theorem xcd_59 : lw_tbl[488]? = some (xcdW xms_59) := rfl
set_option maxRecDepth 100000 in
theorem xcd_60 : lw_tbl[492]? = some (xcdW xms_60) := rfl
set_option maxRecDepth 100000 in
theorem xcd_61 : lw_tbl[496]? = some (xcdW xms_61) := rfl
set_option maxRecDepth 100000 in
theorem xcd_62 : lw_tbl[500]? = some (xcdW xms_62) := rfl
set_option maxRecDepth 100000 in
theorem xcd_63 : lw_tbl[504]? = some (xcdW xms_63) := rfl
set_option maxRecDepth 100000 in
theorem xcd_64 : lw_tbl[508]? = some (xcdW xms_64) := rfl
set_option maxRecDepth 100000 in
theorem xcd_65 : lw_tbl[512]? = some (xcdW xms_65) := rfl
set_option maxRecDepth 100000 in
theorem xcd_66 : lw_tbl[516]? = some (xcdW xms_66) := rfl
set_option maxRecDepth 100000 in
theorem xcd_67 : lw_tbl[520]? = some (xcdW xms_67) := rfl
set_option maxRecDepth 100000 in
theorem xcd_68 : lw_tbl[524]? = some (xcdW xms_68) := rfl
set_option maxRecDepth 100000 in
theorem xcd_69 : lw_tbl[663]? = some (xcdW xms_69) := rfl
set_option maxRecDepth 100000 in
theorem xcd_70 : lw_tbl[659]? = some (xcdW xms_70) := rfl
set_option maxRecDepth 100000 in
theorem xcd_71 : lw_tbl[667]? = some (xcdW xms_71) := rfl
set_option maxRecDepth 100000 in
theorem xcd_72 : lw_tbl[675]? = some (xcdW xms_72) := rfl
set_option maxRecDepth 100000 in
theorem xcd_73 : lw_tbl[745]? = some (xcdW xms_73) := rfl
set_option maxRecDepth 100000 in
theorem xcd_74 : lw_tbl[753]? = some (xcdW xms_74) := rfl
set_option maxRecDepth 100000 in
theorem xcd_75 : lw_tbl[749]? = some (xcdW xms_75) := rfl
set_option maxRecDepth 100000 in
theorem xcd_76 : lw_tbl[671]? = some (xcdW xms_76) := rfl
set_option maxRecDepth 100000 in
theorem xcd_77 : lw_tbl[684]? = some (xcdW xms_77) := rfl
set_option maxRecDepth 100000 in
theorem xcd_78 : lw_tbl[718]? = some (xcdW xms_78) := rfl
set_option maxRecDepth 100000 in
theorem xcd_79 : lw_tbl[688]? = some (xcdW xms_79) := rfl
set_option maxRecDepth 100000 in
theorem xcd_80 : lw_tbl[692]? = some (xcdW xms_80) := rfl
set_option maxRecDepth 100000 in
theorem xcd_81 : lw_tbl[698]? = some (xcdW xms_81) := rfl
set_option maxRecDepth 100000 in
theorem xcd_82 : lw_tbl[714]? = some (xcdW xms_82) := rfl
set_option maxRecDepth 100000 in
theorem xcd_83 : lw_tbl[710]? = some (xcdW xms_83) := rfl
set_option maxRecDepth 100000 in
theorem xcd_84 : lw_tbl[702]? = some (xcdW xms_84) := rfl
set_option maxRecDepth 100000 in
theorem xcd_85 : lw_tbl[722]? = some (xcdW xms_85) := rfl
set_option maxRecDepth 100000 in
theorem xcd_86 : lw_tbl[706]? = some (xcdW xms_86) := rfl
set_option maxRecDepth 100000 in
theorem xcd_87 : lw_tbl[679]? = some (xcdW xms_87) := rfl
set_option maxRecDepth 100000 in
theorem xcd_88 : lw_tbl[726]? = some (xcdW xms_88) := rfl
set_option maxRecDepth 100000 in
theorem xcd_89 : lw_tbl[730]? = some (xcdW xms_89) := rfl
set_option maxRecDepth 100000 in
theorem xcd_90 : lw_tbl[737]? = some (xcdW xms_90) := rfl
set_option maxRecDepth 100000 in
theorem xcd_91 : lw_tbl[734]? = some (xcdW xms_91) := rfl
set_option maxRecDepth 100000 in
theorem xcd_92 : lw_tbl[774]? = some (xcdW xms_92) := rfl
set_option maxRecDepth 100000 in
theorem xcd_93 : lw_tbl[741]? = some (xcdW xms_93) := rfl
set_option maxRecDepth 100000 in
theorem xcd_94 : lw_tbl[757]? = some (xcdW xms_94) := rfl
set_option maxRecDepth 100000 in
theorem xcd_95 : lw_tbl[765]? = some (xcdW xms_95) := rfl
set_option maxRecDepth 100000 in
theorem xcd_96 : lw_tbl[761]? = some (xcdW xms_96) := rfl
set_option maxRecDepth 100000 in
theorem xcd_97 : lw_tbl[769]? = some (xcdW xms_97) := rfl
set_option maxRecDepth 100000 in
theorem xcd_98 : lw_tbl[780]? = some (xcdW xms_98) := rfl
set_option maxRecDepth 100000 in
theorem xcd_99 : lw_tbl[784]? = some (xcdW xms_99) := rfl
set_option maxRecDepth 100000 in
theorem xcd_100 : lw_tbl[788]? = some (xcdW xms_100) := rfl
set_option maxRecDepth 100000 in
theorem xcd_101 : lw_tbl[793]? = some (xcdW xms_101) := rfl
set_option maxRecDepth 100000 in
theorem xcd_102 : lw_tbl[797]? = some (xcdW xms_102) := rfl
set_option maxRecDepth 100000 in
theorem xcd_103 : lw_tbl[802]? = some (xcdW xms_103) := rfl
set_option maxRecDepth 100000 in
theorem xcd_104 : lw_tbl[806]? = some (xcdW xms_104) := rfl
set_option maxRecDepth 100000 in
theorem xcd_105 : lw_tbl[810]? = some (xcdW xms_105) := rfl
set_option maxRecDepth 100000 in
theorem xcd_106 : lw_tbl[814]? = some (xcdW xms_106) := rfl
set_option maxRecDepth 100000 in
theorem xcd_107 : lw_tbl[822]? = some (xcdW xms_107) := rfl
set_option maxRecDepth 100000 in
theorem xcd_108 : lw_tbl[818]? = some (xcdW xms_108) := rfl
theorem xcd_all : ∀ q ∈ xms, xcdW q ∈ lw_tbl := List.forall_mem_cons.mpr ⟨List.mem_of_getElem? xcd_0, List.forall_mem_cons.mpr ⟨List.mem_of_getElem? xcd_1, List.forall_mem_cons.mpr ⟨List.mem_of_getElem? xcd_2, List.forall_mem_cons.mpr ⟨List.mem_of_getElem? xcd_3, List.forall_mem_cons.mpr ⟨List.mem_of_getElem? xcd_4, List.forall_mem_cons.mpr ⟨List.mem_of_getElem? xcd_5, List.forall_mem_cons.mpr ⟨List.mem_of_getElem? xcd_6, List.forall_mem_cons.mpr ⟨List.mem_of_getElem? xcd_7, List.forall_mem_cons.mpr ⟨List.mem_of_getElem? xcd_8, List.forall_mem_cons.mpr ⟨List.mem_of_getElem? xcd_9, List.forall_mem_cons.mpr ⟨List.mem_of_getElem? xcd_10, List.forall_mem_cons.mpr ⟨List.mem_of_getElem? xcd_11, List.forall_mem_cons.mpr ⟨List.mem_of_getElem? xcd_12, List.forall_mem_cons.mpr ⟨List.mem_of_getElem? xcd_13, List.forall_mem_cons.mpr ⟨List.mem_of_getElem? xcd_14, List.forall_mem_cons.mpr ⟨List.mem_of_getElem? xcd_15, List.forall_mem_cons.mpr ⟨List.mem_of_getElem? xcd_16, List.forall_mem_cons.mpr ⟨List.mem_of_getElem? xcd_17, List.forall_mem_cons.mpr ⟨List.mem_of_getElem? xcd_18, List.forall_mem_cons.mpr ⟨List.mem_of_getElem? xcd_19, List.forall_mem_cons.mpr ⟨List.mem_of_getElem? xcd_20, List.forall_mem_cons.mpr ⟨List.mem_of_getElem? xcd_21, List.forall_mem_cons.mpr ⟨List.mem_of_getElem? xcd_22, List.forall_mem_cons.mpr ⟨List.mem_of_getElem? xcd_23, List.forall_mem_cons.mpr ⟨List.mem_of_getElem? xcd_24, List.forall_mem_cons.mpr ⟨List.mem_of_getElem? xcd_25, List.forall_mem_cons.mpr ⟨List.mem_of_getElem? xcd_26, List.forall_mem_cons.mpr ⟨List.mem_of_getElem? xcd_27, List.forall_mem_cons.mpr ⟨List.mem_of_getElem? xcd_28, List.forall_mem_cons.mpr ⟨List.mem_of_getElem? xcd_29, List.forall_mem_cons.mpr ⟨List.mem_of_getElem? xcd_30, List.forall_mem_cons.mpr ⟨List.mem_of_getElem? xcd_31, List.forall_mem_cons.mpr ⟨List.mem_of_getElem? xcd_32, List.forall_mem_cons.mpr ⟨List.mem_of_getElem? xcd_33, List.forall_mem_cons.mpr ⟨List.mem_of_getElem? xcd_34, List.forall_mem_cons.mpr ⟨List.mem_of_getElem? xcd_35, List.forall_mem_cons.mpr ⟨List.mem_of_getElem? xcd_36, List.forall_mem_cons.mpr ⟨List.mem_of_getElem? xcd_37, List.forall_mem_cons.mpr ⟨List.mem_of_getElem? xcd_38, List.forall_mem_cons.mpr ⟨List.mem_of_getElem? xcd_39, List.forall_mem_cons.mpr ⟨List.mem_of_getElem? xcd_40, List.forall_mem_cons.mpr ⟨List.mem_of_getElem? xcd_41, List.forall_mem_cons.mpr ⟨List.mem_of_getElem? xcd_42, List.forall_mem_cons.mpr ⟨List.mem_of_getElem? xcd_43, List.forall_mem_cons.mpr ⟨List.mem_of_getElem? xcd_44, List.forall_mem_cons.mpr ⟨List.mem_of_getElem? xcd_45, List.forall_mem_cons.mpr ⟨List.mem_of_getElem? xcd_46, List.forall_mem_cons.mpr ⟨List.mem_of_getElem? xcd_47, List.forall_mem_cons.mpr ⟨List.mem_of_getElem? xcd_48, List.forall_mem_cons.mpr ⟨List.mem_of_getElem? xcd_49, List.forall_mem_cons.mpr ⟨List.mem_of_getElem? xcd_50, List.forall_mem_cons.mpr ⟨List.mem_of_getElem? xcd_51, List.forall_mem_cons.mpr ⟨List.mem_of_getElem? xcd_52, List.forall_mem_cons.mpr ⟨List.mem_of_getElem? xcd_53, List.forall_mem_cons.mpr ⟨List.mem_of_getElem? xcd_54, List.forall_mem_cons.mpr ⟨List.mem_of_getElem? xcd_55, List.forall_mem_cons.mpr ⟨List.mem_of_getElem? xcd_56, List.forall_mem_cons.mpr ⟨List.mem_of_getElem? xcd_57, List.forall_mem_cons.mpr ⟨List.mem_of_getElem? xcd_58, List.forall_mem_cons.mpr ⟨List.mem_of_getElem? xcd_59, List.forall_mem_cons.mpr ⟨List.mem_of_getElem? xcd_60, List.forall_mem_cons.mpr ⟨List.mem_of_getElem? xcd_61, List.forall_mem_cons.mpr ⟨List.mem_of_getElem? xcd_62, List.forall_mem_cons.mpr ⟨List.mem_of_getElem? xcd_63, List.forall_mem_cons.mpr ⟨List.mem_of_getElem? xcd_64, List.forall_mem_cons.mpr ⟨List.mem_of_getElem? xcd_65, List.forall_mem_cons.mpr ⟨List.mem_of_getElem? xcd_66, List.forall_mem_cons.mpr ⟨List.mem_of_getElem? xcd_67, List.forall_mem_cons.mpr ⟨List.mem_of_getElem? xcd_68, List.forall_mem_cons.mpr ⟨List.mem_of_getElem? xcd_69, List.forall_mem_cons.mpr ⟨List.mem_of_getElem? xcd_70, List.forall_mem_cons.mpr ⟨List.mem_of_getElem? xcd_71, List.forall_mem_cons.mpr ⟨List.mem_of_getElem? xcd_72, List.forall_mem_cons.mpr ⟨List.mem_of_getElem? xcd_73, List.forall_mem_cons.mpr ⟨List.mem_of_getElem? xcd_74, List.forall_mem_cons.mpr ⟨List.mem_of_getElem? xcd_75, List.forall_mem_cons.mpr ⟨List.mem_of_getElem? xcd_76, List.forall_mem_cons.mpr ⟨List.mem_of_getElem? xcd_77, List.forall_mem_cons.mpr ⟨List.mem_of_getElem? xcd_78, List.forall_mem_cons.mpr ⟨List.mem_of_getElem? xcd_79, List.forall_mem_cons.mpr ⟨List.mem_of_getElem? xcd_80, List.forall_mem_cons.mpr ⟨List.mem_of_getElem? xcd_81, List.forall_mem_cons.mpr ⟨List.mem_of_getElem? xcd_82, List.forall_mem_cons.mpr ⟨List.mem_of_getElem? xcd_83, List.forall_mem_cons.mpr ⟨List.mem_of_getElem? xcd_84, List.forall_mem_cons.mpr ⟨List.mem_of_getElem? xcd_85, List.forall_mem_cons.mpr ⟨List.mem_of_getElem? xcd_86, List.forall_mem_cons.mpr ⟨List.mem_of_getElem? xcd_87, List.forall_mem_cons.mpr ⟨List.mem_of_getElem? xcd_88, List.forall_mem_cons.mpr ⟨List.mem_of_getElem? xcd_89, List.forall_mem_cons.mpr ⟨List.mem_of_getElem? xcd_90, List.forall_mem_cons.mpr ⟨List.mem_of_getElem? xcd_91, List.forall_mem_cons.mpr ⟨List.mem_of_getElem? xcd_92, List.forall_mem_cons.mpr ⟨List.mem_of_getElem? xcd_93, List.forall_mem_cons.mpr ⟨List.mem_of_getElem? xcd_94, List.forall_mem_cons.mpr ⟨List.mem_of_getElem? xcd_95, List.forall_mem_cons.mpr ⟨List.mem_of_getElem? xcd_96, List.forall_mem_cons.mpr ⟨List.mem_of_getElem? xcd_97, List.forall_mem_cons.mpr ⟨List.mem_of_getElem? xcd_98, List.forall_mem_cons.mpr ⟨List.mem_of_getElem? xcd_99, List.forall_mem_cons.mpr ⟨List.mem_of_getElem? xcd_100, List.forall_mem_cons.mpr ⟨List.mem_of_getElem? xcd_101, List.forall_mem_cons.mpr ⟨List.mem_of_getElem? xcd_102, List.forall_mem_cons.mpr ⟨List.mem_of_getElem? xcd_103, List.forall_mem_cons.mpr ⟨List.mem_of_getElem? xcd_104, List.forall_mem_cons.mpr ⟨List.mem_of_getElem? xcd_105, List.forall_mem_cons.mpr ⟨List.mem_of_getElem? xcd_106, List.forall_mem_cons.mpr ⟨List.mem_of_getElem? xcd_107, List.forall_mem_cons.mpr ⟨List.mem_of_getElem? xcd_108, fun _ h => absurd h List.not_mem_nil⟩⟩⟩⟩⟩⟩⟩⟩⟩⟩⟩⟩⟩⟩⟩⟩⟩⟩⟩⟩⟩⟩⟩⟩⟩⟩⟩⟩⟩⟩⟩⟩⟩⟩⟩⟩⟩⟩⟩⟩⟩⟩⟩⟩⟩⟩⟩⟩⟩⟩⟩⟩⟩⟩⟩⟩⟩⟩⟩⟩⟩⟩⟩⟩⟩⟩⟩⟩⟩⟩⟩⟩⟩⟩⟩⟩⟩⟩⟩⟩⟩⟩⟩⟩⟩⟩⟩⟩⟩⟩⟩⟩⟩⟩⟩⟩⟩⟩⟩⟩⟩⟩⟩⟩⟩⟩⟩⟩⟩
end
section
set_option maxRecDepth 100000 in
theorem xlay_0 : u_ws RX0 TX0 19 = [154, 156, 158, 160, 162, 164, 166, 168, 170, 172, 174, 176, 178, 180, 182, 184, 186, 188, 190].filterMap (fun i => lw_tbl[i]?) := by decide +kernel
set_option maxRecDepth 100000 in
theorem xlag_0 : (u_ws RX0 TX0 19).all goodWord = true := by decide +kernel
set_option maxRecDepth 100000 in
theorem xlay_1 : u_ws RX1 TX1 4 = [101, 103, 105, 107].filterMap (fun i => lw_tbl[i]?) := by decide +kernel
set_option maxRecDepth 100000 in
theorem xlag_1 : (u_ws RX1 TX1 4).all goodWord = true := by decide +kernel
set_option maxRecDepth 100000 in
theorem xlay_2 : u_ws RX2 TX2 19 = [212, 214, 216, 218, 220, 222, 224, 226, 228, 230, 232, 234, 236, 238, 240, 242, 244, 246, 248].filterMap (fun i => lw_tbl[i]?) := by decide +kernel
set_option maxRecDepth 100000 in
theorem xlag_2 : (u_ws RX2 TX2 19).all goodWord = true := by decide +kernel
set_option maxRecDepth 100000 in
theorem xlay_3 : u_ws RX3 TX3 41 = [572, 574, 576, 578, 580, 582, 584, 586, 588, 590, 592, 594, 596, 598, 600, 602, 604, 606, 608, 610, 612, 614, 616, 618, 620, 622, 624, 626, 628, 630, 632, 634, 636, 638, 640, 642, 644, 646, 648, 650, 652].filterMap (fun i => lw_tbl[i]?) := by decide +kernel
set_option maxRecDepth 100000 in
theorem xlag_3 : (u_ws RX3 TX3 41).all goodWord = true := by decide +kernel
end
section
set_option maxRecDepth 100000 in
theorem xac_nat : Cond.native arraycopyName ∈ lw_tbl := List.mem_of_getElem? (i := 422) (by decide +kernel)
set_option maxRecDepth 100000 in
theorem xac_sta : Cond.static arraycopyName ∈ lw_tbl := List.mem_of_getElem? (i := 421) (by decide +kernel)
set_option maxRecDepth 100000 in
theorem xac_ini : Cond.initialized "java/lang/System" ∈ lw_tbl := List.mem_of_getElem? (i := 76) (by decide +kernel)
set_option maxRecDepth 100000 in
theorem xmm_sta : Cond.static Lib.Math.min.name ∈ lw_tbl := List.mem_of_getElem? (i := 394) (by decide +kernel)
set_option maxRecDepth 100000 in
theorem xmm_ini : Cond.initialized "java/lang/Math" ∈ lw_tbl := List.mem_of_getElem? (i := 75) (by decide +kernel)
set_option maxRecDepth 100000 in
theorem xmm_cod : Cond.code Lib.Math.min.name Lib.Math.min.code 2 (some .int) ∈ lw_tbl := List.mem_of_getElem? (i := 395) (by decide +kernel)
end
section
/-! A SMALL MACHINE over a closed world: cells are named (tag, index), nothing is made. What it computes, the JVM does (parts behind). -/
abbrev xV : Type := Int32 ⊕ (Int64 ⊕ Option (Nat × Nat))
abbrev xM : Type := (Nat → Nat → Nat → Int32) × (Nat → Nat → Nat → Int64) × (Nat → Nat → Nat → Option Nat)
abbrev xLs : Type := List (Option xV)
abbrev xC : Type := Nat × xLs × List xV × xM
/-- what a step is: on; an end with an answer; a call: of whom, with what, where it goes on -/
abbrev xS : Type := xC ⊕ ((Option xV × xM) ⊕ (Nat × List xV × Nat × xLs × List xV × xM))
abbrev vI (x : Int32) : xV := .inl x
abbrev vL (x : Int64) : xV := .inr (.inl x)
abbrev vR (t e : Nat) : xV := .inr (.inr (some (t, e)))
abbrev vN : xV := .inr (.inr none)
abbrev vO (t : Nat) (o : Option Nat) : xV := .inr (.inr (o.map fun e => (t, e)))
abbrev sN (pc : Nat) (L : xLs) (st : List xV) (M : xM) : Option xS := some (.inl (pc, L, st, M))
def xu {α : Type} (f : Nat → Nat → Nat → α) (t e k : Nat) (v : α) : Nat → Nat → Nat → α := fun t' e' k' => if t' = t ∧ e' = e ∧ k' = k then v else f t' e' k'
def mI (M : xM) (t e k : Nat) (v : Int32) : xM := (xu M.1 t e k v, M.2)
def mJ (M : xM) (t e k : Nat) (v : Int64) : xM := (M.1, xu M.2.1 t e k v, M.2.2)
def mR (M : xM) (t e k : Nat) (v : Option Nat) : xM := (M.1, M.2.1, xu M.2.2 t e k v)
/-- the cells t', e' of M come from t, e: a row of ints is copied -/
def mC (M : xM) (t e t' e' sp dp n : Nat) : xM := (fun a b k => if a = t' ∧ b = e' then va_cpy (M.1 t e) (M.1 t' e') sp dp n k else M.1 a b k, M.2)
/-- of which system a tag is: the class's (0), the reference's (1) -/
def xsy (t : Nat) : Nat := if t < 20 then 0 else 1
/-- of which system a method is; how many cells of a tag it can reach -/
def xsj (j : Nat) : Nat := if xmo j = 3 then 1 else 0
def xcm (j t : Nat) : Nat := if xsy t = xsj j then xcn t else 0
def xtg (pc : Nat) (off : Int) : Option Nat := if 0 ≤ (pc : Int) + off then some ((pc : Int) + off).toNat else none
def xns (L : xLs) (i : Nat) : Bool := match i with
  | 0 => true
  | k + 1 => match L[k]? with
    | some (some (.inr (.inl _))) => false
    | _ => true
def xst (L : xLs) (i : Nat) (v : xV) : Option xLs := if xns L i = true ∧ i < L.length then some (L.set i (some v)) else none
def xld (pc : Nat) (L : xLs) (st : List xV) (M : xM) (i : Nat) : Option xS := match L[i]? with
  | some (some v) => sN pc L (v :: st) M
  | _ => none
def xcmp (c : ClassFile.Cond) (x y : Int32) : Prop := match c with
  | .eq => x = y
  | .ne => ¬ x = y
  | .lt => x < y
  | .ge => y ≤ x
  | .gt => y < x
  | .le => x ≤ y
def xcmpD (c : ClassFile.Cond) (x y : Int32) : Decidable (xcmp c x y) := match c with
  | .eq => inferInstanceAs (Decidable (x = y))
  | .ne => inferInstanceAs (Decidable (¬ x = y))
  | .lt => inferInstanceAs (Decidable (x < y))
  | .ge => inferInstanceAs (Decidable (y ≤ x))
  | .gt => inferInstanceAs (Decidable (y < x))
  | .le => inferInstanceAs (Decidable (x ≤ y))
def xbr (pc : Nat) (off : Int) (c : Prop) (dc : Decidable c) (L : xLs) (st : List xV) (M : xM) : Option xS := match xtg pc off with
  | some t => if c then sN t L st M else sN (pc + 3) L st M
  | none => none
def xb2 (f : Int32 → Int32 → Int32) (pc : Nat) (L : xLs) (st : List xV) (M : xM) : Option xS := match st with
  | .inl y :: .inl x :: r => sN (pc + 1) L (vI (f x y) :: r) M
  | _ => none
def xj2 (f : Int64 → Int64 → Int64) (pc : Nat) (L : xLs) (st : List xV) (M : xM) : Option xS := match st with
  | .inr (.inl y) :: .inr (.inl x) :: r => sN (pc + 1) L (vL (f x y) :: r) M
  | _ => none
def xldI (pc i : Nat) (L : xLs) (st : List xV) (M : xM) : Option xS := match L[i]? with
  | some (some (.inl x)) => sN pc L (vI x :: st) M
  | _ => none
def xldJ (pc i : Nat) (L : xLs) (st : List xV) (M : xM) : Option xS := match L[i]? with
  | some (some (.inr (.inl x))) => sN pc L (vL x :: st) M
  | _ => none
def xldA (pc i : Nat) (L : xLs) (st : List xV) (M : xM) : Option xS := match L[i]? with
  | some (some (.inr (.inr o))) => sN pc L (.inr (.inr o) :: st) M
  | _ => none
def xstI (pc i : Nat) (L : xLs) (st : List xV) (M : xM) : Option xS := match st with
  | .inl x :: r => match xst L i (vI x) with
    | some L' => sN pc L' r M
    | none => none
  | _ => none
def xstA (pc i : Nat) (L : xLs) (st : List xV) (M : xM) : Option xS := match st with
  | .inr (.inr o) :: r => match xst L i (.inr (.inr o)) with
    | some L' => sN pc L' r M
    | none => none
  | _ => none
/-- what a field of a cell is -/
def xgv (M : xM) (t e k : Nat) : Option xV := match (xfk t)[k]? with
  | some r => if r ≤ 1 then some (vI (M.1 t e k)) else if r = 2 then some (vL (M.2.1 t e k)) else if r < 100 then some (vO (r - 10) (M.2.2 t e k)) else some (vR (r - 100) e)
  | none => none
def xget (j idx pc : Nat) (L : xLs) (st : List xV) (M : xM) : Option xS := match st with
  | .inr (.inr (some (t, e))) :: r => match xfl (xmo j) idx with
    | some (t', k, _) => if t = t' ∧ e < xcm j t then (match xgv M t e k with
      | some v => sN (pc + 3) L (v :: r) M
      | none => none) else none
    | none => none
  | _ => none
/-- a field set: what the memory is then -/
def xpv (M : xM) (t e k : Nat) (v : xV) : Option xM := match (xfk t)[k]?, v with
  | some 0, .inl x => some (mI M t e k x)
  | some 1, .inl x => if x = 0 ∨ x = 1 then some (mI M t e k x) else none
  | some 2, .inr (.inl x) => some (mJ M t e k x)
  | some r, .inr (.inr none) => if 10 ≤ r ∧ r < 100 then some (mR M t e k none) else none
  | some r, .inr (.inr (some (t', e'))) => if 10 ≤ r ∧ r < 100 ∧ t' = r - 10 then some (mR M t e k (some e')) else none
  | _, _ => none
def xput (j idx pc : Nat) (L : xLs) (st : List xV) (M : xM) : Option xS := match st with
  | v :: .inr (.inr (some (t, e))) :: r => match xfl (xmo j) idx with
    | some (t', k, _) => if t = t' ∧ e < xcm j t then (match xpv M t e k v with
      | some M' => sN (pc + 3) L r M'
      | none => none) else none
    | none => none
  | _ => none
def xinb (i : Int32) (n : Nat) : Bool := decide (¬ i < 0) && decide (i.toNatClampNeg < n)
def xalI (j ek pc : Nat) (L : xLs) (st : List xV) (M : xM) : Option xS := match st with
  | .inl i :: .inr (.inr (some (t, e))) :: r => if xob t = none ∧ xek t = ek ∧ e < xcm j t ∧ xinb i (xal t) = true then sN (pc + 1) L (vI (M.1 t e i.toNatClampNeg) :: r) M else none
  | _ => none
def xalJ (j pc : Nat) (L : xLs) (st : List xV) (M : xM) : Option xS := match st with
  | .inl i :: .inr (.inr (some (t, e))) :: r => if xob t = none ∧ xek t = 2 ∧ e < xcm j t ∧ xinb i (xal t) = true then sN (pc + 1) L (vL (M.2.1 t e i.toNatClampNeg) :: r) M else none
  | _ => none
def xalA (j pc : Nat) (L : xLs) (st : List xV) (M : xM) : Option xS := match st with
  | .inl i :: .inr (.inr (some (t, e))) :: r => if xob t = none ∧ 10 ≤ xek t ∧ e < xcm j t ∧ xinb i (xal t) = true then sN (pc + 1) L ((if xek t < 100 then vO (xek t - 10) (M.2.2 t e i.toNatClampNeg) else vR (xek t - 100) i.toNatClampNeg) :: r) M else none
  | _ => none
def xasI (j ek pc : Nat) (L : xLs) (st : List xV) (M : xM) : Option xS := match st with
  | .inl x :: .inl i :: .inr (.inr (some (t, e))) :: r => if xob t = none ∧ xek t = ek ∧ e < xcm j t ∧ xinb i (xal t) = true ∧ (ek = 1 → x = 0 ∨ x = 1) then sN (pc + 1) L r (mI M t e i.toNatClampNeg x) else none
  | _ => none
def xasJ (j pc : Nat) (L : xLs) (st : List xV) (M : xM) : Option xS := match st with
  | .inr (.inl x) :: .inl i :: .inr (.inr (some (t, e))) :: r => if xob t = none ∧ xek t = 2 ∧ e < xcm j t ∧ xinb i (xal t) = true then sN (pc + 1) L r (mJ M t e i.toNatClampNeg x) else none
  | _ => none
def xasA (j pc : Nat) (L : xLs) (st : List xV) (M : xM) : Option xS := match st with
  | .inr (.inr o) :: .inl i :: .inr (.inr (some (t, e))) :: r => if xob t = none ∧ 10 ≤ xek t ∧ xek t < 100 ∧ e < xcm j t ∧ xinb i (xal t) = true then (match o with
    | none => sN (pc + 1) L r (mR M t e i.toNatClampNeg none)
    | some (t', e') => if t' = xek t - 10 ∧ e' < xcm j t' then sN (pc + 1) L r (mR M t e i.toNatClampNeg (some e')) else none) else none
  | _ => none
def xlen (j pc : Nat) (L : xLs) (st : List xV) (M : xM) : Option xS := match st with
  | .inr (.inr (some (t, e))) :: r => if xob t = none ∧ e < xcm j t then sN (pc + 1) L (vI (Int32.ofNat (xal t)) :: r) M else none
  | _ => none
def xcopy (j pc : Nat) (L : xLs) (st : List xV) (M : xM) : Option xS := match st with
  | .inl n :: .inl dp :: .inr (.inr (some (t', e'))) :: .inl sp :: .inr (.inr (some (t, e))) :: r =>
    if (xob t = none ∧ xek t = 0 ∧ e < xcm j t) ∧ (xob t' = none ∧ xek t' = 0 ∧ e' < xcm j t') ∧ (¬ sp < 0 ∧ ¬ dp < 0 ∧ ¬ n < 0) ∧ sp.toNatClampNeg + n.toNatClampNeg ≤ xal t ∧ dp.toNatClampNeg + n.toNatClampNeg ≤ xal t' ∧ r.length ≤ 4 then sN (pc + 3) L r (mC M t e t' e' sp.toNatClampNeg dp.toNatClampNeg n.toNatClampNeg) else none
  | _ => none
def xmin (pc : Nat) (L : xLs) (st : List xV) (M : xM) : Option xS := match st with
  | .inl y :: .inl x :: r => if r.length ≤ 4 then sN (pc + 3) L (vI (if y < x then y else x) :: r) M else none
  | _ => none
def xsl : List xV → xLs
  | [] => []
  | .inr (.inl x) :: r => some (vL x) :: none :: xsl r
  | .inl x :: r => some (vI x) :: xsl r
  | .inr (.inr o) :: r => some (.inr (.inr o)) :: xsl r
def xen (k : Nat) (as : List xV) : xLs := xsl as ++ List.replicate (xmL k - (xsl as).length) none
def xcall (k pc : Nat) (as : List xV) (L : xLs) (r : List xV) (M : xM) : Option xS :=
  if (xsl as).length ≤ xmL k ∧ r.length ≤ 4 then some (.inr (.inr (k, as, pc + 3, L, r, M))) else none
def xinv (j idx pc : Nat) (L : xLs) (st : List xV) (M : xM) : Option xS := match xml (xmo j) idx with
  | some (k, kd) => if kd < 2 ∧ xmn k ≤ st.length then (match st.drop (xmn k) with
    | .inr (.inr (some (t, e))) :: r => if xmt k = t + 1 ∧ e < xcm j t then xcall k pc (vR t e :: (st.take (xmn k)).reverse) L r M else none
    | _ => none) else none
  | none => none
def xins (d j idx pc : Nat) (L : xLs) (st : List xV) (M : xM) : Option xS := match xml (xmo j) idx with
  | some (k, kd) => if kd = 2 ∧ xmt k = 0 ∧ xmn k ≤ st.length then xcall k pc (st.take (xmn k)).reverse L (st.drop (xmn k)) M else none
  | none => if 0 < d ∧ (xmo j, idx) ∈ xacL then xcopy j pc L st M else if 0 < d ∧ (xmo j, idx) ∈ xmmL then xmin pc L st M else none
def xret (j : Nat) (st : List xV) (M : xM) : Option xS := match st with
  | [.inl x] => if xmr j = some .int ∨ (xmr j = some .boolean ∧ (x = 0 ∨ x = 1)) then some (.inr (.inl (some (vI x), M))) else none
  | _ => none
def xisO (r : Option FieldType) : Bool := match r with
  | some (.object _) => true
  | _ => false
def xreA (j : Nat) (st : List xV) (M : xM) : Option xS := match st with
  | [.inr (.inr o)] => if xisO (xmr j) = true then some (.inr (.inl (some (.inr (.inr o)), M))) else none
  | _ => none
def xsw (pc : Nat) (dflt lo hi : Int) (offs : Array Int) (L : xLs) (st : List xV) (M : xM) : Option xS := match st with
  | .inl x :: r => if x.toInt < lo ∨ hi < x.toInt then (match xtg pc dflt with
      | some t => sN t L r M
      | none => none) else (match offs[(x.toInt - lo).toNat]? with
      | some off => (match xtg pc off with
        | some t => sN t L r M
        | none => none)
      | none => none)
  | _ => none
def xvo (j : Nat) (o : Option (Nat × Nat)) : Bool := match o with
  | none => true
  | some q => decide (q.2 < xcm j q.1)
def xi (d j : Nat) (i : Instr) (pc : Nat) (L : xLs) (st : List xV) (M : xM) : Option xS := match i with
  | .iconst k => sN (pc + 1) L (vI (Int32.ofInt k) :: st) M
  | .bipush k => sN (pc + 2) L (vI (Int8.ofInt k).toInt32 :: st) M
  | .sipush k => sN (pc + 3) L (vI (Int16.ofInt k).toInt32 :: st) M
  | .lconst k => sN (pc + 1) L (vL (Int64.ofNat k) :: st) M
  | .ldc x => match xkc (xmo j) x with
    | some v => sN (pc + 2) L (vI v :: st) M
    | none => none
  | .ldc_w x => match xkc (xmo j) x with
    | some v => sN (pc + 3) L (vI v :: st) M
    | none => none
  | .ldc2_w x => match xkl (xmo j) x with
    | some v => sN (pc + 3) L (vL v :: st) M
    | none => none
  | .aconst_null => sN (pc + 1) L (vN :: st) M
  | .iload k => xldI (pc + 2) k L st M
  | .iload_n k => xldI (pc + 1) k L st M
  | .lload k => xldJ (pc + 2) k L st M
  | .lload_n k => xldJ (pc + 1) k L st M
  | .aload k => xldA (pc + 2) k L st M
  | .aload_n k => xldA (pc + 1) k L st M
  | .istore k => xstI (pc + 2) k L st M
  | .istore_n k => xstI (pc + 1) k L st M
  | .astore k => xstA (pc + 2) k L st M
  | .astore_n k => xstA (pc + 1) k L st M
  | .iinc k v => match L[k]? with
    | some (some (.inl x)) => match xst L k (vI (x + Int32.ofInt v)) with
      | some L' => sN (pc + 3) L' st M
      | none => none
    | _ => none
  | .iadd => xb2 (fun x y => x + y) pc L st M
  | .isub => xb2 (fun x y => x - y) pc L st M
  | .imul => xb2 (fun x y => x * y) pc L st M
  | .iand => xb2 (fun x y => x &&& y) pc L st M
  | .ior => xb2 (fun x y => x ||| y) pc L st M
  | .ixor => xb2 (fun x y => x ^^^ y) pc L st M
  | .ishl => xb2 (fun x y => x <<< (y &&& 31)) pc L st M
  | .ishr => xb2 (fun x y => x >>> (y &&& 31)) pc L st M
  | .irem => match st with
    | .inl y :: .inl x :: r => if y = 0 then none else sN (pc + 1) L (vI (x - x / y * y) :: r) M
    | _ => none
  | .ineg => match st with
    | .inl x :: r => sN (pc + 1) L (vI (-x) :: r) M
    | _ => none
  | .ladd => xj2 (fun x y => x + y) pc L st M
  | .lsub => xj2 (fun x y => x - y) pc L st M
  | .lcmp => match st with
    | .inr (.inl y) :: .inr (.inl x) :: r => sN (pc + 1) L (vI (lg_cmp x y) :: r) M
    | _ => none
  | .i2l => match st with
    | .inl x :: r => sN (pc + 1) L (vL x.toInt64 :: r) M
    | _ => none
  | .l2i => match st with
    | .inr (.inl x) :: r => sN (pc + 1) L (vI x.toInt32 :: r) M
    | _ => none
  | .dup => match st with
    | .inl x :: r => sN (pc + 1) L (vI x :: vI x :: r) M
    | .inr (.inr o) :: r => sN (pc + 1) L (.inr (.inr o) :: .inr (.inr o) :: r) M
    | _ => none
  | .dup2 => match st with
    | .inl x :: .inr (.inr o) :: r => sN (pc + 1) L (vI x :: .inr (.inr o) :: vI x :: .inr (.inr o) :: r) M
    | _ => none
  | .ifCond c off => match st with
    | .inl x :: r => xbr pc off (xcmp c x 0) (xcmpD c x 0) L r M
    | _ => none
  | .if_icmp c off => match st with
    | .inl y :: .inl x :: r => xbr pc off (xcmp c x y) (xcmpD c x y) L r M
    | _ => none
  | .ifnull off => match st with
    | .inr (.inr o) :: r => xbr pc off (o = none) (inferInstance) L r M
    | _ => none
  | .ifnonnull off => match st with
    | .inr (.inr o) :: r => xbr pc off (¬ o = none) (inferInstance) L r M
    | _ => none
  | .if_acmp c off => match st with
    | .inr (.inr o') :: .inr (.inr o) :: r => if xvo j o = true ∧ xvo j o' = true then (match c with
      | .eq => xbr pc off (o = o') (inferInstance) L r M
      | .ne => xbr pc off (¬ o = o') (inferInstance) L r M) else none
    | _ => none
  | .goto off => match xtg pc off with
    | some t => sN t L st M
    | none => none
  | .tableswitch dflt lo hi offs => xsw pc dflt lo hi offs L st M
  | .getfield x => xget j x pc L st M
  | .putfield x => xput j x pc L st M
  | .iaload => xalI j 0 pc L st M
  | .baload => xalI j 1 pc L st M
  | .laload => xalJ j pc L st M
  | .aaload => xalA j pc L st M
  | .iastore => xasI j 0 pc L st M
  | .bastore => xasI j 1 pc L st M
  | .lastore => xasJ j pc L st M
  | .aastore => xasA j pc L st M
  | .arraylength => xlen j pc L st M
  | .invokevirtual x => xinv j x pc L st M
  | .invokestatic x => xins d j x pc L st M
  | .ireturn => xret j st M
  | .areturn => xreA j st M
  | .return_ => match st with
    | [] => if xmr j = none then some (.inr (.inl (none, M))) else none
    | _ => none
  | _ => none
/-- how long an instruction is (0: a switch) -/
def xln (i : Instr) : Nat := match i with
  | .bipush _ | .ldc _ | .iload _ | .lload _ | .aload _ | .istore _ | .astore _ => 2
  | .sipush _ | .ldc_w _ | .ldc2_w _ | .iinc _ _ | .ifCond _ _ | .if_icmp _ _ | .ifnull _ | .ifnonnull _ | .if_acmp _ _ | .goto _ | .getfield _ | .putfield _ | .invokevirtual _ | .invokestatic _ => 3
  | .tableswitch .. => 0
  | _ => 1
set_option maxRecDepth 100000 in
theorem xln_ok : ∀ t ∈ xtbs, ∀ q ∈ t, xln q.2.1 = q.2.2 ∨ xln q.2.1 = 0 := by decide +kernel
def x1 (d j : Nat) (c : xC) : Option xS := match xfet j c.1 with
  | some (i, _) => xi d j i c.1 c.2.1 c.2.2.1 c.2.2.2
  | none => none
def xr : Nat → Nat → Nat → xC → Option (Option xV × xM)
  | 0, _, _, _ => none
  | n + 1, d, j, c => match x1 d j c with
    | some (.inl c') => xr n d j c'
    | some (.inr (.inl r)) => some r
    | some (.inr (.inr (k, as, pc, L, st, M))) => match d with
      | 0 => none
      | d' + 1 => match xr n d' k (0, xen k as, [], M) with
        | some (r, M') => xr n (d' + 1) j (pc, L, r.toList ++ st, M')
        | none => none
    | none => none
theorem xfet_spec {j pc n : Nat} {i : Instr} (h : xfet j pc = some (i, n)) : decode (xmc j) pc = .ok (i, n) ∧ (xln i = n ∨ xln i = 0) := by
  unfold xfet at h
  have hm := x_lookup h
  have hj : j < xtbs.length := by
    rcases Nat.lt_or_ge j xtbs.length with q | q
    · exact q
    · rw [List.getD_eq_getElem?_getD, List.getElem?_eq_none q] at hm
      cases hm
  have hj2 : j < xms.length := hj
  rw [List.getD_eq_getElem?_getD, List.getElem?_eq_getElem hj] at hm
  have hz : (xtbs[j], xms[j].2.2.1) ∈ xtbs.zip (xms.map fun q => q.2.2.1) := by
    refine List.mem_of_getElem? (i := j) ?_
    rw [List.getElem?_zip_eq_some]
    exact ⟨List.getElem?_eq_getElem hj, by rw [List.getElem?_map, List.getElem?_eq_getElem hj2]; rfl⟩
  have hc := xck_all _ hz
  unfold xchk at hc
  have h1 := List.all_eq_true.mp hc _ hm
  refine ⟨?_, xln_ok _ (List.getElem_mem hj) _ hm⟩
  have e : xmc j = xms[j].2.2.1 := by
    unfold xmc xmd
    rw [List.getD_eq_getElem?_getD, List.getElem?_eq_getElem hj2]
    rfl
  rw [e]
  exact of_decide_eq_true h1
theorem xr_more {n : Nat} : ∀ {d j : Nat} {c : xC} {r : Option xV × xM}, xr n d j c = some r → xr (n + 1) d j c = some r := by
  induction n with
  | zero => intro d j c r h; simp [xr] at h
  | succ n ih =>
    intro d j c r h
    rw [xr] at h ⊢
    split at h
    · exact ih h
    · exact h
    · cases d with
      | zero => simp at h
      | succ d' =>
        simp only at h ⊢
        split at h
        · rename_i hq
          rw [ih hq]
          exact ih h
        · cases h
    · cases h
theorem xr_le {n n' d j : Nat} {c : xC} {r : Option xV × xM} (hn : n ≤ n') (h : xr n d j c = some r) : xr n' d j c = some r := by
  induction hn with
  | refl => exact h
  | step _ ih => exact xr_more ih
/-- it comes to an end with Z -/
def Rn (d j : Nat) (c : xC) (Z : Option xV → xM → Prop) : Prop := ∃ n r M, xr n d j c = some (r, M) ∧ Z r M
theorem Rn.next {d j : Nat} {c c' : xC} {Z : Option xV → xM → Prop} (h : x1 d j c = some (.inl c')) (k : Rn d j c' Z) : Rn d j c Z := by
  obtain ⟨n, r, M, h1, h2⟩ := k
  exact ⟨n + 1, r, M, by rw [xr, h]; exact h1, h2⟩
theorem Rn.ret {d j : Nat} {c : xC} {r : Option xV} {M : xM} {Z : Option xV → xM → Prop} (h : x1 d j c = some (.inr (.inl (r, M)))) (k : Z r M) : Rn d j c Z := ⟨1, r, M, by rw [xr, h], k⟩
theorem Rn.call {d j k pc : Nat} {c : xC} {as : List xV} {L : xLs} {st : List xV} {M : xM} {Z Z1 : Option xV → xM → Prop} (h : x1 (d + 1) j c = some (.inr (.inr (k, as, pc, L, st, M)))) (k1 : Rn d k (0, xen k as, [], M) Z1) (k2 : ∀ r M', Z1 r M' → Rn (d + 1) j (pc, L, r.toList ++ st, M') Z) : Rn (d + 1) j c Z := by
  obtain ⟨n1, r1, M1, h1, z1⟩ := k1
  obtain ⟨n2, r2, M2, h2, z2⟩ := k2 r1 M1 z1
  refine ⟨max n1 n2 + 1, r2, M2, ?_, z2⟩
  rw [xr, h]
  simp only
  rw [xr_le (Nat.le_max_left n1 n2) h1]
  exact xr_le (Nat.le_max_right n1 n2) h2
end
section
/-! THE WORLD of the small machine: which cells its memory stands for -/
def cv (ad : Nat → Nat → Nat) : xV → Value
  | .inl x => .int x
  | .inr (.inl x) => .long x
  | .inr (.inr none) => .null
  | .inr (.inr (some q)) => .ref (ad q.1 q.2)
theorem cv_o (ad : Nat → Nat → Nat) (o : Option (Nat × Nat)) : cv ad (.inr (.inr o)) = va_rf (o.map fun q => ad q.1 q.2) := by cases o <;> rfl
def xfv (ad : Nat → Nat → Nat) (M : xM) (t e k r : Nat) : Value := if r ≤ 1 then .int (M.1 t e k) else if r = 2 then .long (M.2.1 t e k) else if r < 100 then va_rf ((M.2.2 t e k).map (ad (r - 10))) else .ref (ad (r - 100) e)
def xfs (ad : Nat → Nat → Nat) (M : xM) (t e : Nat) : List Value := (xfk t).zipIdx.map (fun q => xfv ad M t e q.2 q.1)
def xar (ad : Nat → Nat → Nat) (M : xM) (t e : Nat) : vp_A := (xal t, if xek t ≤ 1 then .inl (M.1 t e) else if xek t = 2 then .inr (.inl (M.2.1 t e)) else .inr (.inr (.inr (.inr (fun j => if xek t < 100 then (M.2.2 t e j).map (ad (xek t - 10)) else some (ad (xek t - 100) j))))))
def xcell (ad : Nat → Nat → Nat) (cA : Nat → ClassId) (M : xM) (t e : Nat) : va_E := match xob t with
  | some ci => .inr (ci, xfs ad M t e)
  | none => .inl (cA t, xar ad M t e)
def xcs (sy : Nat) : List (Nat × Nat) := ((List.range 50).filter (fun t => decide (xsy t = sy))).flatMap (fun t => (List.range (xcn t)).map (fun e => (t, e)))
def xw (ad : Nat → Nat → Nat) (cA : Nat → ClassId) (sy : Nat) (M : xM) : va_W := (xcs sy).map (fun q => (ad q.1 q.2, xcell ad cA M q.1 q.2))
def xty (cA : Nat → ClassId) : List (ClassId × FieldType) := ((List.range 50).filter (fun t => decide (xob t = none ∧ 0 < xcn t))).map (fun t => (cA t, xat t))
theorem xcn_lt {t e : Nat} (h : e < xcn t) : t < 50 := by
  rcases Nat.lt_or_ge t 50 with q | q
  · exact q
  · unfold xcn at h
    rw [List.getD_eq_getElem?_getD, List.getElem?_eq_none q] at h
    exact absurd h (Nat.not_lt_zero _)
theorem xcm_lt {j t e : Nat} (h : e < xcm j t) : xsy t = xsj j ∧ e < xcn t := by
  unfold xcm at h
  split at h
  · exact ⟨‹_›, h⟩
  · exact absurd h (Nat.not_lt_zero _)
theorem xcs_mem {sy t e : Nat} (h1 : xsy t = sy) (h2 : e < xcn t) : (t, e) ∈ xcs sy := by
  unfold xcs
  rw [List.mem_flatMap]
  exact ⟨t, List.mem_filter.mpr ⟨List.mem_range.mpr (xcn_lt h2), by simpa using h1⟩, List.mem_map.mpr ⟨e, List.mem_range.mpr h2, rfl⟩⟩
theorem xcs_of {sy t e : Nat} (h : (t, e) ∈ xcs sy) : xsy t = sy ∧ e < xcn t := by
  unfold xcs at h
  rw [List.mem_flatMap] at h
  obtain ⟨t', h1, h2⟩ := h
  obtain ⟨e', h3, h4⟩ := List.mem_map.mp h2
  cases h4
  exact ⟨by simpa using (List.mem_filter.mp h1).2, List.mem_range.mp h3⟩
theorem xcs_at {j t e : Nat} (h : e < xcm j t) : ∃ q0 : Nat, (xcs (xsj j))[q0]? = some (t, e) := by
  obtain ⟨h1, h2⟩ := xcm_lt h
  obtain ⟨i, hi, he⟩ := List.getElem_of_mem (xcs_mem h1 h2)
  exact ⟨i, by rw [List.getElem?_eq_getElem hi, he]⟩
theorem xw_at {ad : Nat → Nat → Nat} {cA : Nat → ClassId} {sy t e q0 : Nat} (M : xM) (h : (xcs sy)[q0]? = some (t, e)) : (xw ad cA sy M)[q0]? = some (ad t e, xcell ad cA M t e) := by
  unfold xw
  rw [List.getElem?_map, h]
  rfl
theorem xw_len {ad : Nat → Nat → Nat} {cA : Nat → ClassId} {sy : Nat} (M : xM) : (xw ad cA sy M).length = (xcs sy).length := by unfold xw; exact List.length_map _
theorem xw_D {ad : Nat → Nat → Nat} {cA : Nat → ClassId} {sy : Nat} {A : Nat → Prop} {M : xM} (M' : xM) (h : va_D A (xw ad cA sy M)) : va_D A (xw ad cA sy M') := by
  have at' : ∀ (N N' : xM) (i : Nat) (q : Nat × va_E), (xw ad cA sy N)[i]? = some q → ∃ q' : Nat × va_E, (xw ad cA sy N')[i]? = some q' ∧ q'.1 = q.1 := by
    intro N N' i q hq
    unfold xw at hq ⊢
    rw [List.getElem?_map] at hq ⊢
    cases hx : (xcs sy)[i]? with
    | none => rw [hx] at hq; cases hq
    | some x =>
      rw [hx] at hq
      cases hq
      exact ⟨_, rfl, rfl⟩
  refine ⟨fun i j p q hp hq hpq => ?_, fun k q hq => ?_⟩
  · obtain ⟨p', hp', e1⟩ := at' M' M i p hp
    obtain ⟨q', hq', e2⟩ := at' M' M j q hq
    exact h.1 i j p' q' hp' hq' (by rw [e1, e2, hpq])
  · obtain ⟨q', hq', e2⟩ := at' M' M k q hq
    rw [← e2]
    exact h.2 k q' hq'
theorem xw_set {ad : Nat → Nat → Nat} {cA : Nat → ClassId} {sy t e q0 : Nat} {A : Nat → Prop} {M M' : xM} {y : va_E} (hD : va_D A (xw ad cA sy M)) (hq : (xcs sy)[q0]? = some (t, e)) (hs : xcell ad cA M' t e = y) (ho : ∀ t' e', ¬ (t' = t ∧ e' = e) → xcell ad cA M' t' e' = xcell ad cA M t' e') : (xw ad cA sy M).set q0 (ad t e, y) = xw ad cA sy M' := by
  apply List.ext_getElem?
  intro i
  rw [List.getElem?_set]
  have hl : q0 < (xw ad cA sy M).length := by rw [xw_len]; exact (List.getElem?_eq_some_iff.mp hq).1
  by_cases hi : q0 = i
  · subst hi
    rw [if_pos rfl, if_pos hl, xw_at M' hq, hs]
  · rw [if_neg hi]
    cases hx : (xcs sy)[i]? with
    | none =>
      have : (xcs sy).length ≤ i := List.getElem?_eq_none_iff.mp hx
      rw [List.getElem?_eq_none (by rw [xw_len]; exact this), List.getElem?_eq_none (by rw [xw_len]; exact this)]
    | some x =>
      obtain ⟨t', e'⟩ := x
      rw [xw_at M hx, xw_at M' hx, ho t' e' (fun h => hi (hD.1 q0 i _ _ (xw_at M hq) (xw_at M hx) (by rw [h.1, h.2])))]
/-- M' is M but for one place -/
def xag (M M' : xM) (t e k : Nat) : Prop := ∀ t' e' k', ¬ (t' = t ∧ e' = e ∧ k' = k) → M'.1 t' e' k' = M.1 t' e' k' ∧ M'.2.1 t' e' k' = M.2.1 t' e' k' ∧ M'.2.2 t' e' k' = M.2.2 t' e' k'
theorem xag_I {M : xM} {t e k : Nat} {v : Int32} : xag M (mI M t e k v) t e k := fun t' e' k' h => ⟨by simp only [mI, xu, if_neg h], rfl, rfl⟩
theorem xag_J {M : xM} {t e k : Nat} {v : Int64} : xag M (mJ M t e k v) t e k := fun t' e' k' h => ⟨rfl, by simp only [mJ, xu, if_neg h], rfl⟩
theorem xag_R {M : xM} {t e k : Nat} {v : Option Nat} : xag M (mR M t e k v) t e k := fun t' e' k' h => ⟨rfl, rfl, by simp only [mR, xu, if_neg h]⟩
theorem xag_cell {ad : Nat → Nat → Nat} {cA : Nat → ClassId} {M M' : xM} {t e k : Nat} (h : xag M M' t e k) (t' e' : Nat) (hn : ¬ (t' = t ∧ e' = e)) : xcell ad cA M' t' e' = xcell ad cA M t' e' := by
  have hh : ∀ k', M'.1 t' e' k' = M.1 t' e' k' ∧ M'.2.1 t' e' k' = M.2.1 t' e' k' ∧ M'.2.2 t' e' k' = M.2.2 t' e' k' := fun k' => h t' e' k' (fun q => hn ⟨q.1, q.2.1⟩)
  have h1 : M'.1 t' e' = M.1 t' e' := funext fun k' => (hh k').1
  have h2 : M'.2.1 t' e' = M.2.1 t' e' := funext fun k' => (hh k').2.1
  have h3 : M'.2.2 t' e' = M.2.2 t' e' := funext fun k' => (hh k').2.2
  unfold xcell xar xfs xfv
  rw [h1, h2, h3]
theorem xfs_at {ad : Nat → Nat → Nat} {M : xM} {t e k r : Nat} (h : (xfk t)[k]? = some r) : (xfs ad M t e)[k]? = some (xfv ad M t e k r) := by
  unfold xfs
  rw [List.getElem?_map, List.getElem?_zipIdx, h]
  simp
theorem xfs_len {ad : Nat → Nat → Nat} {M : xM} {t e : Nat} : (xfs ad M t e).length = (xfk t).length := by unfold xfs; simp
theorem xfs_set {ad : Nat → Nat → Nat} {M M' : xM} {t e k r : Nat} (h : (xfk t)[k]? = some r) (ha : xag M M' t e k) : (xfs ad M t e).set k (xfv ad M' t e k r) = xfs ad M' t e := by
  apply List.ext_getElem?
  intro i
  rw [List.getElem?_set]
  have hl : k < (xfs ad M t e).length := by rw [xfs_len]; exact (List.getElem?_eq_some_iff.mp h).1
  by_cases hi : k = i
  · subst hi
    rw [if_pos rfl, if_pos hl, xfs_at h]
  · rw [if_neg hi]
    cases hx : (xfk t)[i]? with
    | none =>
      have : (xfk t).length ≤ i := List.getElem?_eq_none_iff.mp hx
      rw [List.getElem?_eq_none (by rw [xfs_len]; exact this), List.getElem?_eq_none (by rw [xfs_len]; exact this)]
    | some x =>
      rw [xfs_at hx, xfs_at hx]
      obtain ⟨h1, h2, h3⟩ := ha t e i (fun q => hi q.2.2.symm)
      unfold xfv
      rw [h1, h2, h3]
/-- the locals -/
def xlv (ad : Nat → Nat → Nat) (L : xLs) : List (Nat × Value) := (List.range L.length).filterMap (fun i => match L[i]? with
  | some (some v) => some (i, cv ad v)
  | _ => none)
theorem xlv_mem {ad : Nat → Nat → Nat} {L : xLs} {i : Nat} {w : Value} : (i, w) ∈ xlv ad L ↔ ∃ v, L[i]? = some (some v) ∧ w = cv ad v := by
  unfold xlv
  rw [List.mem_filterMap]
  constructor
  · rintro ⟨k, -, hk⟩
    split at hk
    · cases hk
      exact ⟨_, ‹_›, rfl⟩
    · cases hk
  · rintro ⟨v, hv, rfl⟩
    refine ⟨i, List.mem_range.mpr (List.getElem?_eq_some_iff.mp hv).1, ?_⟩
    rw [hv]
def xlh (ad : Nat → Nat → Nat) (ls : Array Slot) (n : Nat) (L : xLs) : Prop := L.length = n ∧ lv_has ls n (xlv ad L)
theorem xlh_at {ad : Nat → Nat → Nat} {ls : Array Slot} {n i : Nat} {L : xLs} {v : xV} (h : xlh ad ls n L) (hv : L[i]? = some (some v)) : ls[i]? = some (.val (cv ad v)) := h.2.2.2 (i, cv ad v) (xlv_mem.mpr ⟨v, hv, rfl⟩)
theorem xlh_set {ad : Nat → Nat → Nat} {ls' : Array Slot} {n i : Nat} {L : xLs} {v : xV} (hn : L.length = n) (h : lv_has ls' n ((i, cv ad v) :: (xlv ad L).filter (fun q => !(q.1 == i) && !(q.1 + 1 == i && q.2.category == 2)))) (hs : xns L i = true) (hi : i < L.length) : xlh ad ls' n (L.set i (some v)) := by
  refine ⟨by rw [List.length_set]; exact hn, h.1, h.2.1, fun q hq => h.2.2 q ?_⟩
  obtain ⟨k, w⟩ := q
  obtain ⟨v', hv', rfl⟩ := xlv_mem.mp hq
  rw [List.getElem?_set] at hv'
  by_cases hk : i = k
  · subst hk
    rw [if_pos rfl, if_pos hi] at hv'
    cases hv'
    exact List.mem_cons_self
  · rw [if_neg hk] at hv'
    refine List.mem_cons_of_mem _ (List.mem_filter.mpr ⟨xlv_mem.mpr ⟨v', hv', rfl⟩, ?_⟩)
    by_cases hk1 : k + 1 = i
    · subst hk1
      simp only [xns] at hs
      rw [hv'] at hs
      rcases v' with x | x | x
      · simp [cv, Value.category]
      · simp at hs
      · cases x <;> simp [cv, Value.category]
    · simp only [Bool.and_eq_true, Bool.not_eq_true', beq_eq_false_iff_ne, ne_eq]
      exact ⟨fun q => hk q.symm, by simp [hk1]⟩
theorem cv_cat (ad : Nat → Nat → Nat) (v : xV) : (cv ad v).category ≤ 2 := by
  rcases v with x | x | x
  · simp [cv, Value.category]
  · simp [cv, Value.category]
  · cases x <;> simp [cv, Value.category]
theorem cv_sum (ad : Nat → Nat → Nat) (r : List xV) : ((r.map (cv ad)).map fun v => v.category).sum ≤ 2 * r.length := by
  induction r with
  | nil => simp
  | cons v r ih =>
    have := cv_cat ad v
    simp only [List.map_cons, List.sum_cons, List.length_cons]
    omega
end
section
/-! A STEP of the small machine is a step of the JVM -/
def xgW : List Cond := lw_tbl.filter goodWord
def xisN : Cond → Bool
  | .fieldLinkNest .. => true
  | .methodLinkNest .. => true
  | _ => false
def xnW : List Cond := lw_tbl.filter xisN
/-- the machine and the tables, as they stand in the method j -/
def xB (p : Program) (s : State) (m : MethodId) (args : Array Value) (c : Code) (j : Nat) : Prop :=
  p.tables.exec = Jvm.exec ∧ c.code = xmc j ∧ c.maxLocals = xmL j ∧ s.vm.findClass (xon (xmo j)) = some m.cls ∧ (∀ w ∈ xgW, w.before args s = true) ∧ ∀ w ∈ xnW, va_Nw w s
def xWd (D : va_G) (ad : Nat → Nat → Nat) (cA : Nat → ClassId) (sy : Nat) (A : Nat → Prop) (H0 : Heap) (s : State) (M : xM) (H : Heap) (locs : List Loc) : Prop :=
  va_P D vwCl (xw ad cA sy M) H ∧ va_D A (xw ad cA sy M) ∧ va_S A H0 H locs ∧ va_K D vwCl (xty cA) s
def xrm (d : Nat) : Room := { frames := d, cells := 0, slots := 0, locals := 38 * d }
theorem xg_of {w : Cond} (h : w ∈ lw_tbl) (hg : goodWord w = true) : w ∈ xgW := List.mem_filter.mpr ⟨h, hg⟩
theorem xn_of {w : Cond} (h : w ∈ lw_tbl) (hg : xisN w = true) : w ∈ xnW := List.mem_filter.mpr ⟨h, hg⟩
theorem xty_at {cA : Nat → ClassId} {t e : Nat} (h1 : xob t = none) (h2 : e < xcn t) : ∃ t0 : Nat, (xty cA)[t0]? = some (cA t, xat t) := by
  have hm : (cA t, xat t) ∈ xty cA := List.mem_map.mpr ⟨t, List.mem_filter.mpr ⟨List.mem_range.mpr (xcn_lt h2), by simp only [decide_eq_true_eq]; exact ⟨h1, Nat.lt_of_le_of_lt (Nat.zero_le _) h2⟩⟩, rfl⟩
  obtain ⟨i, hi, he⟩ := List.getElem_of_mem hm
  exact ⟨i, by rw [List.getElem?_eq_getElem hi, he]⟩
/-- an array's element kind and its type fit -/
theorem xat_ok : ∀ t, t < 50 → (xob t = none → (xek t = 0 → xat t = .int) ∧ (xek t = 1 → xat t = .boolean) ∧ (xek t = 2 → xat t = .long) ∧ (10 ≤ xek t → ∃ ci, ci < 4 ∧ ∃ r, vwCl[ci]? = some r ∧ xat t = .object r.1 ∧ (xek t < 100 → xob (xek t - 10) = some ci))) := by
  intro t ht h0
  have h : (List.range 50).all (fun t => decide (xob t = none → (xek t = 0 → xat t = .int) ∧ (xek t = 1 → xat t = .boolean) ∧ (xek t = 2 → xat t = .long))) = true := by decide +kernel
  have h1 := of_decide_eq_true (List.all_eq_true.mp h t (List.mem_range.mpr ht)) h0
  have h2 : (List.range 50).all (fun t => decide (xob t = none ∧ 10 ≤ xek t → (t = 10 ∨ t = 11 ∨ t = 12))) = true := by decide +kernel
  refine ⟨h1.1, h1.2.1, h1.2.2, fun hk => ?_⟩
  rcases of_decide_eq_true (List.all_eq_true.mp h2 t (List.mem_range.mpr ht)) ⟨h0, hk⟩ with rfl | rfl | rfl
  · exact ⟨1, by decide, _, rfl, rfl, fun h => absurd h (by decide)⟩
  · exact ⟨0, by decide, _, rfl, rfl, fun h => absurd h (by decide)⟩
  · exact ⟨0, by decide, _, rfl, rfl, fun _ => rfl⟩
theorem xcls {ci : Nat} {q : vw_C} (h : vwCl[ci]? = some q) : (∀ w ∈ u_ws q.1 q.2.1 q.2.2, w ∈ xgW) ∧ (∃ ty0 : Nat → FieldType, ∀ k, k < q.2.2 → parseFieldDescriptor (q.2.1 k).2.2.1 = some (ty0 k)) ∧ (∀ a, a < q.2.2 → ∀ b, b < q.2.2 → a ≠ b → (q.2.1 a).2.1 ≠ (q.2.1 b).2.1) := by
  match ci, h with
  | 0, h => cases h; exact ⟨fun w hw => xg_of (x_mem_pos _ xlay_0 w hw) (List.all_eq_true.mp xlag_0 w hw), ⟨_, tyX0_ok⟩, nmX0⟩
  | 1, h => cases h; exact ⟨fun w hw => xg_of (x_mem_pos _ xlay_1 w hw) (List.all_eq_true.mp xlag_1 w hw), ⟨_, tyX1_ok⟩, nmX1⟩
  | 2, h => cases h; exact ⟨fun w hw => xg_of (x_mem_pos _ xlay_2 w hw) (List.all_eq_true.mp xlag_2 w hw), ⟨_, tyX2_ok⟩, nmX2⟩
  | 3, h => cases h; exact ⟨fun w hw => xg_of (x_mem_pos _ xlay_3 w hw) (List.all_eq_true.mp xlag_3 w hw), ⟨_, tyX3_ok⟩, nmX3⟩
  | n + 4, h => simp [vwCl] at h
def xisOb (r : Option FieldType) : Bool := match r with
  | some (.object _) => true
  | _ => false
/-- a field's kind, its type and whether it is final fit -/
def xfok (t k : Nat) : Bool := match xob t with
  | some ci => (match vwCl[ci]? with
    | some r => (match (xfk t)[k]? with
      | some kd => decide (k < r.2.2) && decide (r.2.2 = (xfk t).length) && decide ((r.2.1 k).2.2.2 = decide (100 ≤ kd)) && decide (kd = 0 → parseFieldDescriptor (r.2.1 k).2.2.1 = some .int) && decide (kd = 1 → parseFieldDescriptor (r.2.1 k).2.2.1 = some .boolean) && decide (kd = 2 → parseFieldDescriptor (r.2.1 k).2.2.1 = some .long) && decide (10 ≤ kd ∧ kd < 100 → xisOb (parseFieldDescriptor (r.2.1 k).2.2.1) = true)
      | none => true)
    | none => false)
  | none => decide (xfk t = [])
set_option maxRecDepth 100000 in
theorem xfok_all : (List.range 50).all (fun t => (List.range 45).all (fun k => xfok t k)) = true := by decide +kernel
theorem xfk_lt : ∀ t k r, (xfk t)[k]? = some r → t < 50 ∧ k < 45 := by
  intro t k r h
  have h50 : t < 50 := by
    rcases Nat.lt_or_ge t 50 with q | q
    · exact q
    · have h0 : xfk t = [] := by unfold xfk; rw [List.getD_eq_getElem?_getD, List.getElem?_eq_none (show xfkL.length ≤ t from q)]; rfl
      rw [h0] at h
      simp at h
  have hl : (List.range 50).all (fun t => decide ((xfk t).length ≤ 45)) = true := by decide +kernel
  have h2 := of_decide_eq_true (List.all_eq_true.mp hl t (List.mem_range.mpr h50))
  exact ⟨h50, Nat.lt_of_lt_of_le (List.getElem?_eq_some_iff.mp h).1 h2⟩
theorem xf_ok {t k kd : Nat} (h : (xfk t)[k]? = some kd) : ∃ (ci : Nat) (r : vw_C), xob t = some ci ∧ vwCl[ci]? = some r ∧ k < r.2.2 ∧ r.2.2 = (xfk t).length ∧ (r.2.1 k).2.2.2 = decide (100 ≤ kd) ∧ (kd = 0 → parseFieldDescriptor (r.2.1 k).2.2.1 = some .int) ∧ (kd = 1 → parseFieldDescriptor (r.2.1 k).2.2.1 = some .boolean) ∧ (kd = 2 → parseFieldDescriptor (r.2.1 k).2.2.1 = some .long) ∧ (10 ≤ kd ∧ kd < 100 → ∃ n, parseFieldDescriptor (r.2.1 k).2.2.1 = some (.object n)) := by
  obtain ⟨h1, h2⟩ := xfk_lt t k kd h
  have ha := List.all_eq_true.mp (List.all_eq_true.mp xfok_all t (List.mem_range.mpr h1)) k (List.mem_range.mpr h2)
  unfold xfok at ha
  cases ho : xob t with
  | none =>
    rw [ho] at ha
    simp only [decide_eq_true_eq] at ha
    rw [ha] at h
    simp at h
  | some ci =>
    rw [ho] at ha
    simp only at ha
    cases hc : vwCl[ci]? with
    | none => rw [hc] at ha; cases ha
    | some r =>
      rw [hc, h] at ha
      simp only [Bool.and_eq_true, decide_eq_true_eq] at ha
      obtain ⟨⟨⟨⟨⟨⟨a1, a2⟩, a3⟩, a4⟩, a5⟩, a6⟩, a7⟩ := ha
      refine ⟨ci, r, rfl, hc, a1, a2, a3, a4, a5, a6, fun hk => ?_⟩
      have := a7 hk
      unfold xisOb at this
      split at this
      · exact ⟨_, ‹_›⟩
      · cases this
theorem xfl_ok {o i t k : Nat} {nb : Bool} (h : xfl o i = some (t, k, nb)) : xflW ((o, i), t, k, nb) ∈ lw_tbl := x_mem_pos _ xfl_w _ (List.mem_map.mpr ⟨_, x_lookup h, rfl⟩)
section XST
variable {p : Program} {l : Launch} {e : Env} {R : Room} {s : State} {m : MethodId} {args : Array Value} {below : List Frame} {meth : Method} {c : Code} {H H0 : Heap} {locs : List Loc} {Q : State → Prop} {D : va_G} {ad : Nat → Nat → Nat} {cA : Nat → ClassId} {A : Nat → Prop} {M : xM} {j pc : Nat} {ls : Array Slot} {rest : List Value}
theorem xgv_cv {t e k r : Nat} {v : xV} (h : (xfk t)[k]? = some r) (hv : xgv M t e k = some v) : xfv ad M t e k r = cv ad v := by
  unfold xgv at hv
  rw [h] at hv
  simp only at hv
  unfold xfv
  by_cases h1 : r ≤ 1
  · rw [if_pos h1] at hv ⊢; cases hv; rfl
  · rw [if_neg h1] at hv ⊢
    by_cases h2 : r = 2
    · rw [if_pos h2] at hv ⊢; cases hv; rfl
    · rw [if_neg h2] at hv ⊢
      by_cases h3 : r < 100
      · rw [if_pos h3] at hv ⊢
        cases hv
        cases M.2.2 t e k <;> rfl
      · rw [if_neg h3] at hv ⊢; cases hv; rfl
theorem xs_get {idx t e' k : Nat} {nb : Bool} {v : xV} (B : xB p s m args c j) (Wd : xWd D ad cA (xsj j) A H0 s M H locs) (hd : decode (xmc j) pc = .ok (.getfield idx, 3)) (hf : xfl (xmo j) idx = some (t, k, nb)) (he : e' < xcm j t) (hv : xgv M t e' k = some v)
    (kk : W p l e R s m args below meth c H locs 0 0 Q (F0 m (pc + 3) ls (cv ad v :: rest))) : W p l e R s m args below meth c H locs 0 0 Q (F0 m pc ls (.ref (ad t e') :: rest)) := by
  obtain ⟨hx, hb, hml, hown, hts, hN⟩ := B
  obtain ⟨hP, hD, hS, hK⟩ := Wd
  obtain ⟨q0, hq0⟩ := xcs_at he
  cases hk : (xfk t)[k]? with
  | none => unfold xgv at hv; rw [hk] at hv; cases hv
  | some r =>
    obtain ⟨ci, rc, ho, hc, hkN, -⟩ := xf_ok hk
    obtain ⟨hin, -, -⟩ := xcls hc
    have hw := xw_at (ad := ad) (cA := cA) M hq0
    have hcell : xcell ad cA M t e' = .inr (ci, xfs ad M t e') := by unfold xcell; rw [ho]
    rw [hcell] at hw
    have hfv : (xfs ad M t e')[k]? = some (cv ad v) := by rw [xfs_at hk, xgv_cv hk hv]
    have hl := xfl_ok hf
    unfold xflW at hl
    rw [ho] at hl
    simp only [Option.getD_some] at hl
    rw [hc] at hl
    cases nb with
    | true =>
      simp only [if_true] at hl
      exact va_getN (D := D) (C := rc.1) (T := rc.2.1) (N := rc.2.2) hx hb hts hin hown hK hP q0 hw hc k hkN (va_Nw.use rfl (hN _ (xn_of hl rfl))) (fun _ h => h) hfv hd kk
    | false =>
      simp only [Bool.false_eq_true, if_false] at hl
      exact va_get (D := D) (C := rc.1) (T := rc.2.1) (N := rc.2.2) hx hb hts hin hown hK hP q0 hw hc k hkN (hts _ (xg_of hl rfl)) (fun _ h => h) hfv hd kk
theorem xpv_I {t e k r : Nat} {x : Int32} {M' : xM} (hk : (xfk t)[k]? = some r) (hv : xpv M t e k (.inl x) = some M') : (r = 0 ∨ r = 1 ∧ (x = 0 ∨ x = 1)) ∧ M' = mI M t e k x := by
  unfold xpv at hv
  rw [hk] at hv
  match r, hv with
  | 0, hv => cases hv; exact ⟨Or.inl rfl, rfl⟩
  | 1, hv =>
    simp only at hv
    split at hv
    · cases hv; exact ⟨Or.inr ⟨rfl, ‹_›⟩, rfl⟩
    · cases hv
  | 2, hv => simp at hv
  | r + 3, hv => simp at hv
theorem xpv_J {t e k r : Nat} {x : Int64} {M' : xM} (hk : (xfk t)[k]? = some r) (hv : xpv M t e k (.inr (.inl x)) = some M') : r = 2 ∧ M' = mJ M t e k x := by
  unfold xpv at hv
  rw [hk] at hv
  match r, hv with
  | 0, hv => simp at hv
  | 1, hv => simp at hv
  | 2, hv => cases hv; exact ⟨rfl, rfl⟩
  | r + 3, hv => simp at hv
theorem xpv_R {t e k r : Nat} {o : Option (Nat × Nat)} {M' : xM} (hk : (xfk t)[k]? = some r) (hv : xpv M t e k (.inr (.inr o)) = some M') : (10 ≤ r ∧ r < 100) ∧ (∀ q, o = some q → q.1 = r - 10) ∧ M' = mR M t e k (o.map fun q => q.2) := by
  unfold xpv at hv
  rw [hk] at hv
  cases o with
  | none =>
    match r, hv with
    | 0, hv => simp at hv
    | 1, hv => simp at hv
    | 2, hv => simp at hv
    | r + 3, hv =>
      simp only at hv
      split at hv
      · cases hv; exact ⟨‹_›, (fun q h => nomatch h), rfl⟩
      · cases hv
  | some q =>
    obtain ⟨t', e'⟩ := q
    match r, hv with
    | 0, hv => simp at hv
    | 1, hv => simp at hv
    | 2, hv => simp at hv
    | r + 3, hv =>
      simp only at hv
      split at hv
      · rename_i hb
        cases hv; exact ⟨⟨hb.1, hb.2.1⟩, fun q h => by cases h; exact hb.2.2, rfl⟩
      · cases hv
theorem xpv_cv {t e k : Nat} {v : xV} {M' : xM} (hv : xpv M t e k v = some M') : ∃ (r : Nat) (ty : FieldType) (ci : Nat) (rc : vw_C), (xfk t)[k]? = some r ∧ xag M M' t e k ∧ xfv ad M' t e k r = cv ad v ∧ xob t = some ci ∧ vwCl[ci]? = some rc ∧ k < rc.2.2 ∧ rc.2.2 = (xfk t).length ∧ (rc.2.1 k).2.2.2 = false ∧ parseFieldDescriptor (rc.2.1 k).2.2.1 = some ty ∧ narrow ty (cv ad v) = cv ad v ∧ fits ty (cv ad v) = true := by
  cases hk : (xfk t)[k]? with
  | none => unfold xpv at hv; rw [hk] at hv; simp at hv
  | some r =>
    obtain ⟨ci, rc, ho, hc, hkN, hlen, hfin, t0, t1, t2, t3⟩ := xf_ok hk
    rcases v with x | x | o
    · obtain ⟨hr, rfl⟩ := xpv_I hk hv
      rcases hr with rfl | ⟨rfl, hb⟩
      · exact ⟨0, .int, ci, rc, rfl, xag_I, by simp [xfv, mI, xu, cv], ho, hc, hkN, hlen, by rw [hfin]; rfl, t0 rfl, rfl, rfl⟩
      · refine ⟨1, .boolean, ci, rc, rfl, xag_I, by simp [xfv, mI, xu, cv], ho, hc, hkN, hlen, by rw [hfin]; rfl, t1 rfl, ?_, ?_⟩
        · rcases hb with rfl | rfl <;> rfl
        · rcases hb with rfl | rfl <;> rfl
    · obtain ⟨rfl, rfl⟩ := xpv_J hk hv
      exact ⟨2, .long, ci, rc, rfl, xag_J, by simp [xfv, mJ, xu, cv], ho, hc, hkN, hlen, by rw [hfin]; rfl, t2 rfl, rfl, rfl⟩
    · obtain ⟨hb, hq, rfl⟩ := xpv_R hk hv
      obtain ⟨n, hn⟩ := t3 hb
      have h1 : ¬ r ≤ 1 := by omega
      have h2 : ¬ r = 2 := by omega
      refine ⟨r, .object n, ci, rc, rfl, xag_R, ?_, ho, hc, hkN, hlen, by rw [hfin]; simp; omega, hn, ?_, ?_⟩
      · cases o with
        | none => simp [xfv, h1, h2, hb.2, mR, xu, cv, va_rf]
        | some q => simp [xfv, h1, h2, hb.2, mR, xu, cv, va_rf, hq q rfl]
      · cases o <;> rfl
      · cases o <;> rfl
theorem xs_put {idx t e' k : Nat} {nb : Bool} {v : xV} {M' : xM} (B : xB p s m args c j) (Wd : xWd D ad cA (xsj j) A H0 s M H locs) (hd : decode (xmc j) pc = .ok (.putfield idx, 3)) (hf : xfl (xmo j) idx = some (t, k, nb)) (he : e' < xcm j t) (hv : xpv M t e' k v = some M')
    (kk : ∀ (H1 : Heap) (locs1 : List Loc), xWd D ad cA (xsj j) A H0 s M' H1 locs1 → W p l e R s m args below meth c H1 locs1 0 0 Q (F0 m (pc + 3) ls rest)) : W p l e R s m args below meth c H locs 0 0 Q (F0 m pc ls (cv ad v :: .ref (ad t e') :: rest)) := by
  obtain ⟨hx, hb, hml, hown, hts, hN⟩ := B
  obtain ⟨hP, hD, hS, hK⟩ := Wd
  obtain ⟨q0, hq0⟩ := xcs_at he
  obtain ⟨r, ty, ci, rc, hk, hag, hfv, ho, hc, hkN, hlen, hfin, hty, hnar, hfit⟩ := xpv_cv (ad := ad) hv
  obtain ⟨hin, ⟨ty0, hty0⟩, hnm⟩ := xcls hc
  have hw := xw_at (ad := ad) (cA := cA) M hq0
  have hcell : ∀ N : xM, xcell ad cA N t e' = .inr (ci, xfs ad N t e') := fun N => by unfold xcell; rw [ho]
  rw [hcell] at hw
  have hset : (xw ad cA (xsj j) M).set q0 (ad t e', .inr (ci, (xfs ad M t e').set k (cv ad v))) = xw ad cA (xsj j) M' := xw_set hD hq0 (by rw [hcell, ← hfv, xfs_set hk hag]) (fun t' e'' hne => xag_cell hag t' e'' hne)
  have hl := xfl_ok hf
  unfold xflW at hl
  rw [ho] at hl
  simp only [Option.getD_some] at hl
  rw [hc] at hl
  have hkl : k < (xfs ad M t e').length := by rw [xfs_len, ← hlen]; exact hkN
  cases nb with
  | true =>
    simp only [if_true] at hl
    refine va_putN (D := D) (C := rc.1) (T := rc.2.1) (N := rc.2.2) hx hb hts hin ty0 hty0 hnm hown hK hP hD hS q0 hw hc k hkN (va_Nw.use rfl (hN _ (xn_of hl rfl))) (fun _ h => h) hfin hty hnar hfit hkl hd (fun H1 locs1 hP1 hD1 hS1 => ?_)
    rw [hset] at hP1 hD1
    exact kk H1 locs1 ⟨hP1, hD1, hS1, hK⟩
  | false =>
    simp only [Bool.false_eq_true, if_false] at hl
    refine va_put (D := D) (C := rc.1) (T := rc.2.1) (N := rc.2.2) hx hb hts hin ty0 hty0 hnm hown hK hP hD hS q0 hw hc k hkN (hts _ (xg_of hl rfl)) (fun _ h => h) hfin hty hnar hfit hkl hd (fun H1 locs1 hP1 hD1 hS1 => ?_)
    rw [hset] at hP1 hD1
    exact kk H1 locs1 ⟨hP1, hD1, hS1, hK⟩
end XST
end
section
/-! every step that is no call and no end -/
section XNX
variable {M M' : xM} {pc pc' j d i : Nat} {L L' : xLs} {st st' : List xV}
theorem iv_ldI (h : xldI pc i L st M = some (.inl (pc', L', st', M'))) : ∃ x, L[i]? = some (some (vI x)) ∧ pc' = pc ∧ L' = L ∧ st' = vI x :: st ∧ M' = M := by
  unfold xldI at h
  split at h
  · cases h; exact ⟨_, ‹_›, rfl, rfl, rfl, rfl⟩
  · cases h
theorem iv_ldJ (h : xldJ pc i L st M = some (.inl (pc', L', st', M'))) : ∃ x, L[i]? = some (some (vL x)) ∧ pc' = pc ∧ L' = L ∧ st' = vL x :: st ∧ M' = M := by
  unfold xldJ at h
  split at h
  · cases h; exact ⟨_, ‹_›, rfl, rfl, rfl, rfl⟩
  · cases h
theorem iv_ldA (h : xldA pc i L st M = some (.inl (pc', L', st', M'))) : ∃ o, L[i]? = some (some (.inr (.inr o))) ∧ pc' = pc ∧ L' = L ∧ st' = .inr (.inr o) :: st ∧ M' = M := by
  unfold xldA at h
  split at h
  · cases h; exact ⟨_, ‹_›, rfl, rfl, rfl, rfl⟩
  · cases h
theorem iv_st {v : xV} (h : xst L i v = some L') : xns L i = true ∧ i < L.length ∧ L' = L.set i (some v) := by
  unfold xst at h
  split at h
  · rename_i hb
    cases h; exact ⟨hb.1, hb.2, rfl⟩
  · cases h
theorem iv_stI (h : xstI pc i L st M = some (.inl (pc', L', st', M'))) : ∃ x r, st = vI x :: r ∧ (xns L i = true ∧ i < L.length ∧ L' = L.set i (some (vI x))) ∧ pc' = pc ∧ st' = r ∧ M' = M := by
  unfold xstI at h
  split at h
  · split at h
    · cases h; exact ⟨_, _, rfl, iv_st ‹_›, rfl, rfl, rfl⟩
    · cases h
  · cases h
theorem iv_stA (h : xstA pc i L st M = some (.inl (pc', L', st', M'))) : ∃ o r, st = .inr (.inr o) :: r ∧ (xns L i = true ∧ i < L.length ∧ L' = L.set i (some (.inr (.inr o)))) ∧ pc' = pc ∧ st' = r ∧ M' = M := by
  unfold xstA at h
  split at h
  · split at h
    · cases h; exact ⟨_, _, rfl, iv_st ‹_›, rfl, rfl, rfl⟩
    · cases h
  · cases h
theorem iv_b2 {f : Int32 → Int32 → Int32} (h : xb2 f pc L st M = some (.inl (pc', L', st', M'))) : ∃ x y r, st = vI y :: vI x :: r ∧ pc' = pc + 1 ∧ L' = L ∧ st' = vI (f x y) :: r ∧ M' = M := by
  unfold xb2 at h
  split at h
  · cases h; exact ⟨_, _, _, rfl, rfl, rfl, rfl, rfl⟩
  · cases h
theorem iv_j2 {f : Int64 → Int64 → Int64} (h : xj2 f pc L st M = some (.inl (pc', L', st', M'))) : ∃ x y r, st = vL y :: vL x :: r ∧ pc' = pc + 1 ∧ L' = L ∧ st' = vL (f x y) :: r ∧ M' = M := by
  unfold xj2 at h
  split at h
  · cases h; exact ⟨_, _, _, rfl, rfl, rfl, rfl, rfl⟩
  · cases h
theorem iv_tg {off : Int} {t : Nat} (h : xtg pc off = some t) : (pc : Int) + off = (t : Int) := by
  unfold xtg at h
  split at h
  · cases h; omega
  · cases h
theorem iv_br {off : Int} {q : Prop} {dq : Decidable q} (h : xbr pc off q dq L st M = some (.inl (pc', L', st', M'))) : ∃ t : Nat, (pc : Int) + off = (t : Int) ∧ ((q ∧ pc' = t) ∨ (¬ q ∧ pc' = pc + 3)) ∧ L' = L ∧ st' = st ∧ M' = M := by
  unfold xbr at h
  split at h
  · rename_i t ht
    split at h
    · cases h; exact ⟨_, iv_tg ht, Or.inl ⟨‹_›, rfl⟩, rfl, rfl, rfl⟩
    · cases h; exact ⟨_, iv_tg ht, Or.inr ⟨‹_›, rfl⟩, rfl, rfl, rfl⟩
  · cases h
theorem iv_get {idx : Nat} (h : xget j idx pc L st M = some (.inl (pc', L', st', M'))) : ∃ t e r k nb v, st = vR t e :: r ∧ xfl (xmo j) idx = some (t, k, nb) ∧ e < xcm j t ∧ xgv M t e k = some v ∧ pc' = pc + 3 ∧ L' = L ∧ st' = v :: r ∧ M' = M := by
  unfold xget at h
  split at h
  · split at h
    · split at h
      · rename_i hb
        obtain ⟨rfl, he⟩ := hb
        split at h
        · cases h; exact ⟨_, _, _, _, _, _, rfl, ‹_›, he, ‹_›, rfl, rfl, rfl, rfl⟩
        · cases h
      · cases h
    · cases h
  · cases h
theorem iv_put {idx : Nat} (h : xput j idx pc L st M = some (.inl (pc', L', st', M'))) : ∃ t e r k nb v, st = v :: vR t e :: r ∧ xfl (xmo j) idx = some (t, k, nb) ∧ e < xcm j t ∧ xpv M t e k v = some M' ∧ pc' = pc + 3 ∧ L' = L ∧ st' = r := by
  unfold xput at h
  split at h
  · split at h
    · split at h
      · rename_i hb
        obtain ⟨rfl, he⟩ := hb
        split at h
        · cases h; exact ⟨_, _, _, _, _, _, rfl, ‹_›, he, ‹_›, rfl, rfl, rfl⟩
        · cases h
      · cases h
    · cases h
  · cases h
theorem iv_alI {ek : Nat} (h : xalI j ek pc L st M = some (.inl (pc', L', st', M'))) : ∃ i t e r, st = vI i :: vR t e :: r ∧ (xob t = none ∧ xek t = ek ∧ e < xcm j t ∧ xinb i (xal t) = true) ∧ pc' = pc + 1 ∧ L' = L ∧ st' = vI (M.1 t e i.toNatClampNeg) :: r ∧ M' = M := by
  unfold xalI at h
  split at h
  · split at h
    · cases h; exact ⟨_, _, _, _, rfl, ‹_›, rfl, rfl, rfl, rfl⟩
    · cases h
  · cases h
theorem iv_alJ (h : xalJ j pc L st M = some (.inl (pc', L', st', M'))) : ∃ i t e r, st = vI i :: vR t e :: r ∧ (xob t = none ∧ xek t = 2 ∧ e < xcm j t ∧ xinb i (xal t) = true) ∧ pc' = pc + 1 ∧ L' = L ∧ st' = vL (M.2.1 t e i.toNatClampNeg) :: r ∧ M' = M := by
  unfold xalJ at h
  split at h
  · split at h
    · cases h; exact ⟨_, _, _, _, rfl, ‹_›, rfl, rfl, rfl, rfl⟩
    · cases h
  · cases h
theorem iv_alA (h : xalA j pc L st M = some (.inl (pc', L', st', M'))) : ∃ i t e r, st = vI i :: vR t e :: r ∧ (xob t = none ∧ 10 ≤ xek t ∧ e < xcm j t ∧ xinb i (xal t) = true) ∧ pc' = pc + 1 ∧ L' = L ∧ st' = (if xek t < 100 then vO (xek t - 10) (M.2.2 t e i.toNatClampNeg) else vR (xek t - 100) i.toNatClampNeg) :: r ∧ M' = M := by
  unfold xalA at h
  split at h
  · split at h
    · cases h; exact ⟨_, _, _, _, rfl, ‹_›, rfl, rfl, rfl, rfl⟩
    · cases h
  · cases h
theorem iv_asI {ek : Nat} (h : xasI j ek pc L st M = some (.inl (pc', L', st', M'))) : ∃ x i t e r, st = vI x :: vI i :: vR t e :: r ∧ (xob t = none ∧ xek t = ek ∧ e < xcm j t ∧ xinb i (xal t) = true ∧ (ek = 1 → x = 0 ∨ x = 1)) ∧ pc' = pc + 1 ∧ L' = L ∧ st' = r ∧ M' = mI M t e i.toNatClampNeg x := by
  unfold xasI at h
  split at h
  · split at h
    · cases h; exact ⟨_, _, _, _, _, rfl, ‹_›, rfl, rfl, rfl, rfl⟩
    · cases h
  · cases h
theorem iv_asJ (h : xasJ j pc L st M = some (.inl (pc', L', st', M'))) : ∃ x i t e r, st = vL x :: vI i :: vR t e :: r ∧ (xob t = none ∧ xek t = 2 ∧ e < xcm j t ∧ xinb i (xal t) = true) ∧ pc' = pc + 1 ∧ L' = L ∧ st' = r ∧ M' = mJ M t e i.toNatClampNeg x := by
  unfold xasJ at h
  split at h
  · split at h
    · cases h; exact ⟨_, _, _, _, _, rfl, ‹_›, rfl, rfl, rfl, rfl⟩
    · cases h
  · cases h
theorem iv_asA (h : xasA j pc L st M = some (.inl (pc', L', st', M'))) : ∃ o i t e r, st = .inr (.inr o) :: vI i :: vR t e :: r ∧ (xob t = none ∧ 10 ≤ xek t ∧ xek t < 100 ∧ e < xcm j t ∧ xinb i (xal t) = true) ∧ (∀ q, o = some q → q.1 = xek t - 10 ∧ q.2 < xcm j q.1) ∧ pc' = pc + 1 ∧ L' = L ∧ st' = r ∧ M' = mR M t e i.toNatClampNeg (o.map fun q => q.2) := by
  unfold xasA at h
  split at h
  · split at h
    · split at h
      · cases h; exact ⟨_, _, _, _, _, rfl, ‹_›, (fun q h => nomatch h), rfl, rfl, rfl, rfl⟩
      · split at h
        · rename_i hb
          cases h; exact ⟨_, _, _, _, _, rfl, ‹_›, (fun q h => by cases h; exact hb), rfl, rfl, rfl, rfl⟩
        · cases h
    · cases h
  · cases h
theorem iv_len (h : xlen j pc L st M = some (.inl (pc', L', st', M'))) : ∃ t e r, st = vR t e :: r ∧ (xob t = none ∧ e < xcm j t) ∧ pc' = pc + 1 ∧ L' = L ∧ st' = vI (Int32.ofNat (xal t)) :: r ∧ M' = M := by
  unfold xlen at h
  split at h
  · split at h
    · cases h; exact ⟨_, _, _, rfl, ‹_›, rfl, rfl, rfl, rfl⟩
    · cases h
  · cases h
theorem iv_copy (h : xcopy j pc L st M = some (.inl (pc', L', st', M'))) : ∃ n dp t' e' sp t e r, st = vI n :: vI dp :: vR t' e' :: vI sp :: vR t e :: r ∧ ((xob t = none ∧ xek t = 0 ∧ e < xcm j t) ∧ (xob t' = none ∧ xek t' = 0 ∧ e' < xcm j t') ∧ (¬ sp < 0 ∧ ¬ dp < 0 ∧ ¬ n < 0) ∧ sp.toNatClampNeg + n.toNatClampNeg ≤ xal t ∧ dp.toNatClampNeg + n.toNatClampNeg ≤ xal t' ∧ r.length ≤ 4) ∧ pc' = pc + 3 ∧ L' = L ∧ st' = r ∧ M' = mC M t e t' e' sp.toNatClampNeg dp.toNatClampNeg n.toNatClampNeg := by
  unfold xcopy at h
  split at h
  · split at h
    · cases h; exact ⟨_, _, _, _, _, _, _, _, rfl, ‹_›, rfl, rfl, rfl, rfl⟩
    · cases h
  · cases h
theorem iv_min (h : xmin pc L st M = some (.inl (pc', L', st', M'))) : ∃ x y r, st = vI y :: vI x :: r ∧ r.length ≤ 4 ∧ pc' = pc + 3 ∧ L' = L ∧ st' = vI (if y < x then y else x) :: r ∧ M' = M := by
  unfold xmin at h
  split at h
  · split at h
    · cases h; exact ⟨_, _, _, rfl, ‹_›, rfl, rfl, rfl, rfl⟩
    · cases h
  · cases h
theorem iv_ins {idx : Nat} (h : xins d j idx pc L st M = some (.inl (pc', L', st', M'))) : 0 < d ∧ (((xmo j, idx) ∈ xacL ∧ xcopy j pc L st M = some (.inl (pc', L', st', M'))) ∨ ((xmo j, idx) ∈ xmmL ∧ xmin pc L st M = some (.inl (pc', L', st', M')))) := by
  unfold xins at h
  split at h
  · split at h
    · unfold xcall at h
      split at h <;> cases h
    · cases h
  · split at h
    · rename_i hb
      exact ⟨hb.1, Or.inl ⟨hb.2, h⟩⟩
    · split at h
      · rename_i hb
        exact ⟨hb.1, Or.inr ⟨hb.2, h⟩⟩
      · cases h
theorem iv_sw {dflt lo hi : Int} {offs : Array Int} (h : xsw pc dflt lo hi offs L st M = some (.inl (pc', L', st', M'))) : ∃ x r, st = vI x :: r ∧ L' = L ∧ st' = r ∧ M' = M ∧ (((x.toInt < lo ∨ hi < x.toInt) ∧ (pc : Int) + dflt = (pc' : Int)) ∨ (¬ x.toInt < lo ∧ ¬ hi < x.toInt ∧ ∃ off, offs[(x.toInt - lo).toNat]? = some off ∧ (pc : Int) + off = (pc' : Int))) := by
  unfold xsw at h
  split at h
  · split at h
    · split at h
      · cases h; exact ⟨_, _, rfl, rfl, rfl, rfl, Or.inl ⟨‹_›, iv_tg ‹_›⟩⟩
      · cases h
    · rename_i hb
      split at h
      · split at h
        · cases h; exact ⟨_, _, rfl, rfl, rfl, rfl, Or.inr ⟨fun q => hb (Or.inl q), fun q => hb (Or.inr q), _, ‹_›, iv_tg ‹_›⟩⟩
        · cases h
      · cases h
  · cases h
theorem xinb_in {i : Int32} {n : Nat} (h : xinb i n = true) : vp_in i n := by
  unfold xinb at h
  simp only [Bool.and_eq_true, decide_eq_true_eq] at h
  intro q
  rcases q with q | q
  · exact h.1 q
  · exact absurd q (Nat.not_le.mpr h.2)
end XNX
end
section
/-! THE STEP THEOREM: what goes on in the small machine goes on in the JVM -/
section XNW
variable {p : Program} {l : Launch} {e : Env} {R : Room} {s : State} {m : MethodId} {args : Array Value} {below : List Frame} {meth : Method} {c : Code} {H H0 : Heap} {locs : List Loc} {Q : State → Prop} {D : va_G} {ad : Nat → Nat → Nat} {cA : Nat → ClassId} {A : Nat → Prop} {M : xM} {j pc : Nat} {ls : Array Slot} {rest : List Value}
theorem xar_at {t e' q0 : Nat} (h0 : xob t = none) (hq : (xcs (xsj j))[q0]? = some (t, e')) : (xw ad cA (xsj j) M)[q0]? = some (ad t e', .inl (cA t, xar ad M t e')) := by
  rw [xw_at M hq]
  unfold xcell
  rw [h0]
theorem xarI {t e' : Nat} (h : xek t ≤ 1) : xar ad M t e' = (xal t, .inl (M.1 t e')) := by unfold xar; rw [if_pos h]
theorem xarJ {t e' : Nat} (h : xek t = 2) : xar ad M t e' = (xal t, .inr (.inl (M.2.1 t e'))) := by unfold xar; rw [if_neg (by omega), if_pos h]
theorem xarA {t e' : Nat} (h : 10 ≤ xek t) : xar ad M t e' = (xal t, .inr (.inr (.inr (.inr (fun j => if xek t < 100 then (M.2.2 t e' j).map (ad (xek t - 10)) else some (ad (xek t - 100) j)))))) := by unfold xar; rw [if_neg (by omega), if_neg (by omega)]
theorem xw_setA {t e' q0 k : Nat} {M' : xM} (h0 : xob t = none) (hD : va_D A (xw ad cA (xsj j) M)) (hq : (xcs (xsj j))[q0]? = some (t, e')) (hag : xag M M' t e' k) : (xw ad cA (xsj j) M).set q0 (ad t e', .inl (cA t, xar ad M' t e')) = xw ad cA (xsj j) M' :=
  xw_set hD hq (by unfold xcell; rw [h0]) (fun t' e'' hne => xag_cell hag t' e'' hne)
theorem mI_row (M : xM) (t e' k : Nat) (x : Int32) : (mI M t e' k x).1 t e' = upd (M.1 t e') k x := by
  funext q
  simp only [mI, xu, upd, true_and]
theorem mJ_row (M : xM) (t e' k : Nat) (x : Int64) : (mJ M t e' k x).2.1 t e' = vp_updL (M.2.1 t e') k x := by
  funext q
  simp only [mJ, xu, vp_updL, true_and]
theorem mR_row (M : xM) (t e' k : Nat) (x : Option Nat) : (mR M t e' k x).2.2 t e' = va_up (M.2.2 t e') k x := by
  funext q
  by_cases h : q = k
  · subst h
    simp [mR, xu, va_up]
  · simp [mR, xu, va_up, h]
theorem xs_alI {t e' : Nat} {i : Int32} {ins : Instr} (hins : (xek t = 0 ∧ ins = .iaload) ∨ (xek t = 1 ∧ ins = .baload)) (B : xB p s m args c j) (Wd : xWd D ad cA (xsj j) A H0 s M H locs) (hd : decode (xmc j) pc = .ok (ins, 1)) (h0 : xob t = none) (he : e' < xcm j t) (hi : xinb i (xal t) = true)
    (kk : W p l e R s m args below meth c H locs 0 0 Q (F0 m (pc + 1) ls (.int (M.1 t e' i.toNatClampNeg) :: rest))) : W p l e R s m args below meth c H locs 0 0 Q (F0 m pc ls (.int i :: .ref (ad t e') :: rest)) := by
  obtain ⟨hx, hb, hml, hown, hts, hN⟩ := B
  obtain ⟨hP, hD, hS, hK⟩ := Wd
  obtain ⟨q0, hq0⟩ := xcs_at he
  have hcn := (xcm_lt he).2
  obtain ⟨t0, ht0⟩ := xty_at (cA := cA) h0 hcn
  have hw := xar_at (ad := ad) (cA := cA) (M := M) h0 hq0
  obtain ⟨a0, a1, -⟩ := xat_ok t (xcn_lt hcn) h0
  rcases hins with ⟨hk, rfl⟩ | ⟨hk, rfl⟩
  · rw [xarI (by omega)] at hw
    rw [a0 hk] at ht0
    exact va_iald hx hb hK hP q0 t0 hw ht0 (xinb_in hi) hd kk
  · rw [xarI (by omega)] at hw
    rw [a1 hk] at ht0
    exact va_zald hx hb hK hP q0 t0 hw ht0 (xinb_in hi) hd kk
theorem xs_alJ {t e' : Nat} {i : Int32} (B : xB p s m args c j) (Wd : xWd D ad cA (xsj j) A H0 s M H locs) (hd : decode (xmc j) pc = .ok (.laload, 1)) (h0 : xob t = none) (hk : xek t = 2) (he : e' < xcm j t) (hi : xinb i (xal t) = true)
    (kk : W p l e R s m args below meth c H locs 0 0 Q (F0 m (pc + 1) ls (.long (M.2.1 t e' i.toNatClampNeg) :: rest))) : W p l e R s m args below meth c H locs 0 0 Q (F0 m pc ls (.int i :: .ref (ad t e') :: rest)) := by
  obtain ⟨hx, hb, hml, hown, hts, hN⟩ := B
  obtain ⟨hP, hD, hS, hK⟩ := Wd
  obtain ⟨q0, hq0⟩ := xcs_at he
  have hcn := (xcm_lt he).2
  obtain ⟨t0, ht0⟩ := xty_at (cA := cA) h0 hcn
  have hw := xar_at (ad := ad) (cA := cA) (M := M) h0 hq0
  obtain ⟨-, -, a2, -⟩ := xat_ok t (xcn_lt hcn) h0
  rw [xarJ hk] at hw
  rw [a2 hk] at ht0
  exact va_lald hx hb hK hP q0 t0 hw ht0 (xinb_in hi) hd kk
theorem xs_alA {t e' : Nat} {i : Int32} (B : xB p s m args c j) (Wd : xWd D ad cA (xsj j) A H0 s M H locs) (hd : decode (xmc j) pc = .ok (.aaload, 1)) (h0 : xob t = none) (hk : 10 ≤ xek t) (he : e' < xcm j t) (hi : xinb i (xal t) = true)
    (kk : W p l e R s m args below meth c H locs 0 0 Q (F0 m (pc + 1) ls (cv ad (if xek t < 100 then vO (xek t - 10) (M.2.2 t e' i.toNatClampNeg) else vR (xek t - 100) i.toNatClampNeg) :: rest))) : W p l e R s m args below meth c H locs 0 0 Q (F0 m pc ls (.int i :: .ref (ad t e') :: rest)) := by
  obtain ⟨hx, hb, hml, hown, hts, hN⟩ := B
  obtain ⟨hP, hD, hS, hK⟩ := Wd
  obtain ⟨q0, hq0⟩ := xcs_at he
  have hcn := (xcm_lt he).2
  obtain ⟨t0, ht0⟩ := xty_at (cA := cA) h0 hcn
  have hw := xar_at (ad := ad) (cA := cA) (M := M) h0 hq0
  obtain ⟨-, -, -, a3⟩ := xat_ok t (xcn_lt hcn) h0
  obtain ⟨ci, -, rc, hc, hty, -⟩ := a3 hk
  rw [xarA hk] at hw
  rw [hty] at ht0
  refine va_aldq hx hb hK hP q0 t0 hw ht0 (xinb_in hi) hd ?_
  have e1 : va_rf (if xek t < 100 then (M.2.2 t e' i.toNatClampNeg).map (ad (xek t - 10)) else some (ad (xek t - 100) i.toNatClampNeg)) = cv ad (if xek t < 100 then vO (xek t - 10) (M.2.2 t e' i.toNatClampNeg) else vR (xek t - 100) i.toNatClampNeg) := by
    by_cases h : xek t < 100
    · rw [if_pos h, if_pos h]
      cases M.2.2 t e' i.toNatClampNeg <;> rfl
    · rw [if_neg h, if_neg h]; rfl
  rw [e1]
  exact kk
theorem xs_asI {t e' : Nat} {i x : Int32} {ins : Instr} (hins : (xek t = 0 ∧ ins = .iastore) ∨ (xek t = 1 ∧ ins = .bastore ∧ (x = 0 ∨ x = 1))) (B : xB p s m args c j) (Wd : xWd D ad cA (xsj j) A H0 s M H locs) (hd : decode (xmc j) pc = .ok (ins, 1)) (h0 : xob t = none) (he : e' < xcm j t) (hi : xinb i (xal t) = true)
    (kk : ∀ (H1 : Heap) (locs1 : List Loc), xWd D ad cA (xsj j) A H0 s (mI M t e' i.toNatClampNeg x) H1 locs1 → W p l e R s m args below meth c H1 locs1 0 0 Q (F0 m (pc + 1) ls rest)) : W p l e R s m args below meth c H locs 0 0 Q (F0 m pc ls (.int x :: .int i :: .ref (ad t e') :: rest)) := by
  obtain ⟨hx, hb, hml, hown, hts, hN⟩ := B
  obtain ⟨hP, hD, hS, hK⟩ := Wd
  obtain ⟨q0, hq0⟩ := xcs_at he
  have hcn := (xcm_lt he).2
  obtain ⟨t0, ht0⟩ := xty_at (cA := cA) h0 hcn
  have hw := xar_at (ad := ad) (cA := cA) (M := M) h0 hq0
  have hset := xw_setA (cA := cA) (M' := mI M t e' i.toNatClampNeg x) h0 hD hq0 xag_I
  obtain ⟨a0, a1, -⟩ := xat_ok t (xcn_lt hcn) h0
  rcases hins with ⟨hk, rfl⟩ | ⟨hk, rfl, hx01⟩
  · rw [xarI (by omega)] at hw hset
    rw [mI_row] at hset
    rw [a0 hk] at ht0
    refine va_iast hx hb hK hP hD hS q0 t0 hw ht0 (xinb_in hi) hd (fun H1 locs1 hP1 hD1 hS1 => ?_)
    rw [hset] at hP1 hD1
    exact kk H1 locs1 ⟨hP1, hD1, hS1, hK⟩
  · rw [xarI (by omega)] at hw hset
    rw [mI_row] at hset
    rw [a1 hk] at ht0
    refine va_zast hx hb hK hP hD hS q0 t0 hw ht0 (xinb_in hi) hd (fun H1 locs1 hP1 hD1 hS1 => ?_)
    have e1 : vp_nar .boolean x = x := by rcases hx01 with rfl | rfl <;> rfl
    rw [e1, hset] at hP1 hD1
    exact kk H1 locs1 ⟨hP1, hD1, hS1, hK⟩
theorem xs_asJ {t e' : Nat} {i : Int32} {x : Int64} (B : xB p s m args c j) (Wd : xWd D ad cA (xsj j) A H0 s M H locs) (hd : decode (xmc j) pc = .ok (.lastore, 1)) (h0 : xob t = none) (hk : xek t = 2) (he : e' < xcm j t) (hi : xinb i (xal t) = true)
    (kk : ∀ (H1 : Heap) (locs1 : List Loc), xWd D ad cA (xsj j) A H0 s (mJ M t e' i.toNatClampNeg x) H1 locs1 → W p l e R s m args below meth c H1 locs1 0 0 Q (F0 m (pc + 1) ls rest)) : W p l e R s m args below meth c H locs 0 0 Q (F0 m pc ls (.long x :: .int i :: .ref (ad t e') :: rest)) := by
  obtain ⟨hx, hb, hml, hown, hts, hN⟩ := B
  obtain ⟨hP, hD, hS, hK⟩ := Wd
  obtain ⟨q0, hq0⟩ := xcs_at he
  have hcn := (xcm_lt he).2
  obtain ⟨t0, ht0⟩ := xty_at (cA := cA) h0 hcn
  have hw := xar_at (ad := ad) (cA := cA) (M := M) h0 hq0
  have hset := xw_setA (cA := cA) (M' := mJ M t e' i.toNatClampNeg x) h0 hD hq0 xag_J
  obtain ⟨-, -, a2, -⟩ := xat_ok t (xcn_lt hcn) h0
  rw [xarJ hk] at hw hset
  rw [mJ_row] at hset
  rw [a2 hk] at ht0
  refine va_last hx hb hK hP hD hS q0 t0 hw ht0 (xinb_in hi) hd (fun H1 locs1 hP1 hD1 hS1 => ?_)
  rw [hset] at hP1 hD1
  exact kk H1 locs1 ⟨hP1, hD1, hS1, hK⟩
theorem xs_asA {t e' : Nat} {i : Int32} {o : Option (Nat × Nat)} (B : xB p s m args c j) (Wd : xWd D ad cA (xsj j) A H0 s M H locs) (hd : decode (xmc j) pc = .ok (.aastore, 1)) (h0 : xob t = none) (hk : 10 ≤ xek t) (hk2 : xek t < 100) (he : e' < xcm j t) (hi : xinb i (xal t) = true) (ho : ∀ q, o = some q → q.1 = xek t - 10 ∧ q.2 < xcm j q.1)
    (kk : ∀ (H1 : Heap) (locs1 : List Loc), xWd D ad cA (xsj j) A H0 s (mR M t e' i.toNatClampNeg (o.map fun q => q.2)) H1 locs1 → W p l e R s m args below meth c H1 locs1 0 0 Q (F0 m (pc + 1) ls rest)) : W p l e R s m args below meth c H locs 0 0 Q (F0 m pc ls (cv ad (.inr (.inr o)) :: .int i :: .ref (ad t e') :: rest)) := by
  obtain ⟨hx, hb, hml, hown, hts, hN⟩ := B
  obtain ⟨hP, hD, hS, hK⟩ := Wd
  obtain ⟨q0, hq0⟩ := xcs_at he
  have hcn := (xcm_lt he).2
  obtain ⟨t0, ht0⟩ := xty_at (cA := cA) h0 hcn
  have hw := xar_at (ad := ad) (cA := cA) (M := M) h0 hq0
  have hset := xw_setA (cA := cA) (M' := mR M t e' i.toNatClampNeg (o.map fun q => q.2)) h0 hD hq0 xag_R
  obtain ⟨-, -, -, a3⟩ := xat_ok t (xcn_lt hcn) h0
  obtain ⟨ci, -, rc, hc, hty, hob⟩ := a3 hk
  rw [xarA hk] at hw hset
  rw [mR_row] at hset
  simp only [if_pos hk2] at hw hset
  rw [hty] at ht0
  have hup : ∀ v : Option Nat, (fun k => (va_up (M.2.2 t e') i.toNatClampNeg v k).map (ad (xek t - 10))) = va_up (fun k => (M.2.2 t e' k).map (ad (xek t - 10))) i.toNatClampNeg (v.map (ad (xek t - 10))) := by
    intro v
    funext k
    unfold va_up
    split <;> rfl
  rw [hup] at hset
  cases o with
  | none =>
    refine va_astqN hx hb hK hP hD hS q0 t0 hw ht0 (xinb_in hi) hd (fun H1 locs1 hP1 hD1 hS1 => ?_)
    have hset : (xw ad cA (xsj j) M).set q0 (ad t e', .inl (cA t, xal t, .inr (.inr (.inr (.inr (va_up (fun k => (M.2.2 t e' k).map (ad (xek t - 10))) i.toNatClampNeg none)))))) = _ := hset
    rw [hset] at hP1 hD1
    exact kk H1 locs1 ⟨hP1, hD1, hS1, hK⟩
  | some q =>
    obtain ⟨h1, h2⟩ := ho q rfl
    obtain ⟨qk, hqk⟩ := xcs_at h2
    have hwk := xw_at (ad := ad) (cA := cA) M hqk
    have hck : xcell ad cA M q.1 q.2 = .inr (ci, xfs ad M q.1 q.2) := by unfold xcell; rw [h1, hob hk2]
    rw [hck] at hwk
    refine va_astq hx hb hK hP hD hS q0 t0 qk ci hw ht0 hwk hc (xinb_in hi) hd (fun H1 locs1 hP1 hD1 hS1 => ?_)
    have hset : (xw ad cA (xsj j) M).set q0 (ad t e', .inl (cA t, xal t, .inr (.inr (.inr (.inr (va_up (fun k => (M.2.2 t e' k).map (ad (xek t - 10))) i.toNatClampNeg (some (ad (xek t - 10) q.2)))))))) = _ := hset
    rw [h1, hset] at hP1 hD1
    exact kk H1 locs1 ⟨hP1, hD1, hS1, hK⟩
theorem xs_len {t e' : Nat} (B : xB p s m args c j) (Wd : xWd D ad cA (xsj j) A H0 s M H locs) (hd : decode (xmc j) pc = .ok (.arraylength, 1)) (h0 : xob t = none) (he : e' < xcm j t)
    (kk : W p l e R s m args below meth c H locs 0 0 Q (F0 m (pc + 1) ls (.int (Int32.ofNat (xal t)) :: rest))) : W p l e R s m args below meth c H locs 0 0 Q (F0 m pc ls (.ref (ad t e') :: rest)) := by
  obtain ⟨hx, hb, hml, hown, hts, hN⟩ := B
  obtain ⟨hP, hD, hS, hK⟩ := Wd
  obtain ⟨q0, hq0⟩ := xcs_at he
  obtain ⟨t0, ht0⟩ := xty_at (cA := cA) h0 (xcm_lt he).2
  exact va_alen hx hb hK hP q0 t0 (xar_at (ad := ad) (cA := cA) (M := M) h0 hq0) ht0 (v := Int32.ofNat (xal t)) rfl hd kk
theorem xs_copy {idx d t e' t2 e2 : Nat} {n dp sp : Int32} {r : List xV} (hR : R = xrm d) (hd0 : 0 < d) (hsz : ls.size = xmL j) (hac : (xmo j, idx) ∈ xacL) (B : xB p s m args c j) (Wd : xWd D ad cA (xsj j) A H0 s M H locs) (hd : decode (xmc j) pc = .ok (.invokestatic idx, 3))
    (h1 : xob t = none ∧ xek t = 0 ∧ e' < xcm j t) (h2 : xob t2 = none ∧ xek t2 = 0 ∧ e2 < xcm j t2) (h3 : ¬ sp < 0 ∧ ¬ dp < 0 ∧ ¬ n < 0) (h4 : sp.toNatClampNeg + n.toNatClampNeg ≤ xal t) (h5 : dp.toNatClampNeg + n.toNatClampNeg ≤ xal t2) (h6 : r.length ≤ 4)
    (kk : ∀ (H1 : Heap) (locs1 : List Loc), xWd D ad cA (xsj j) A H0 s (mC M t e' t2 e2 sp.toNatClampNeg dp.toNatClampNeg n.toNatClampNeg) H1 locs1 → W p l e R s m args below meth c H1 locs1 0 0 Q (F0 m (pc + 3) ls (r.map (cv ad)))) : W p l e R s m args below meth c H locs 0 0 Q (F0 m pc ls (.int n :: .int dp :: .ref (ad t2 e2) :: .int sp :: .ref (ad t e') :: r.map (cv ad))) := by
  obtain ⟨hx, hb, hml, hown, hts, hN⟩ := B
  obtain ⟨hP, hD, hS, hK⟩ := Wd
  obtain ⟨q0, hq0⟩ := xcs_at h1.2.2
  obtain ⟨q1, hq1⟩ := xcs_at h2.2.2
  obtain ⟨t0, ht0⟩ := xty_at (cA := cA) h1.1 (xcm_lt h1.2.2).2
  obtain ⟨t1, ht1⟩ := xty_at (cA := cA) h2.1 (xcm_lt h2.2.2).2
  rw [(xat_ok t (xcn_lt (xcm_lt h1.2.2).2) h1.1).1 h1.2.1] at ht0
  rw [(xat_ok t2 (xcn_lt (xcm_lt h2.2.2).2) h2.1).1 h2.2.1] at ht1
  have hw0 := xar_at (ad := ad) (cA := cA) (M := M) h1.1 hq0
  have hw1 := xar_at (ad := ad) (cA := cA) (M := M) h2.1 hq1
  rw [xarI (by omega)] at hw0 hw1
  have hset : (xw ad cA (xsj j) M).set q1 (ad t2 e2, .inl (cA t2, xal t2, .inl (va_cpy (M.1 t e') (M.1 t2 e2) sp.toNatClampNeg dp.toNatClampNeg n.toNatClampNeg))) = xw ad cA (xsj j) (mC M t e' t2 e2 sp.toNatClampNeg dp.toNatClampNeg n.toNatClampNeg) := by
    refine xw_set hD hq1 ?_ ?_
    · unfold xcell
      rw [h2.1]
      simp only [xarI (show xek t2 ≤ 1 by omega)]
      congr 3
      simp only [Sum.inl.injEq]
      funext k
      simp [mC]
    · intro t' e'' hne
      have e1 : (mC M t e' t2 e2 sp.toNatClampNeg dp.toNatClampNeg n.toNatClampNeg).1 t' e'' = M.1 t' e'' := by
        funext k
        simp only [mC, if_neg hne]
      unfold xcell xar xfs xfv
      rw [e1]
      rfl
  have hl := x_mem_pos _ xac_w _ (List.mem_map.mpr ⟨_, hac, rfl⟩)
  have hsum := cv_sum ad r
  subst hR
  refine va_copyi (D := D) hx hb (by rw [hml, hsz]) hown (hts _ (xg_of hl rfl)) (hts _ (xg_of xac_nat rfl)) (hts _ (xg_of xac_sta rfl)) (hts _ (xg_of xac_ini rfl)) hK hP hD hS q0 q1 t0 t1 (ty := .int) hw0 hw1 ht0 ht1 rfl h3.1 h3.2.1 h3.2.2 h4 h5 (fun _ _ => rfl) (show 1 ≤ d from hd0) ?_ hd (fun H1 locs1 hP1 hD1 hS1 => ?_)
  · have : nativeFrameWords "java/lang/System" "arraycopy" 5 = 7 := by decide
    rw [this]
    show _ ≤ 38 * d
    omega
  · rw [hset] at hP1 hD1
    exact kk H1 locs1 ⟨hP1, hD1, hS1, hK⟩
theorem xs_min {idx d : Nat} {x y : Int32} {r : List xV} (hR : R = xrm d) (hd0 : 0 < d) (hsz : ls.size = xmL j) (hmm : (xmo j, idx) ∈ xmmL) (B : xB p s m args c j) (hd : decode (xmc j) pc = .ok (.invokestatic idx, 3)) (h6 : r.length ≤ 4)
    (kk : W p l e R s m args below meth c H locs 0 0 Q (F0 m (pc + 3) ls (.int (if y < x then y else x) :: r.map (cv ad)))) : W p l e R s m args below meth c H locs 0 0 Q (F0 m pc ls (.int y :: .int x :: r.map (cv ad))) := by
  obtain ⟨hx, hb, hml, hown, hts, hN⟩ := B
  have hl := x_mem_pos _ xmm_w _ (List.mem_map.mpr ⟨_, hmm, rfl⟩)
  have hsum := cv_sum ad r
  subst hR
  refine va_mmin hx hb (by rw [hml, hsz]) hown (hts _ (xg_of hl rfl)) (hts _ (xg_of xmm_sta rfl)) (hts _ (xg_of xmm_ini rfl)) (hts _ (xg_of xmm_cod rfl)) (show 1 ≤ d from hd0) ?_ (Nat.zero_le _) (Nat.zero_le _) hd kk
  show _ ≤ 38 * d
  omega
end XNW
end
section
/-! one theorem of all steps that go on -/
section XNN
variable {p : Program} {l : Launch} {e : Env} {R : Room} {s : State} {m : MethodId} {args : Array Value} {below : List Frame} {meth : Method} {c : Code} {H H0 : Heap} {locs : List Loc} {Q : State → Prop} {D : va_G} {ad : Nat → Nat → Nat} {cA : Nat → ClassId} {A : Nat → Prop} {M M' : xM} {j d pc pc' : Nat} {L L' : xLs} {st st' : List xV} {ls : Array Slot} {rest : List Value}
theorem xd1 {cc : ByteArray} {i : Instr} {n k : Nat} (hd : decode cc pc = .ok (i, n)) (hn : xln i = n ∨ xln i = 0) (hk : xln i = k) (h0 : ¬ k = 0) : decode cc pc = .ok (i, k) := by
  rcases hn with h | h
  · rw [← hk, h]; exact hd
  · exact absurd (hk.symm.trans h) h0
theorem xad_inj {t e' t2 e2 : Nat} (Wd : xWd D ad cA (xsj j) A H0 s M H locs) (h1 : e' < xcm j t) (h2 : e2 < xcm j t2) (h : ad t e' = ad t2 e2) : (t, e') = (t2, e2) := by
  obtain ⟨q1, hq1⟩ := xcs_at h1
  obtain ⟨q2, hq2⟩ := xcs_at h2
  have := Wd.2.1.1 q1 q2 _ _ (xw_at M hq1) (xw_at M hq2) h
  subst this
  exact Option.some.inj (hq1.symm.trans hq2)
theorem xo_inj {o o' : Option (Nat × Nat)} (Wd : xWd D ad cA (xsj j) A H0 s M H locs) (h1 : xvo j o = true) (h2 : xvo j o' = true) : (o.map fun q => ad q.1 q.2) = (o'.map fun q => ad q.1 q.2) ↔ o = o' := by
  constructor
  · intro h
    cases o with
    | none => cases o' with
      | none => rfl
      | some q => cases h
    | some q => cases o' with
      | none => cases h
      | some q' => exact congrArg some (xad_inj Wd (of_decide_eq_true h1) (of_decide_eq_true h2) (Option.some.inj h))
  · intro h; rw [h]
set_option maxHeartbeats 4000000 in
theorem x_next (hR : R = xrm d) (B : xB p s m args c j) (Wd : xWd D ad cA (xsj j) A H0 s M H locs) (hl : xlh ad ls (xmL j) L) (h : x1 d j (pc, L, st, M) = some (.inl (pc', L', st', M')))
    (kk : ∀ (H1 : Heap) (locs1 : List Loc) (ls1 : Array Slot), xWd D ad cA (xsj j) A H0 s M' H1 locs1 → xlh ad ls1 (xmL j) L' → W p l e R s m args below meth c H1 locs1 0 0 Q (F0 m pc' ls1 (st'.map (cv ad)))) : W p l e R s m args below meth c H locs 0 0 Q (F0 m pc ls (st.map (cv ad))) := by
  unfold x1 at h
  cases hf : xfet j pc with
  | none => rw [hf] at h; cases h
  | some q =>
    obtain ⟨i, n⟩ := q
    rw [hf] at h
    obtain ⟨hd, hn⟩ := xfet_spec hf
    have hx := B.1
    have hb := B.2.1
    have hts := B.2.2.2.2.1
    have hown := B.2.2.2.1
    have k0 : ∀ {st1 : List xV}, M' = M → L' = L → st' = st1 → W p l e R s m args below meth c H locs 0 0 Q (F0 m pc' ls (st1.map (cv ad))) := fun e1 e2 e3 => by
      have := kk H locs ls (by rw [e1]; exact Wd) (by rw [e2]; exact hl)
      rw [← e3]; exact this
    cases i with
    | iconst k =>
      have hd := xd1 hd hn (k := 1) rfl (by decide)
      cases h
      exact lv_iconst hx hb hd rfl (k0 rfl rfl rfl)
    | bipush k =>
      have hd := xd1 hd hn (k := 2) rfl (by decide)
      cases h
      exact lv_bipush hx hb hd rfl (k0 rfl rfl rfl)
    | sipush k =>
      have hd := xd1 hd hn (k := 3) rfl (by decide)
      cases h
      exact lv_sipush hx hb hd rfl (k0 rfl rfl rfl)
    | lconst k =>
      have hd := xd1 hd hn (k := 1) rfl (by decide)
      cases h
      exact lv_lconst hx hb hd rfl (k0 rfl rfl rfl)
    | ldc x =>
      have hd := xd1 hd hn (k := 2) rfl (by decide)
      simp only [xi] at h
      split at h
      · rename_i v hv
        cases h
        exact lv_ldc hx hb hown (hts _ (xg_of (x_mem_pos _ xkc_w _ (List.mem_map.mpr ⟨_, x_lookup hv, rfl⟩)) rfl)) hd (k0 rfl rfl rfl)
      · cases h
    | ldc_w x =>
      have hd := xd1 hd hn (k := 3) rfl (by decide)
      simp only [xi] at h
      split at h
      · rename_i v hv
        cases h
        exact lv_ldcw hx hb hown (hts _ (xg_of (x_mem_pos _ xkc_w _ (List.mem_map.mpr ⟨_, x_lookup hv, rfl⟩)) rfl)) hd (k0 rfl rfl rfl)
      · cases h
    | ldc2_w x =>
      have hd := xd1 hd hn (k := 3) rfl (by decide)
      simp only [xi] at h
      split at h
      · rename_i v hv
        cases h
        exact lv_ldc2 hx hb hown (hts _ (xg_of (x_mem_pos _ xkl_w _ (List.mem_map.mpr ⟨_, x_lookup hv, rfl⟩)) rfl)) hd (k0 rfl rfl rfl)
      · cases h
    | aconst_null =>
      have hd := xd1 hd hn (k := 1) rfl (by decide)
      cases h
      exact lv_null hx hb hd (k0 rfl rfl rfl)
    | iload k =>
      have hd := xd1 hd hn (k := 2) rfl (by decide)
      obtain ⟨x, hx0, rfl, e2, e3, e1⟩ := iv_ldI h
      exact lv_iload hx hb hd (xlh_at hl hx0) (k0 e1 e2 e3)
    | iload_n k =>
      have hd := xd1 hd hn (k := 1) rfl (by decide)
      obtain ⟨x, hx0, rfl, e2, e3, e1⟩ := iv_ldI h
      exact lv_iload_n hx hb hd rfl (xlh_at hl hx0) (k0 e1 e2 e3)
    | lload k =>
      have hd := xd1 hd hn (k := 2) rfl (by decide)
      obtain ⟨x, hx0, rfl, e2, e3, e1⟩ := iv_ldJ h
      exact lv_lload hx hb hd (xlh_at hl hx0) (k0 e1 e2 e3)
    | lload_n k =>
      have hd := xd1 hd hn (k := 1) rfl (by decide)
      obtain ⟨x, hx0, rfl, e2, e3, e1⟩ := iv_ldJ h
      exact lv_lload_n hx hb hd rfl (xlh_at hl hx0) (k0 e1 e2 e3)
    | aload k =>
      have hd := xd1 hd hn (k := 2) rfl (by decide)
      obtain ⟨o, hx0, rfl, e2, e3, e1⟩ := iv_ldA h
      cases o with
      | none => exact lv_aloadN hx hb hd (xlh_at hl hx0) (k0 e1 e2 e3)
      | some q => exact lv_aload hx hb hd (xlh_at hl hx0) (k0 e1 e2 e3)
    | aload_n k =>
      have hd := xd1 hd hn (k := 1) rfl (by decide)
      obtain ⟨o, hx0, rfl, e2, e3, e1⟩ := iv_ldA h
      cases o with
      | none => exact lv_aload_nN hx hb hd rfl (xlh_at hl hx0) (k0 e1 e2 e3)
      | some q => exact lv_aload_n hx hb hd rfl (xlh_at hl hx0) (k0 e1 e2 e3)
    | istore k =>
      have hd := xd1 hd hn (k := 2) rfl (by decide)
      obtain ⟨x, r, rfl, ⟨g1, g2, rfl⟩, rfl, rfl, rfl⟩ := iv_stI h
      exact lv_istore hx hb hd hl.2 (by rw [← hl.1]; exact g2) rfl (fun ls1 h1 => kk H locs ls1 Wd (xlh_set hl.1 h1 g1 g2))
    | istore_n k =>
      have hd := xd1 hd hn (k := 1) rfl (by decide)
      obtain ⟨x, r, rfl, ⟨g1, g2, rfl⟩, rfl, rfl, rfl⟩ := iv_stI h
      exact lv_istore_n hx hb hd rfl hl.2 (by rw [← hl.1]; exact g2) rfl (fun ls1 h1 => kk H locs ls1 Wd (xlh_set hl.1 h1 g1 g2))
    | astore k =>
      have hd := xd1 hd hn (k := 2) rfl (by decide)
      obtain ⟨o, r, rfl, ⟨g1, g2, rfl⟩, rfl, rfl, rfl⟩ := iv_stA h
      cases o with
      | none => exact lv_astoreN hx hb hd hl.2 (by rw [← hl.1]; exact g2) rfl (fun ls1 h1 => kk H locs ls1 Wd (xlh_set hl.1 h1 g1 g2))
      | some q => exact lv_astore hx hb hd hl.2 (by rw [← hl.1]; exact g2) rfl (fun ls1 h1 => kk H locs ls1 Wd (xlh_set hl.1 h1 g1 g2))
    | astore_n k =>
      have hd := xd1 hd hn (k := 1) rfl (by decide)
      obtain ⟨o, r, rfl, ⟨g1, g2, rfl⟩, rfl, rfl, rfl⟩ := iv_stA h
      cases o with
      | none => exact lv_astore_nN hx hb hd rfl hl.2 (by rw [← hl.1]; exact g2) rfl (fun ls1 h1 => kk H locs ls1 Wd (xlh_set hl.1 h1 g1 g2))
      | some q => exact lv_astore_n hx hb hd rfl hl.2 (by rw [← hl.1]; exact g2) rfl (fun ls1 h1 => kk H locs ls1 Wd (xlh_set hl.1 h1 g1 g2))
    | iinc k v =>
      have hd := xd1 hd hn (k := 3) rfl (by decide)
      simp only [xi] at h
      split at h
      · rename_i x hx0
        split at h
        · rename_i L2 hL2
          cases h
          obtain ⟨g1, g2, rfl⟩ := iv_st hL2
          obtain ⟨k9, hk9⟩ := List.getElem?_of_mem (xlv_mem.mpr ⟨_, hx0, rfl⟩)
          exact lv_iinc hx hb hd hl.2 hk9 rfl (by rw [← hl.1]; exact g2) rfl (fun ls1 h1 => kk H locs ls1 Wd (xlh_set hl.1 h1 g1 g2))
        · cases h
      · cases h
    | iadd =>
      have hd := xd1 hd hn (k := 1) rfl (by decide)
      obtain ⟨x, y, r, rfl, rfl, e2, e3, e1⟩ := iv_b2 h
      exact lv_iadd hx hb hd (k0 e1 e2 e3)
    | isub =>
      have hd := xd1 hd hn (k := 1) rfl (by decide)
      obtain ⟨x, y, r, rfl, rfl, e2, e3, e1⟩ := iv_b2 h
      exact lv_isub hx hb hd (k0 e1 e2 e3)
    | imul =>
      have hd := xd1 hd hn (k := 1) rfl (by decide)
      obtain ⟨x, y, r, rfl, rfl, e2, e3, e1⟩ := iv_b2 h
      exact lv_imul hx hb hd (k0 e1 e2 e3)
    | iand =>
      have hd := xd1 hd hn (k := 1) rfl (by decide)
      obtain ⟨x, y, r, rfl, rfl, e2, e3, e1⟩ := iv_b2 h
      exact lv_iand hx hb hd (k0 e1 e2 e3)
    | ior =>
      have hd := xd1 hd hn (k := 1) rfl (by decide)
      obtain ⟨x, y, r, rfl, rfl, e2, e3, e1⟩ := iv_b2 h
      exact lv_ior hx hb hd (k0 e1 e2 e3)
    | ixor =>
      have hd := xd1 hd hn (k := 1) rfl (by decide)
      obtain ⟨x, y, r, rfl, rfl, e2, e3, e1⟩ := iv_b2 h
      exact lv_ixor hx hb hd (k0 e1 e2 e3)
    | ishl =>
      have hd := xd1 hd hn (k := 1) rfl (by decide)
      obtain ⟨x, y, r, rfl, rfl, e2, e3, e1⟩ := iv_b2 h
      exact lv_ishl hx hb hd (k0 e1 e2 e3)
    | ishr =>
      have hd := xd1 hd hn (k := 1) rfl (by decide)
      obtain ⟨x, y, r, rfl, rfl, e2, e3, e1⟩ := iv_b2 h
      exact lv_ishr hx hb hd (k0 e1 e2 e3)
    | irem =>
      have hd := xd1 hd hn (k := 1) rfl (by decide)
      simp only [xi] at h
      split at h
      · split at h
        · cases h
        · rename_i hy
          cases h
          exact lv_irem hx hb hd hy (k0 rfl rfl rfl)
      · cases h
    | ineg =>
      have hd := xd1 hd hn (k := 1) rfl (by decide)
      simp only [xi] at h
      split at h
      · cases h
        exact lv_ineg hx hb hd (k0 rfl rfl rfl)
      · cases h
    | ladd =>
      have hd := xd1 hd hn (k := 1) rfl (by decide)
      obtain ⟨x, y, r, rfl, rfl, e2, e3, e1⟩ := iv_j2 h
      exact lv_ladd hx hb hd (k0 e1 e2 e3)
    | lsub =>
      have hd := xd1 hd hn (k := 1) rfl (by decide)
      obtain ⟨x, y, r, rfl, rfl, e2, e3, e1⟩ := iv_j2 h
      exact lv_lsub hx hb hd (k0 e1 e2 e3)
    | lcmp =>
      have hd := xd1 hd hn (k := 1) rfl (by decide)
      simp only [xi] at h
      split at h
      · cases h
        exact W.lcmp hx hb hd (k0 rfl rfl rfl)
      · cases h
    | i2l =>
      have hd := xd1 hd hn (k := 1) rfl (by decide)
      simp only [xi] at h
      split at h
      · cases h
        exact lv_i2l hx hb hd rfl (k0 rfl rfl rfl)
      · cases h
    | l2i =>
      have hd := xd1 hd hn (k := 1) rfl (by decide)
      simp only [xi] at h
      split at h
      · cases h
        exact lv_l2i hx hb hd rfl (k0 rfl rfl rfl)
      · cases h
    | dup =>
      have hd := xd1 hd hn (k := 1) rfl (by decide)
      simp only [xi] at h
      split at h
      · cases h
        exact lv_dup hx hb hd rfl (k0 rfl rfl rfl)
      · rename_i o r
        cases h
        exact lv_dup hx hb hd (by cases o <;> rfl) (k0 rfl rfl rfl)
      · cases h
    | dup2 =>
      have hd := xd1 hd hn (k := 1) rfl (by decide)
      simp only [xi] at h
      split at h
      · rename_i x o r
        cases h
        exact lv_dup2_11 hx hb hd rfl (by cases o <;> rfl) (k0 rfl rfl rfl)
      · cases h
    | ifCond cd off =>
      have hd := xd1 hd hn (k := 3) rfl (by decide)
      simp only [xi] at h
      split at h
      · rename_i x r
        obtain ⟨t, ht, hq, e2, e3, e1⟩ := iv_br h
        have kt : xcmp cd x 0 → W p l e R s m args below meth c H locs 0 0 Q (F0 m t ls (r.map (cv ad))) := fun hc => by
          rcases hq with ⟨-, rfl⟩ | ⟨q1, -⟩
          · exact k0 e1 e2 e3
          · exact absurd hc q1
        have kf : ¬ xcmp cd x 0 → W p l e R s m args below meth c H locs 0 0 Q (F0 m (pc + 3) ls (r.map (cv ad))) := fun hc => by
          rcases hq with ⟨q1, -⟩ | ⟨-, rfl⟩
          · exact absurd q1 hc
          · exact k0 e1 e2 e3
        cases cd with
        | eq => exact lv_if_eq hx hb hd ht kt kf
        | ne => exact lv_if_ne hx hb hd ht kt (fun q => kf (fun z => z q))
        | lt => exact lv_if_lt hx hb hd ht kt kf
        | ge => exact lv_if_ge hx hb hd ht kt kf
        | gt => exact lv_if_gt hx hb hd ht kt kf
        | le => exact lv_if_le hx hb hd ht kt kf
      · cases h
    | if_icmp cd off =>
      have hd := xd1 hd hn (k := 3) rfl (by decide)
      simp only [xi] at h
      split at h
      · rename_i y x r
        obtain ⟨t, ht, hq, e2, e3, e1⟩ := iv_br h
        have kt : xcmp cd x y → W p l e R s m args below meth c H locs 0 0 Q (F0 m t ls (r.map (cv ad))) := fun hc => by
          rcases hq with ⟨-, rfl⟩ | ⟨q1, -⟩
          · exact k0 e1 e2 e3
          · exact absurd hc q1
        have kf : ¬ xcmp cd x y → W p l e R s m args below meth c H locs 0 0 Q (F0 m (pc + 3) ls (r.map (cv ad))) := fun hc => by
          rcases hq with ⟨q1, -⟩ | ⟨-, rfl⟩
          · exact absurd q1 hc
          · exact k0 e1 e2 e3
        cases cd with
        | eq => exact lv_icmp_eq hx hb hd ht kt kf
        | ne => exact lv_icmp_ne hx hb hd ht kt (fun q => kf (fun z => z q))
        | lt => exact lv_icmp_lt hx hb hd ht kt kf
        | ge => exact lv_icmp_ge hx hb hd ht kt kf
        | gt => exact lv_icmp_gt hx hb hd ht kt kf
        | le => exact lv_icmp_le hx hb hd ht kt kf
      · cases h
    | ifnull off =>
      have hd := xd1 hd hn (k := 3) rfl (by decide)
      simp only [xi] at h
      split at h
      · rename_i o r
        obtain ⟨t, ht, hq, e2, e3, e1⟩ := iv_br h
        cases o with
        | none =>
          rcases hq with ⟨-, rfl⟩ | ⟨q1, -⟩
          · exact lv_ifnullN hx hb hd ht (k0 e1 e2 e3)
          · exact absurd rfl q1
        | some q =>
          rcases hq with ⟨q1, -⟩ | ⟨-, rfl⟩
          · cases q1
          · exact lv_ifnull hx hb hd (k0 e1 e2 e3)
      · cases h
    | ifnonnull off =>
      have hd := xd1 hd hn (k := 3) rfl (by decide)
      simp only [xi] at h
      split at h
      · rename_i o r
        obtain ⟨t, ht, hq, e2, e3, e1⟩ := iv_br h
        cases o with
        | none =>
          rcases hq with ⟨q1, -⟩ | ⟨-, rfl⟩
          · exact absurd rfl q1
          · exact lv_ifnonnullN hx hb hd (k0 e1 e2 e3)
        | some q =>
          rcases hq with ⟨-, rfl⟩ | ⟨q1, -⟩
          · exact lv_ifnonnull hx hb hd ht (k0 e1 e2 e3)
          · exact absurd (fun z => by cases z) q1
      · cases h
    | if_acmp cd off =>
      have hd := xd1 hd hn (k := 3) rfl (by decide)
      simp only [xi] at h
      split at h
      · rename_i o' o r
        split at h
        · rename_i hv
          have hi := xo_inj Wd hv.1 hv.2
          cases cd with
          | eq =>
            obtain ⟨t, ht, hq, e2, e3, e1⟩ := iv_br h
            have := lv_acmp_eq (p := p) (l := l) (e := e) (R := R) (s := s) (m := m) (args := args) (below := below) (meth := meth) (c := c) (H := H) (locs := locs) (cells := 0) (slots := 0) (Q := Q) (ls := ls) (rest := r.map (cv ad)) hx hb hd ht (rx := o.map fun q => ad q.1 q.2) (ry := o'.map fun q => ad q.1 q.2) (fun hc => by
                rcases hq with ⟨-, rfl⟩ | ⟨q1, -⟩
                · exact k0 e1 e2 e3
                · exact absurd (hi.mp hc) q1) (fun hc => by
                rcases hq with ⟨q1, -⟩ | ⟨-, rfl⟩
                · exact absurd (hi.mpr q1) hc
                · exact k0 e1 e2 e3)
            simp only [List.map_cons, cv_o]
            exact this
          | ne =>
            obtain ⟨t, ht, hq, e2, e3, e1⟩ := iv_br h
            have := lv_acmp_ne (p := p) (l := l) (e := e) (R := R) (s := s) (m := m) (args := args) (below := below) (meth := meth) (c := c) (H := H) (locs := locs) (cells := 0) (slots := 0) (Q := Q) (ls := ls) (rest := r.map (cv ad)) hx hb hd ht (rx := o.map fun q => ad q.1 q.2) (ry := o'.map fun q => ad q.1 q.2) (fun hc => by
                rcases hq with ⟨-, rfl⟩ | ⟨q1, -⟩
                · exact k0 e1 e2 e3
                · exact absurd (fun z => hc (hi.mpr z)) q1) (fun hc => by
                rcases hq with ⟨q1, -⟩ | ⟨-, rfl⟩
                · exact absurd (hi.mp hc) q1
                · exact k0 e1 e2 e3)
            simp only [List.map_cons, cv_o]
            exact this
        · cases h
      · cases h
    | goto off =>
      have hd := xd1 hd hn (k := 3) rfl (by decide)
      simp only [xi] at h
      split at h
      · rename_i t ht
        cases h
        exact lv_goto hx hb hd (iv_tg ht) (k0 rfl rfl rfl)
      · cases h
    | tableswitch dflt lo hi offs =>
      obtain ⟨x, r, rfl, e2, e3, e1, hq⟩ := iv_sw h
      rcases hq with ⟨q1, q2⟩ | ⟨q1, q2, off, q3, q4⟩
      · exact lv_tableOut hx hb hd q1 q2 (k0 e1 e2 e3)
      · exact lv_tableIn hx hb hd q1 q2 q3 q4 (k0 e1 e2 e3)
    | getfield x =>
      have hd := xd1 hd hn (k := 3) rfl (by decide)
      obtain ⟨t, e', r, k, nb, v, rfl, g1, g2, g3, rfl, e2, e3, e1⟩ := iv_get h
      exact xs_get B Wd hd g1 g2 g3 (k0 e1 e2 e3)
    | putfield x =>
      have hd := xd1 hd hn (k := 3) rfl (by decide)
      obtain ⟨t, e', r, k, nb, v, rfl, g1, g2, g3, rfl, rfl, rfl⟩ := iv_put h
      exact xs_put B Wd hd g1 g2 g3 (fun H1 locs1 W1 => kk H1 locs1 ls W1 hl)
    | iaload =>
      have hd := xd1 hd hn (k := 1) rfl (by decide)
      obtain ⟨i, t, e', r, rfl, ⟨g0, g1, g2, g3⟩, rfl, e2, e3, e1⟩ := iv_alI h
      exact xs_alI (Or.inl ⟨g1, rfl⟩) B Wd hd g0 g2 g3 (k0 e1 e2 e3)
    | baload =>
      have hd := xd1 hd hn (k := 1) rfl (by decide)
      obtain ⟨i, t, e', r, rfl, ⟨g0, g1, g2, g3⟩, rfl, e2, e3, e1⟩ := iv_alI h
      exact xs_alI (Or.inr ⟨g1, rfl⟩) B Wd hd g0 g2 g3 (k0 e1 e2 e3)
    | laload =>
      have hd := xd1 hd hn (k := 1) rfl (by decide)
      obtain ⟨i, t, e', r, rfl, ⟨g0, g1, g2, g3⟩, rfl, e2, e3, e1⟩ := iv_alJ h
      exact xs_alJ B Wd hd g0 g1 g2 g3 (k0 e1 e2 e3)
    | aaload =>
      have hd := xd1 hd hn (k := 1) rfl (by decide)
      obtain ⟨i, t, e', r, rfl, ⟨g0, g1, g2, g3⟩, rfl, e2, e3, e1⟩ := iv_alA h
      exact xs_alA B Wd hd g0 g1 g2 g3 (k0 e1 e2 e3)
    | iastore =>
      have hd := xd1 hd hn (k := 1) rfl (by decide)
      obtain ⟨x, i, t, e', r, rfl, ⟨g0, g1, g2, g3, g4⟩, rfl, rfl, rfl, rfl⟩ := iv_asI h
      exact xs_asI (Or.inl ⟨g1, rfl⟩) B Wd hd g0 g2 g3 (fun H1 locs1 W1 => kk H1 locs1 ls W1 hl)
    | bastore =>
      have hd := xd1 hd hn (k := 1) rfl (by decide)
      obtain ⟨x, i, t, e', r, rfl, ⟨g0, g1, g2, g3, g4⟩, rfl, rfl, rfl, rfl⟩ := iv_asI h
      exact xs_asI (Or.inr ⟨g1, rfl, g4 rfl⟩) B Wd hd g0 g2 g3 (fun H1 locs1 W1 => kk H1 locs1 ls W1 hl)
    | lastore =>
      have hd := xd1 hd hn (k := 1) rfl (by decide)
      obtain ⟨x, i, t, e', r, rfl, ⟨g0, g1, g2, g3⟩, rfl, rfl, rfl, rfl⟩ := iv_asJ h
      exact xs_asJ B Wd hd g0 g1 g2 g3 (fun H1 locs1 W1 => kk H1 locs1 ls W1 hl)
    | aastore =>
      have hd := xd1 hd hn (k := 1) rfl (by decide)
      obtain ⟨o, i, t, e', r, rfl, ⟨g0, g1, g2, g3, g4⟩, g5, rfl, rfl, rfl, rfl⟩ := iv_asA h
      exact xs_asA B Wd hd g0 g1 g2 g3 g4 g5 (fun H1 locs1 W1 => kk H1 locs1 ls W1 hl)
    | arraylength =>
      have hd := xd1 hd hn (k := 1) rfl (by decide)
      obtain ⟨t, e', r, rfl, ⟨g0, g1⟩, rfl, e2, e3, e1⟩ := iv_len h
      exact xs_len B Wd hd g0 g1 (k0 e1 e2 e3)
    | invokestatic x =>
      have hd := xd1 hd hn (k := 3) rfl (by decide)
      obtain ⟨hd0, hq⟩ := iv_ins h
      rcases hq with ⟨hm, h⟩ | ⟨hm, h⟩
      · obtain ⟨n, dp, t', e', sp, t, e2, r, rfl, ⟨g1, g2, g3, g4, g5, g6⟩, rfl, rfl, rfl, rfl⟩ := iv_copy h
        exact xs_copy hR hd0 hl.2.1 hm B Wd hd g1 g2 g3 g4 g5 g6 (fun H1 locs1 W1 => kk H1 locs1 ls W1 hl)
      · obtain ⟨x, y, r, rfl, g6, rfl, e2, e3, e1⟩ := iv_min h
        exact xs_min hR hd0 hl.2.1 hm B hd g6 (k0 e1 e2 e3)
    | invokevirtual x =>
      simp only [xi] at h
      unfold xinv at h
      split at h
      · split at h
        · split at h
          · split at h
            · unfold xcall at h
              split at h <;> cases h
            · cases h
          · cases h
        · cases h
      · cases h
    | ireturn =>
      simp only [xi] at h
      unfold xret at h
      split at h
      · split at h <;> cases h
      · cases h
    | areturn =>
      simp only [xi] at h
      unfold xreA at h
      split at h
      · split at h <;> cases h
      · cases h
    | return_ =>
      simp only [xi] at h
      split at h
      · split at h <;> cases h
      · cases h
    | _ => cases h
end XNN
end
section
/-! WHAT THE SMALL MACHINE COMPUTES, THE JVM's METHOD DOES -/
theorem xmd_mem {k : Nat} (hk : k < xms.length) : xmd k ∈ xms := by
  unfold xmd
  rw [List.getD_eq_getElem?_getD, List.getElem?_eq_getElem hk]
  exact List.getElem_mem hk
set_option maxRecDepth 100000 in
theorem xml_ok : ∀ q ∈ xmlL, q.2.1 < xms.length ∧ xsj q.2.1 = (if q.1.1 = 3 then 1 else 0) := by decide +kernel
set_option maxRecDepth 100000 in
theorem xrc_ok : ∀ q ∈ xms, q.2.2.2.2.2.1 ≠ 0 → (xob (q.2.2.2.2.2.1 - 1)).bind (fun ci => (vwCl[ci]?).map (fun r => r.1)) = some q.2.1.cls := by decide +kernel
def xws (k : Nat) : List Cond := .code (xmy k) (xmc k) (xmL k) (xmr k) :: xgW
theorem xws_good {k : Nat} (hk : k < xms.length) : GoodIn xgW (xws k) := by
  intro w hw
  rcases List.mem_cons.mp hw with rfl | hw
  · exact ⟨xg_of (xcd_all _ (xmd_mem hk)) rfl, Or.inl rfl⟩
  · exact ⟨hw, good_of_word (List.mem_filter.mp hw).2⟩
theorem xnW_moved {s U : State} (hW : s.WarmedH U.vm) (h : ∀ w ∈ xnW, va_Nw w s) : ∀ w ∈ xnW, va_Nw w U := by
  intro w hw
  have h1 := h w hw
  have h2 := (List.mem_filter.mp hw).2
  cases w <;> first | exact va_Nw.warmF hW h1 | exact va_Nw.warmM hW h1 | cases h2
theorem xnW_same {s U : State} (hW : s.vm = U.vm) (h : ∀ w ∈ xnW, va_Nw w s) : ∀ w ∈ xnW, va_Nw w U := by
  intro w hw
  have h1 := h w hw
  have h2 := (List.mem_filter.mp hw).2
  cases w <;> first | exact va_Nw.same rfl hW h1 | cases h2
def xPc (D : va_G) (ad : Nat → Nat → Nat) (cA : Nat → ClassId) (k : Nat) (as : List xV) (M : xM) (sz : Nat) : Array Value → State → Prop :=
  va_Pc (as.map (cv ad)) (fun U => U.heap.size = sz ∧ va_P D vwCl (xw ad cA (xsj k) M) U.heap ∧ va_K D vwCl (xty cA) U ∧ va_D (fun _ => True) (xw ad cA (xsj k) M) ∧ ∀ w ∈ xnW, va_Nw w U)
def xQc (D : va_G) (ad : Nat → Nat → Nat) (cA : Nat → ClassId) (k : Nat) (M : xM) (sz : Nat) (r : Option xV) (M' : xM) : Array Value → State → Outcome → State → Prop :=
  fun _ st oc t => (oc = .returned (r.map (cv ad)) ∧ va_P D vwCl (xw ad cA (xsj k) M') t.heap ∧ va_K D vwCl (xty cA) t) ∧ va_F (va_A (xw ad cA (xsj k) M) sz) st t
theorem xPc_blind {D : va_G} {ad : Nat → Nat → Nat} {cA : Nat → ClassId} {k : Nat} {as : List xV} {M : xM} {sz : Nat} : FrameBlind (xPc D ad cA k as M sz) := by
  intro a U g mk q
  obtain ⟨q0, q1, qP, qK, qD, qN⟩ := q
  exact ⟨q0, q1, qP, va_K.moved (u := U) (U := U.calling g mk a) (Vm.Alike.refl U.vm) qK, qD, xnW_same (s := U) (U := U.calling g mk a) rfl qN⟩
theorem xsl_sl (ad : Nat → Nat → Nat) (as : List xV) : (lg_sl (as.map (cv ad))).length = (xsl as).length := by
  induction as with
  | nil => rfl
  | cons v r ih =>
    have e1 : lg_sl ((v :: r).map (cv ad)) = (if (cv ad v).category = 2 then [Slot.val (cv ad v), Slot.second] else [Slot.val (cv ad v)]) ++ lg_sl (r.map (cv ad)) := by
      simp [lg_sl]
    rw [e1, List.length_append, ih]
    rcases v with x | x | x
    · simp [cv, Value.category, xsl]; omega
    · simp [cv, Value.category, xsl]; omega
    · cases x <;> (simp [cv, Value.category, xsl]; omega)
theorem xsl_at (ad : Nat → Nat → Nat) (as : List xV) : ∀ (i0 i : Nat) (v : xV), (xsl as)[i]? = some (some v) → (i0 + i, cv ad v) ∈ lv_args i0 (as.map (cv ad)) := by
  induction as with
  | nil => intro i0 i v h; simp [xsl] at h
  | cons w r ih =>
    intro i0 i v h
    have hcons : lv_args i0 ((w :: r).map (cv ad)) = (i0, cv ad w) :: lv_args (if (cv ad w).category = 2 then i0 + 2 else i0 + 1) (r.map (cv ad)) := rfl
    rw [hcons]
    rcases w with x | x | x
    · cases i with
      | zero => simp [xsl] at h; subst h; exact List.mem_cons_self
      | succ i =>
        simp only [xsl, List.getElem?_cons_succ] at h
        have := ih (i0 + 1) i v h
        rw [show i0 + (i + 1) = i0 + 1 + i by omega]
        exact List.mem_cons_of_mem _ (by simpa [cv, Value.category] using this)
    · cases i with
      | zero => simp [xsl] at h; subst h; exact List.mem_cons_self
      | succ i => cases i with
        | zero => simp [xsl] at h
        | succ i =>
          simp only [xsl, List.getElem?_cons_succ] at h
          have := ih (i0 + 2) i v h
          rw [show i0 + (i + 1 + 1) = i0 + 2 + i by omega]
          exact List.mem_cons_of_mem _ (by simpa [cv, Value.category] using this)
    · cases i with
      | zero => simp [xsl] at h; subst h; exact List.mem_cons_self
      | succ i =>
        simp only [xsl, List.getElem?_cons_succ] at h
        have := ih (i0 + 1) i v h
        rw [show i0 + (i + 1) = i0 + 1 + i by omega]
        exact List.mem_cons_of_mem _ (by cases x <;> simpa [cv, Value.category] using this)
theorem xen_has {ad : Nat → Nat → Nat} {k : Nat} {as : List xV} (h : (xsl as).length ≤ xmL k) : xlh ad ((lg_sl (as.map (cv ad)) ++ List.replicate (xmL k - (lg_sl (as.map (cv ad))).length) Slot.unset).toArray) (xmL k) (xen k as) := by
  have h1 := lv_entry (as.map (cv ad)) (n := xmL k) (by rw [xsl_sl]; exact h)
  refine ⟨by unfold xen; rw [List.length_append, List.length_replicate]; omega, h1.1, h1.2.1, fun q hq => h1.2.2 q ?_⟩
  obtain ⟨i, w⟩ := q
  obtain ⟨v, hv, rfl⟩ := xlv_mem.mp hq
  unfold xen at hv
  rw [List.getElem?_append] at hv
  split at hv
  · have := xsl_at ad as 0 i v hv
    rw [Nat.zero_add] at this
    exact this
  · rw [List.getElem?_replicate] at hv
    split at hv <;> cases hv
section XSD
variable {p : Program} {l : Launch} {e : Env} {R : Room} {s : State} {m : MethodId} {args : Array Value} {below : List Frame} {meth : Method} {c : Code} {H H0 : Heap} {locs : List Loc} {Q : State → Prop} {D : va_G} {ad : Nat → Nat → Nat} {cA : Nat → ClassId} {A : Nat → Prop} {M M' : xM} {j d pc pc' k : Nat} {L L' : xLs} {st st' : List xV} {ls : Array Slot} {rest : List Value}
theorem x_goon {st0 : List Value} {a : Array Value} {free : Addr → Prop} {r : Option xV} (hr : va_Run p l e R s m args below meth c H locs 0 0 0 0 (F0 m pc ls st0) rest (xQc D ad cA k M H.size r M' a) free) (hS : va_S A H0 H locs) (hA : ∀ q, va_A (xw ad cA (xsj k) M) H.size q → A q) (hf : ∀ q, free q → A q)
    (kk : ∀ (H1 : Heap) (locs1 : List Loc), va_P D vwCl (xw ad cA (xsj k) M') H1 → va_S A H0 H1 locs1 → W p l e R s m args below meth c H1 locs1 0 0 Q (F0 m (pc + 3) ls ((r.map (cv ad)).toList ++ rest))) : W p l e R s m args below meth c H locs 0 0 Q (F0 m pc ls st0) := by
  intro T hT X
  obtain ⟨v, st₀, t, T', L, h0, X', hL, e1, e2, ⟨⟨hv, hp, hk9⟩, hz, hk⟩, st⟩ := hr T hT X
  cases hv
  rw [h0] at hz hk
  obtain ⟨t2, a1, b1⟩ := kk T'.heap (locs ++ L) (by rw [e1]; exact hp)
    ⟨Nat.le_trans hS.1 (by rw [e1]; exact hz), fun q h1 h2 => by rw [e1, hk q (Nat.lt_of_lt_of_le h1 hS.1) (fun z => h2 (hA q z))]; exact hS.2.1 q h1 h2, fun q hq => by
      rcases List.mem_append.mp hq with h | h
      · exact hS.2.2 q h
      · exact hf _ (hL q h)⟩ T' rfl X'
  exact ⟨t2, st t2 a1, b1⟩
theorem iv_cv {kd : Nat} {as : List xV} {r : List xV} {idx : Nat} (h : xinv j idx pc L st M = some (.inr (.inr (k, as, pc', L', r, M')))) : ∃ kd t e, xml (xmo j) idx = some (k, kd) ∧ kd < 2 ∧ xmn k ≤ st.length ∧ st = st.take (xmn k) ++ vR t e :: r ∧ xmt k = t + 1 ∧ e < xcm j t ∧ as = vR t e :: (st.take (xmn k)).reverse ∧ pc' = pc + 3 ∧ L' = L ∧ M' = M ∧ (xsl as).length ≤ xmL k ∧ r.length ≤ 4 := by
  unfold xinv at h
  split at h
  · rename_i k1 kd1 hk
    split at h
    · rename_i hb
      split at h
      · rename_i t1 e1 r1 hdr
        split at h
        · rename_i hc
          unfold xcall at h
          split at h
          · rename_i hz
            cases h
            refine ⟨kd1, t1, e1, hk, hb.1, hb.2, ?_, hc.1, hc.2, rfl, rfl, rfl, rfl, hz.1, hz.2⟩
            rw [← hdr]; exact (List.take_append_drop _ _).symm
          · cases h
        · cases h
      · cases h
    · cases h
  · cases h
theorem iv_cs {as : List xV} {r : List xV} {idx : Nat} (h : xins d j idx pc L st M = some (.inr (.inr (k, as, pc', L', r, M')))) : ∃ kd, xml (xmo j) idx = some (k, kd) ∧ kd = 2 ∧ xmt k = 0 ∧ xmn k ≤ st.length ∧ st = st.take (xmn k) ++ r ∧ as = (st.take (xmn k)).reverse ∧ pc' = pc + 3 ∧ L' = L ∧ M' = M ∧ (xsl as).length ≤ xmL k ∧ r.length ≤ 4 := by
  unfold xins at h
  split at h
  · rename_i k1 kd1 hk
    split at h
    · rename_i hb
      unfold xcall at h
      split at h
      · rename_i hz
        cases h
        exact ⟨kd1, hk, hb.1, hb.2.1, hb.2.2, (List.take_append_drop _ _).symm, rfl, rfl, rfl, rfl, hz.1, hz.2⟩
      · cases h
    · cases h
  · split at h
    · unfold xcopy at h
      split at h
      · split at h <;> cases h
      · cases h
    · split at h
      · unfold xmin at h
        split at h
        · split at h <;> cases h
        · cases h
      · cases h
theorem x_call {as r : List xV} {rr : Option xV} {M1 : xM} (B : xB p s m args c j) (Wd : xWd D ad cA (xsj j) A H0 s M H locs) (hA : ∀ q, H0.size ≤ q → A q) (hl : xlh ad ls (xmL j) L) (h : x1 (d + 1) j (pc, L, st, M) = some (.inr (.inr (k, as, pc', L', r, M'))))
    (hM : k < xms.length → (xsl as).length ≤ xmL k → Met l (xmy k) (xws k) (xrm d) (xPc D ad cA k as M H.size) (xQc D ad cA k M H.size rr M1) 0 0 (va_A (xw ad cA (xsj k) M) H.size))
    (kk : ∀ (H1 : Heap) (locs1 : List Loc), xWd D ad cA (xsj j) A H0 s M1 H1 locs1 → W p l e (xrm (d + 1)) s m args below meth c H1 locs1 0 0 Q (F0 m pc' ls ((rr.toList ++ r).map (cv ad)))) :
    M' = M ∧ L' = L ∧ W p l e (xrm (d + 1)) s m args below meth c H locs 0 0 Q (F0 m pc ls (st.map (cv ad))) := by
  unfold x1 at h
  cases hf : xfet j pc with
  | none => rw [hf] at h; cases h
  | some q =>
    obtain ⟨i, n⟩ := q
    rw [hf] at h
    have h : xi (d + 1) j i pc L st M = some (.inr (.inr (k, as, pc', L', r, M'))) := h
    obtain ⟨hd, hn⟩ := xfet_spec hf
    obtain ⟨hx, hb, hml, hown, hts, hN⟩ := id B
    obtain ⟨hP, hD, hS, hK⟩ := id Wd
    have hFc : ∀ q, va_A (xw ad cA (xsj j) M) H.size q → A q := by
      intro q hq
      rcases hq with ⟨k9, e9, h9⟩ | h9
      · exact hD.2 k9 _ h9
      · exact hA q (Nat.le_trans hS.1 h9)
    have hPc : ∀ U : State, U.heap = H → s.WarmedH U.vm → xsj k = xsj j → xPc D ad cA k as M H.size (as.map (cv ad)).toArray U := fun U hU hW hs =>
      ⟨rfl, by rw [hU], by rw [hU, hs]; exact hP, va_K.moved hW.alike hK, by rw [hs]; exact hD.weaken (fun _ _ _ _ => trivial), xnW_moved hW hN⟩
    have hstat : ∀ {idx kd : Nat}, xml (xmo j) idx = some (k, kd) → k < xms.length ∧ xsj k = xsj j := fun hk => by
      obtain ⟨h1, h2⟩ := xml_ok _ (x_lookup hk)
      exact ⟨h1, h2⟩
    have hrest : ((rr.toList ++ r).map (cv ad)) = (rr.map (cv ad)).toList ++ r.map (cv ad) := by cases rr <;> rfl
    have hgo : ∀ {st0 : List Value} {a : Array Value}, xsj k = xsj j → va_Run p l e (xrm (d + 1)) s m args below meth c H locs 0 0 0 0 (F0 m pc ls st0) (r.map (cv ad)) (xQc D ad cA k M H.size rr M1 a) (va_A (xw ad cA (xsj k) M) H.size) → pc' = pc + 3 → W p l e (xrm (d + 1)) s m args below meth c H locs 0 0 Q (F0 m pc ls st0) := by
      intro st0 a hs hrun hpc
      refine x_goon hrun hS (by rw [hs]; exact hFc) (by rw [hs]; exact hFc) (fun H1 locs1 hP1 hS1 => ?_)
      have := kk H1 locs1 ⟨by rw [← hs]; exact hP1, xw_D M1 hD, hS1, hK⟩
      rw [hrest, hpc] at this
      exact this
    have hsum : r.length ≤ 4 → (((r.map (cv ad)).map fun v => v.category).sum) ≤ 8 := fun h => by
      have := cv_sum ad r
      omega
    have hroom : k < xms.length → (xrm d).frames + 1 ≤ (xrm (d + 1)).frames ∧ 8 + (xmL k + 11) + (xrm d).locals ≤ (xrm (d + 1)).locals := fun hk => by
      have h1 : xmL k ≤ 19 := (xmd_own _ (xmd_mem hk)).2.2.2
      refine ⟨Nat.le_refl _, ?_⟩
      show 8 + (xmL k + 11) + 38 * d ≤ 38 * (d + 1)
      omega
    cases i with
    | invokevirtual x =>
      have hd := xd1 hd hn (k := 3) rfl (by decide)
      obtain ⟨kd, t, e', hk, hkd, hlen, hst, hmt, he', has, hpc, hL, hMM, hxl, hr4⟩ := iv_cv (kd := 0) h
      obtain ⟨hkl, hs⟩ := hstat hk
      refine ⟨hMM, hL, ?_⟩
      subst hpc
      have hM := hM hkl hxl
      have hmem := xmd_mem hkl
      obtain ⟨ho1, ho2, ho3, ho4⟩ := xmd_own _ hmem
      have hlink := x_mem_pos _ xml_w _ (List.mem_map.mpr ⟨_, x_lookup hk, rfl⟩)
      have hinst : Cond.instanceMethod (xmy k) ∈ lw_tbl := by
        have := x_mem_pos _ xin_w _ (List.mem_map.mpr ⟨_, hmem, rfl⟩)
        unfold xinW at this
        rw [if_neg (by rw [show (xmd k).2.2.2.2.2.1 = t + 1 from hmt]; omega)] at this
        exact this
      have hsel : Cond.selects (xmy k).cls (xmy k) (xmy k) ∈ lw_tbl := by
        have h9 : xseW (xmd k) ∈ (xms.filter (fun q => q.2.2.2.2.2.1 != 0)).map xseW := List.mem_map.mpr ⟨_, List.mem_filter.mpr ⟨hmem, by rw [show (xmd k).2.2.2.2.2.1 = t + 1 from hmt]; rfl⟩, rfl⟩
        rw [xse_w] at h9
        obtain ⟨q, -, hq⟩ := List.mem_filterMap.mp h9
        exact List.mem_of_getElem? hq
      have hini : Cond.initialized (xmy k).cls ∈ lw_tbl := x_mem_pos _ xii_w _ (List.mem_map.mpr ⟨_, hmem, rfl⟩)
      obtain ⟨q0, hq0⟩ := xcs_at he'
      have hrc := xrc_ok _ hmem (by rw [show (xmd k).2.2.2.2.2.1 = t + 1 from hmt]; omega)
      rw [show (xmd k).2.2.2.2.2.1 = t + 1 from hmt, Nat.add_sub_cancel] at hrc
      have hrecv : ∃ cellB : Cell, H[ad t e']? = some cellB ∧ cellB.vm.isStatics = false ∧ s.vm.findClass (xmy k).cls = some cellB.cls := by
        cases hob : xob t with
        | none => rw [hob] at hrc; cases hrc
        | some ci =>
          rw [hob] at hrc
          cases hci : vwCl[ci]? with
          | none => simp [hci] at hrc
          | some rc =>
            simp only [Option.bind_some, hci, Option.map_some, Option.some.injEq] at hrc
            have hw := xw_at (ad := ad) (cA := cA) M hq0
            have hcell : xcell ad cA M t e' = .inr (ci, xfs ad M t e') := by unfold xcell; rw [hob]
            rw [hcell] at hw
            have := va_recv hK hP hci hw
            rw [hrc] at this
            exact this
      have hPV : PreV s H (xmy k).cls (ad t e') (xPc D ad cA k as M H.size) ((st.take (xmn k)).reverse.map (cv ad)) := by
        refine ⟨xPc_blind, hrecv, fun U hU hW => ?_⟩
        have := hPc U hU hW hs
        rw [has] at this ⊢
        exact this
      have hAl : ((st.take (xmn k)).reverse.map (cv ad)).length = xmn k := by simp; omega
      have hstk : (F0 m pc ls (st.map (cv ad))).stack = ((st.take (xmn k)).reverse.map (cv ad)).reverse ++ .ref (ad t e') :: r.map (cv ad) := by
        show st.map (cv ad) = _
        rw [← List.map_reverse, List.reverse_reverse]
        conv => lhs; rw [hst]
        rw [List.map_append]
        rfl
      by_cases hk1 : kd = 1
      · have hl2 : Cond.methodLinkNest (xon (xmo j)) x (xmy k) RX2 ∈ lw_tbl := by unfold xmlW at hlink; rw [if_pos hk1] at hlink; exact hlink
        exact hgo hs (va_runVN (As := (st.take (xmn k)).reverse.map (cv ad)) ⟨hx, hb, hml, hown, hts⟩ hM ⟨va_cnB (xmn k) hts (xws_good hkl) rfl rfl rfl (hN _ (xn_of hl2 rfl)) (hts _ (xg_of hini rfl)) ho3 (hroom hkl), hts _ (xg_of hinst rfl), hts _ (xg_of hsel rfl)⟩ hPV rfl hAl hl.2.1 hstk (lv_room (hsum hr4)) hd ⟨Nat.zero_le _, Nat.zero_le _⟩) rfl
      · have hl2 : Cond.methodLink (xon (xmo j)) x (xmy k) ∈ lw_tbl := by unfold xmlW at hlink; rw [if_neg hk1] at hlink; exact hlink
        exact hgo hs (va_runV (As := (st.take (xmn k)).reverse.map (cv ad)) ⟨hx, hb, hml, hown, hts⟩ hM ⟨callB_of (xmn k) hts (xws_good hkl) rfl rfl rfl (hts _ (xg_of hini rfl)) (hts _ (xg_of hl2 rfl)) ho3 (hroom hkl), hts _ (xg_of hinst rfl), hts _ (xg_of hsel rfl)⟩ hPV rfl hAl hl.2.1 hstk (lv_room (hsum hr4)) hd ⟨Nat.zero_le _, Nat.zero_le _⟩) rfl
    | invokestatic x =>
      have hd := xd1 hd hn (k := 3) rfl (by decide)
      obtain ⟨kd, hk, hkd, hmt, hlen, hst, has, hpc, hL, hMM, hxl, hr4⟩ := iv_cs h
      obtain ⟨hkl, hs⟩ := hstat hk
      refine ⟨hMM, hL, ?_⟩
      subst hpc
      have hM := hM hkl hxl
      have hmem := xmd_mem hkl
      obtain ⟨ho1, ho2, ho3, ho4⟩ := xmd_own _ hmem
      have hlink := x_mem_pos _ xml_w _ (List.mem_map.mpr ⟨_, x_lookup hk, rfl⟩)
      have hsta : Cond.static (xmy k) ∈ lw_tbl := by
        have := x_mem_pos _ xin_w _ (List.mem_map.mpr ⟨_, hmem, rfl⟩)
        unfold xinW at this
        rw [if_pos (show (xmd k).2.2.2.2.2.1 = 0 from hmt)] at this
        exact this
      have hini : Cond.initialized (xmy k).cls ∈ lw_tbl := x_mem_pos _ xii_w _ (List.mem_map.mpr ⟨_, hmem, rfl⟩)
      have hl2 : Cond.methodLink (xon (xmo j)) x (xmy k) ∈ lw_tbl := by unfold xmlW at hlink; rw [if_neg (show ¬ kd = 1 by omega)] at hlink; exact hlink
      have hPS : PreS s H (xPc D ad cA k as M H.size) ((st.take (xmn k)).reverse.map (cv ad)) := by
        refine ⟨xPc_blind, fun U hU hW => ?_⟩
        have := hPc U hU hW hs
        rw [has] at this ⊢
        exact this
      have hAl : ((st.take (xmn k)).reverse.map (cv ad)).length = xmn k := by simp; omega
      have hstk : (F0 m pc ls (st.map (cv ad))).stack = ((st.take (xmn k)).reverse.map (cv ad)).reverse ++ r.map (cv ad) := by
        show st.map (cv ad) = _
        rw [← List.map_reverse, List.reverse_reverse]
        conv => lhs; rw [hst]
        rw [List.map_append]
      exact hgo hs (va_runS (As := (st.take (xmn k)).reverse.map (cv ad)) ⟨hx, hb, hml, hown, hts⟩ hM ⟨callB_of (xmn k) hts (xws_good hkl) rfl rfl rfl (hts _ (xg_of hini rfl)) (hts _ (xg_of hl2 rfl)) ho3 (hroom hkl), hts _ (xg_of hsta rfl)⟩ hPS rfl hAl hl.2.1 hstk (lv_room (hsum hr4)) hd ⟨Nat.zero_le _, Nat.zero_le _⟩) rfl
    | _ => first | cases h | (simp only [xi, xldI, xldJ, xldA, xstI, xstA, xb2, xj2, xbr, xget, xput, xalI, xalJ, xalA, xasI, xasJ, xasA, xlen, xret, xreA, xsw] at h; (repeat' (split at h)); (all_goals cases h))
end XSD
end
section
/-! THE ENDS, and the theorem: a run of the small machine is a contract of the JVM's method -/
section XMT
variable {p : Program} {l : Launch} {e : Env} {R : Room} {s : State} {m : MethodId} {args : Array Value} {below : List Frame} {meth : Method} {c : Code} {H H0 : Heap} {locs : List Loc} {D : va_G} {ad : Nat → Nat → Nat} {cA : Nat → ClassId} {A : Nat → Prop} {M M' : xM} {j d pc : Nat} {L : xLs} {st : List xV} {ls : Array Slot} {Qc : Array Value → State → Outcome → State → Prop}
theorem x_end {r : Option xV} (B : xB p s m args c j) (hr : meth.sig.returnType = xmr j) (hlk : meth.locks = false) (Wd : xWd D ad cA (xsj j) A s.heap s M H locs) (h : x1 d j (pc, L, st, M) = some (.inr (.inl (r, M'))))
    (hQ : M' = M → ∀ t : State, t.heap = H → s.WarmedH t.vm → Qc args s (.returned (r.map (cv ad))) t) : W p l e R s m args below meth c H locs 0 0 (MQ below Qc args s 0 0 A) (F0 m pc ls (st.map (cv ad))) := by
  unfold x1 at h
  cases hf : xfet j pc with
  | none => rw [hf] at h; cases h
  | some q =>
    obtain ⟨i, n⟩ := q
    rw [hf] at h
    replace h : xi d j i pc L st M = some (.inr (.inl (r, M'))) := h
    obtain ⟨hd, hn⟩ := xfet_spec hf
    have hx := B.1
    have hb := B.2.1
    have hS := Wd.2.2.1
    cases i with
    | ireturn =>
      have hd := xd1 hd hn (k := 1) rfl (by decide)
      simp only [xi, xret] at h
      split at h
      · split at h
        · rename_i x hc
          cases h
          rcases hc with hc | ⟨hc, hv⟩
          · exact W.iret hx hb (by rw [hr, hc]) (hQ rfl) hS.2.2 hd
          · exact W.zret (ty := .boolean) hx hb (by rw [hr, hc]) (by rcases hv with rfl | rfl <;> rfl) (hQ rfl) hS.2.2 hd
        · cases h
      · cases h
    | areturn =>
      have hd := xd1 hd hn (k := 1) rfl (by decide)
      simp only [xi, xreA] at h
      split at h
      · split at h
        · rename_i o hc
          cases h
          cases ho : xmr j with
          | none => rw [ho] at hc; cases hc
          | some rt =>
            rw [ho] at hc
            cases rt with
            | object n =>
              refine W.aret (v := cv ad (.inr (.inr o))) hx hb (hr.trans ho) (Or.inl ⟨_, rfl⟩) ?_ (hQ rfl) hS.2.2 hd
              cases o with
              | none => exact Or.inl rfl
              | some q => exact Or.inr ⟨_, rfl⟩
            | _ => cases hc
        · cases h
      · cases h
    | return_ =>
      have hd := xd1 hd hn (k := 1) rfl (by decide)
      simp only [xi] at h
      split at h
      · split at h
        · rename_i hc
          cases h
          exact W.vret hx hb (hr.trans hc) (hQ rfl) hS.2.2 hd
        · cases h
      · cases h
    | _ => first | cases h | (simp only [xi, xldI, xldJ, xldA, xstI, xstA, xb2, xj2, xbr, xget, xput, xalI, xalJ, xalA, xasI, xasJ, xasA, xlen, xsw, xinv, xins, xcall, xcopy, xmin] at h; (repeat' (split at h)); (all_goals cases h))
end XMT
theorem x_end_same {d j pc : Nat} {L : xLs} {st : List xV} {M M' : xM} {r : Option xV} (h : x1 d j (pc, L, st, M) = some (.inr (.inl (r, M')))) : M' = M := by
  unfold x1 at h
  cases hf : xfet j pc with
  | none => rw [hf] at h; cases h
  | some q =>
    obtain ⟨i, n⟩ := q
    rw [hf] at h
    replace h : xi d j i pc L st M = some (.inr (.inl (r, M'))) := h
    cases i with
    | ireturn =>
      simp only [xi, xret] at h
      split at h
      · split at h
        · cases h; rfl
        · cases h
      · cases h
    | areturn =>
      simp only [xi, xreA] at h
      split at h
      · split at h
        · cases h; rfl
        · cases h
      · cases h
    | return_ =>
      simp only [xi] at h
      split at h
      · split at h
        · cases h; rfl
        · cases h
      · cases h
    | _ => first | cases h | (simp only [xi, xldI, xldJ, xldA, xstI, xstA, xb2, xj2, xbr, xget, xput, xalI, xalJ, xalA, xasI, xasJ, xasA, xlen, xsw, xinv, xins, xcall, xcopy, xmin] at h; (repeat' (split at h)); (all_goals cases h))
theorem iv_callM {d j pc k pc' : Nat} {L L' : xLs} {st r as : List xV} {M M' : xM} (h : x1 d j (pc, L, st, M) = some (.inr (.inr (k, as, pc', L', r, M')))) : M' = M ∧ L' = L := by
  unfold x1 at h
  cases hf : xfet j pc with
  | none => rw [hf] at h; cases h
  | some q =>
    obtain ⟨i, n⟩ := q
    rw [hf] at h
    replace h : xi d j i pc L st M = some (.inr (.inr (k, as, pc', L', r, M'))) := h
    cases i with
    | invokevirtual x =>
      obtain ⟨kd, t, e', hk, hkd, hlen, hst, hmt, he', has, hpc, hL, hMM, hxl, hr4⟩ := iv_cv (kd := 0) h
      exact ⟨hMM, hL⟩
    | invokestatic x =>
      obtain ⟨kd, hk, hkd, hmt, hlen, hst, has, hpc, hL, hMM, hxl, hr4⟩ := iv_cs h
      exact ⟨hMM, hL⟩
    | _ => first | cases h | (simp only [xi, xldI, xldJ, xldA, xstI, xstA, xb2, xj2, xbr, xget, xput, xalI, xalJ, xalA, xasI, xasJ, xasA, xlen, xret, xreA, xsw] at h; (repeat' (split at h)); (all_goals cases h))
def xMet (l : Launch) (n : Nat) : Prop := ∀ (D : va_G) (ad : Nat → Nat → Nat) (cA : Nat → ClassId) (d k : Nat) (as : List xV) (M : xM) (r : Option xV) (M' : xM), k < xms.length → (xsl as).length ≤ xmL k → xr n d k (0, xen k as, [], M) = some (r, M') → ∀ sz : Nat, Met l (xmy k) (xws k) (xrm d) (xPc D ad cA k as M sz) (xQc D ad cA k M sz r M') 0 0 (va_A (xw ad cA (xsj k) M) sz)
theorem x_body (l : Launch) : ∀ n : Nat, (∀ n', n' < n → xMet l n') → ∀ {p : Program} {e : Env} {s : State} {m : MethodId} {args : Array Value} {below : List Frame} {meth : Method} {c : Code} {H : Heap} {locs : List Loc} {D : va_G} {ad : Nat → Nat → Nat} {cA : Nat → ClassId} {A : Nat → Prop} {M M' : xM} {j d pc : Nat} {L : xLs} {st : List xV} {ls : Array Slot} {Qc : Array Value → State → Outcome → State → Prop} {r : Option xV},
    xr n d j (pc, L, st, M) = some (r, M') → xB p s m args c j → meth.sig.returnType = xmr j → meth.locks = false → xWd D ad cA (xsj j) A s.heap s M H locs → (∀ q, s.heap.size ≤ q → A q) → xlh ad ls (xmL j) L →
    (∀ (H1 : Heap) (locs1 : List Loc), xWd D ad cA (xsj j) A s.heap s M' H1 locs1 → ∀ t : State, t.heap = H1 → s.WarmedH t.vm → Qc args s (.returned (r.map (cv ad))) t) → W p l e (xrm d) s m args below meth c H locs 0 0 (MQ below Qc args s 0 0 A) (F0 m pc ls (st.map (cv ad))) := by
  intro n
  induction n with
  | zero => intro _ p e s m args below meth c H locs D ad cA A M M' j d pc L st ls Qc r h; simp [xr] at h
  | succ n ih =>
    intro hmet p e s m args below meth c H locs D ad cA A M M' j d pc L st ls Qc r h B hr hlk Wd hA hl hQ
    have ih := @ih (fun n' h' => hmet n' (Nat.lt_succ_of_lt h'))
    rw [xr] at h
    split at h
    · rename_i c' hc
      obtain ⟨pc', L', st', M1⟩ := c'
      exact x_next rfl B Wd hl hc (fun H1 locs1 ls1 W1 hl1 => ih h B hr hlk W1 hA hl1 hQ)
    · rename_i r' hc
      obtain ⟨r1, M1⟩ := r'
      cases h
      have hsame := x_end_same hc
      subst hsame
      exact x_end B hr hlk Wd hc (fun _ t ht hW => hQ H locs Wd t ht hW)
    · rename_i k as pc' L' st' M1 hc
      cases d with
      | zero => simp at h
      | succ d' =>
        simp only at h
        split at h
        · rename_i r1 M2 hq
          obtain ⟨rfl, rfl⟩ := iv_callM hc
          exact (x_call (Q := MQ below Qc args s 0 0 A) (p := p) (l := l) (e := e) (meth := meth) (below := below) (rr := r1) (M1 := M2) B Wd hA hl hc (fun hk hx => hmet n (Nat.lt_succ_self n) D ad cA d' k as M1 r1 M2 hk hx hq H.size) (fun H1 locs1 W1 => ih h B hr hlk W1 hA hl hQ)).2.2
        · cases h
    · cases h
theorem x_met (l : Launch) : ∀ n : Nat, xMet l n := by
  intro n
  induction n using Nat.strongRecOn with
  | _ n hmet =>
    intro D ad cA d k as M r M' hk hxl h sz
    have hmem := xmd_mem hk
    obtain ⟨ho1, ho2, ho3, ho4⟩ := xmd_own _ hmem
    refine Met.ofW (cc := xmc k) (maxL := xmL k) (ret := xmr k) ho2 rfl ?_
    intro p e s m args below meth c s₁ B hml hv
    obtain ⟨rfl, hsz, hP, hK, hD0, hN⟩ := hv
    have hts := atoms_spec (ws := xws k) B.pre
    have hown : s.vm.findClass (xmy k).cls = some m.cls := findClass_of_methodNamed B.named
    subst hsz
    have hD := hD0.self (sz := s.heap.size)
    have hS : va_S (va_A (xw ad cA (xsj k) M) s.heap.size) s.heap s.heap [] := va_S.rf
    have hB : xB p s m (as.map (cv ad)).toArray c k := ⟨B.exec, B.bytes, hml, by rw [show xon (xmo k) = (xmy k).cls from ho1]; exact hown, fun w hw => hts w (List.mem_cons_of_mem _ hw), hN⟩
    rw [lg_entry_eq]
    exact x_body l n hmet h hB B.returns B.notSynchronized ⟨hP, hD, hS, hK⟩ (fun q hq => Or.inr hq) (xen_has hxl) (fun H1 locs1 W1 t ht hW => ⟨⟨rfl, by rw [ht]; exact W1.1, va_K.moved hW.alike W1.2.2.2⟩, W1.2.2.1.F ht⟩)
/-- a run gives a contract -/
theorem Rn.met (l : Launch) {d k : Nat} {as : List xV} {M : xM} {Z : Option xV → xM → Prop} (hk : k < xms.length) (hx : (xsl as).length ≤ xmL k) (h : Rn d k (0, xen k as, [], M) Z) : ∃ r M', Z r M' ∧ ∀ (D : va_G) (ad : Nat → Nat → Nat) (cA : Nat → ClassId) (sz : Nat), Met l (xmy k) (xws k) (xrm d) (xPc D ad cA k as M sz) (xQc D ad cA k M sz r M') 0 0 (va_A (xw ad cA (xsj k) M) sz) := by
  obtain ⟨n, r, M', h1, h2⟩ := h
  exact ⟨r, M', h2, fun D ad cA sz => x_met l n D ad cA d k as M r M' hk hx h1 sz⟩
end
section
/-! RULES: how a run of the small machine is shown, an instruction at a time -/
section RUL
variable {d j pc : Nat} {L : xLs} {st : List xV} {M : xM} {Z : Option xV → xM → Prop}
theorem rn_of {i : Instr} {n : Nat} {c' : xC} (hd : xfet j pc = some (i, n)) (h : xi d j i pc L st M = some (.inl c')) (k : Rn d j c' Z) : Rn d j (pc, L, st, M) Z := Rn.next (by unfold x1; rw [show xfet j (pc, L, st, M).1 = _ from hd]; exact h) k
theorem rn_iconst {k : Int} {n pc' : Nat} {v : Int32} (hd : xfet j pc = some (.iconst k, n)) (hp : pc + 1 = pc') (hv : Int32.ofInt k = v) (h : Rn d j (pc', L, vI v :: st, M) Z) : Rn d j (pc, L, st, M) Z := by subst hp; subst hv; exact rn_of hd rfl h
theorem rn_bipush {k : Int} {n pc' : Nat} {v : Int32} (hd : xfet j pc = some (.bipush k, n)) (hp : pc + 2 = pc') (hv : (Int8.ofInt k).toInt32 = v) (h : Rn d j (pc', L, vI v :: st, M) Z) : Rn d j (pc, L, st, M) Z := by subst hp; subst hv; exact rn_of hd rfl h
theorem rn_sipush {k : Int} {n pc' : Nat} {v : Int32} (hd : xfet j pc = some (.sipush k, n)) (hp : pc + 3 = pc') (hv : (Int16.ofInt k).toInt32 = v) (h : Rn d j (pc', L, vI v :: st, M) Z) : Rn d j (pc, L, st, M) Z := by subst hp; subst hv; exact rn_of hd rfl h
theorem rn_lconst {k : Fin 2} {n pc' : Nat} {v : Int64} (hd : xfet j pc = some (.lconst k, n)) (hp : pc + 1 = pc') (hv : Int64.ofNat k = v) (h : Rn d j (pc', L, vL v :: st, M) Z) : Rn d j (pc, L, st, M) Z := by subst hp; subst hv; exact rn_of hd rfl h
theorem rn_ldc {x n pc' : Nat} {v : Int32} (hd : xfet j pc = some (.ldc x, n)) (hp : pc + 2 = pc') (hv : xkc (xmo j) x = some v) (h : Rn d j (pc', L, vI v :: st, M) Z) : Rn d j (pc, L, st, M) Z := by subst hp; exact rn_of hd (by simp only [xi, hv]) h
theorem rn_ldc_w {x n pc' : Nat} {v : Int32} (hd : xfet j pc = some (.ldc_w x, n)) (hp : pc + 3 = pc') (hv : xkc (xmo j) x = some v) (h : Rn d j (pc', L, vI v :: st, M) Z) : Rn d j (pc, L, st, M) Z := by subst hp; exact rn_of hd (by simp only [xi, hv]) h
theorem rn_ldc2_w {x n pc' : Nat} {v : Int64} (hd : xfet j pc = some (.ldc2_w x, n)) (hp : pc + 3 = pc') (hv : xkl (xmo j) x = some v) (h : Rn d j (pc', L, vL v :: st, M) Z) : Rn d j (pc, L, st, M) Z := by subst hp; exact rn_of hd (by simp only [xi, hv]) h
theorem rn_aconst_null {n pc' : Nat} (hd : xfet j pc = some (.aconst_null, n)) (hp : pc + 1 = pc') (h : Rn d j (pc', L, vN :: st, M) Z) : Rn d j (pc, L, st, M) Z := by subst hp; exact rn_of hd rfl h
theorem rn_iload {k n pc' : Nat} {x : Int32} (hd : xfet j pc = some (.iload k, n)) (hp : pc + 2 = pc') (hl : L[k]? = some (some (vI x))) (h : Rn d j (pc', L, vI x :: st, M) Z) : Rn d j (pc, L, st, M) Z := by subst hp; exact rn_of hd (by simp only [xi, xldI, hl]) h
theorem rn_iload_n {k : Fin 4} {n pc' : Nat} {x : Int32} (hd : xfet j pc = some (.iload_n k, n)) (hp : pc + 1 = pc') (hl : L[(k : Nat)]? = some (some (vI x))) (h : Rn d j (pc', L, vI x :: st, M) Z) : Rn d j (pc, L, st, M) Z := by subst hp; exact rn_of hd (by simp only [xi, xldI, hl]) h
theorem rn_lload {k n pc' : Nat} {x : Int64} (hd : xfet j pc = some (.lload k, n)) (hp : pc + 2 = pc') (hl : L[k]? = some (some (vL x))) (h : Rn d j (pc', L, vL x :: st, M) Z) : Rn d j (pc, L, st, M) Z := by subst hp; exact rn_of hd (by simp only [xi, xldJ, hl]) h
theorem rn_lload_n {k : Fin 4} {n pc' : Nat} {x : Int64} (hd : xfet j pc = some (.lload_n k, n)) (hp : pc + 1 = pc') (hl : L[(k : Nat)]? = some (some (vL x))) (h : Rn d j (pc', L, vL x :: st, M) Z) : Rn d j (pc, L, st, M) Z := by subst hp; exact rn_of hd (by simp only [xi, xldJ, hl]) h
theorem rn_aload {k n pc' : Nat} {o : Option (Nat × Nat)} (hd : xfet j pc = some (.aload k, n)) (hp : pc + 2 = pc') (hl : L[k]? = some (some (.inr (.inr o)))) (h : Rn d j (pc', L, .inr (.inr o) :: st, M) Z) : Rn d j (pc, L, st, M) Z := by subst hp; exact rn_of hd (by simp only [xi, xldA, hl]) h
theorem rn_aload_n {k : Fin 4} {n pc' : Nat} {o : Option (Nat × Nat)} (hd : xfet j pc = some (.aload_n k, n)) (hp : pc + 1 = pc') (hl : L[(k : Nat)]? = some (some (.inr (.inr o)))) (h : Rn d j (pc', L, .inr (.inr o) :: st, M) Z) : Rn d j (pc, L, st, M) Z := by subst hp; exact rn_of hd (by simp only [xi, xldA, hl]) h
theorem rn_istore {k n pc' : Nat} {L' : xLs} {x : Int32} (hd : xfet j pc = some (.istore k, n)) (hp : pc + 2 = pc') (hs : xns L k = true) (hk : k < L.length) (hl : L.set k (some (vI x)) = L') (h : Rn d j (pc', L', st, M) Z) : Rn d j (pc, L, vI x :: st, M) Z := by subst hp; subst hl; exact rn_of hd (by simp only [xi, xstI, xst, hs, hk, and_self, if_true]) h
theorem rn_istore_n {k : Fin 4} {n pc' : Nat} {L' : xLs} {x : Int32} (hd : xfet j pc = some (.istore_n k, n)) (hp : pc + 1 = pc') (hs : xns L k = true) (hk : (k : Nat) < L.length) (hl : L.set k (some (vI x)) = L') (h : Rn d j (pc', L', st, M) Z) : Rn d j (pc, L, vI x :: st, M) Z := by subst hp; subst hl; exact rn_of hd (by simp only [xi, xstI, xst, hs, hk, and_self, if_true]) h
theorem rn_astore {k n pc' : Nat} {L' : xLs} {o : Option (Nat × Nat)} (hd : xfet j pc = some (.astore k, n)) (hp : pc + 2 = pc') (hs : xns L k = true) (hk : k < L.length) (hl : L.set k (some (.inr (.inr o))) = L') (h : Rn d j (pc', L', st, M) Z) : Rn d j (pc, L, .inr (.inr o) :: st, M) Z := by subst hp; subst hl; exact rn_of hd (by simp only [xi, xstA, xst, hs, hk, and_self, if_true]) h
theorem rn_astore_n {k : Fin 4} {n pc' : Nat} {L' : xLs} {o : Option (Nat × Nat)} (hd : xfet j pc = some (.astore_n k, n)) (hp : pc + 1 = pc') (hs : xns L k = true) (hk : (k : Nat) < L.length) (hl : L.set k (some (.inr (.inr o))) = L') (h : Rn d j (pc', L', st, M) Z) : Rn d j (pc, L, .inr (.inr o) :: st, M) Z := by subst hp; subst hl; exact rn_of hd (by simp only [xi, xstA, xst, hs, hk, and_self, if_true]) h
theorem rn_iinc {k n pc' : Nat} {v : Int} {L' : xLs} {x w : Int32} (hd : xfet j pc = some (.iinc k v, n)) (hp : pc + 3 = pc') (hg : L[k]? = some (some (vI x))) (hw : x + Int32.ofInt v = w) (hs : xns L k = true) (hk : k < L.length) (hl : L.set k (some (vI w)) = L') (h : Rn d j (pc', L', st, M) Z) : Rn d j (pc, L, st, M) Z := by subst hp; subst hl; subst hw; exact rn_of hd (by simp only [xi, hg, xst, hs, hk, and_self, if_true]) h
theorem rn_iadd {n pc' : Nat} {x y : Int32} (hd : xfet j pc = some (.iadd, n)) (hp : pc + 1 = pc') (h : Rn d j (pc', L, vI (x + y) :: st, M) Z) : Rn d j (pc, L, vI y :: vI x :: st, M) Z := by subst hp; exact rn_of hd rfl h
theorem rn_isub {n pc' : Nat} {x y : Int32} (hd : xfet j pc = some (.isub, n)) (hp : pc + 1 = pc') (h : Rn d j (pc', L, vI (x - y) :: st, M) Z) : Rn d j (pc, L, vI y :: vI x :: st, M) Z := by subst hp; exact rn_of hd rfl h
theorem rn_imul {n pc' : Nat} {x y : Int32} (hd : xfet j pc = some (.imul, n)) (hp : pc + 1 = pc') (h : Rn d j (pc', L, vI (x * y) :: st, M) Z) : Rn d j (pc, L, vI y :: vI x :: st, M) Z := by subst hp; exact rn_of hd rfl h
theorem rn_iand {n pc' : Nat} {x y : Int32} (hd : xfet j pc = some (.iand, n)) (hp : pc + 1 = pc') (h : Rn d j (pc', L, vI (x &&& y) :: st, M) Z) : Rn d j (pc, L, vI y :: vI x :: st, M) Z := by subst hp; exact rn_of hd rfl h
theorem rn_ior {n pc' : Nat} {x y : Int32} (hd : xfet j pc = some (.ior, n)) (hp : pc + 1 = pc') (h : Rn d j (pc', L, vI (x ||| y) :: st, M) Z) : Rn d j (pc, L, vI y :: vI x :: st, M) Z := by subst hp; exact rn_of hd rfl h
theorem rn_ixor {n pc' : Nat} {x y : Int32} (hd : xfet j pc = some (.ixor, n)) (hp : pc + 1 = pc') (h : Rn d j (pc', L, vI (x ^^^ y) :: st, M) Z) : Rn d j (pc, L, vI y :: vI x :: st, M) Z := by subst hp; exact rn_of hd rfl h
theorem rn_ishl {n pc' : Nat} {x y : Int32} (hd : xfet j pc = some (.ishl, n)) (hp : pc + 1 = pc') (h : Rn d j (pc', L, vI (x <<< (y &&& 31)) :: st, M) Z) : Rn d j (pc, L, vI y :: vI x :: st, M) Z := by subst hp; exact rn_of hd rfl h
theorem rn_ishr {n pc' : Nat} {x y : Int32} (hd : xfet j pc = some (.ishr, n)) (hp : pc + 1 = pc') (h : Rn d j (pc', L, vI (x >>> (y &&& 31)) :: st, M) Z) : Rn d j (pc, L, vI y :: vI x :: st, M) Z := by subst hp; exact rn_of hd rfl h
theorem rn_irem {n pc' : Nat} {x y : Int32} (hd : xfet j pc = some (.irem, n)) (hp : pc + 1 = pc') (hy : ¬ y = 0) (h : Rn d j (pc', L, vI (x - x / y * y) :: st, M) Z) : Rn d j (pc, L, vI y :: vI x :: st, M) Z := by subst hp; exact rn_of hd (by simp only [xi, if_neg hy]) h
theorem rn_ineg {n pc' : Nat} {x : Int32} (hd : xfet j pc = some (.ineg, n)) (hp : pc + 1 = pc') (h : Rn d j (pc', L, vI (-x) :: st, M) Z) : Rn d j (pc, L, vI x :: st, M) Z := by subst hp; exact rn_of hd rfl h
theorem rn_ladd {n pc' : Nat} {x y : Int64} (hd : xfet j pc = some (.ladd, n)) (hp : pc + 1 = pc') (h : Rn d j (pc', L, vL (x + y) :: st, M) Z) : Rn d j (pc, L, vL y :: vL x :: st, M) Z := by subst hp; exact rn_of hd rfl h
theorem rn_lsub {n pc' : Nat} {x y : Int64} (hd : xfet j pc = some (.lsub, n)) (hp : pc + 1 = pc') (h : Rn d j (pc', L, vL (x - y) :: st, M) Z) : Rn d j (pc, L, vL y :: vL x :: st, M) Z := by subst hp; exact rn_of hd rfl h
theorem rn_lcmp {n pc' : Nat} {x y : Int64} (hd : xfet j pc = some (.lcmp, n)) (hp : pc + 1 = pc') (h : Rn d j (pc', L, vI (lg_cmp x y) :: st, M) Z) : Rn d j (pc, L, vL y :: vL x :: st, M) Z := by subst hp; exact rn_of hd rfl h
theorem rn_i2l {n pc' : Nat} {x : Int32} (hd : xfet j pc = some (.i2l, n)) (hp : pc + 1 = pc') (h : Rn d j (pc', L, vL x.toInt64 :: st, M) Z) : Rn d j (pc, L, vI x :: st, M) Z := by subst hp; exact rn_of hd rfl h
theorem rn_l2i {n pc' : Nat} {x : Int64} (hd : xfet j pc = some (.l2i, n)) (hp : pc + 1 = pc') (h : Rn d j (pc', L, vI x.toInt32 :: st, M) Z) : Rn d j (pc, L, vL x :: st, M) Z := by subst hp; exact rn_of hd rfl h
theorem rn_dupI {n pc' : Nat} {x : Int32} (hd : xfet j pc = some (.dup, n)) (hp : pc + 1 = pc') (h : Rn d j (pc', L, vI x :: vI x :: st, M) Z) : Rn d j (pc, L, vI x :: st, M) Z := by subst hp; exact rn_of hd rfl h
theorem rn_dupA {n pc' : Nat} {o : Option (Nat × Nat)} (hd : xfet j pc = some (.dup, n)) (hp : pc + 1 = pc') (h : Rn d j (pc', L, .inr (.inr o) :: .inr (.inr o) :: st, M) Z) : Rn d j (pc, L, .inr (.inr o) :: st, M) Z := by subst hp; exact rn_of hd rfl h
theorem rn_dup2 {n pc' : Nat} {x : Int32} {o : Option (Nat × Nat)} (hd : xfet j pc = some (.dup2, n)) (hp : pc + 1 = pc') (h : Rn d j (pc', L, vI x :: .inr (.inr o) :: vI x :: .inr (.inr o) :: st, M) Z) : Rn d j (pc, L, vI x :: .inr (.inr o) :: st, M) Z := by subst hp; exact rn_of hd rfl h
theorem rn_goto {n pc' : Nat} {off : Int} (hd : xfet j pc = some (.goto off, n)) (hp : xtg pc off = some pc') (h : Rn d j (pc', L, st, M) Z) : Rn d j (pc, L, st, M) Z := rn_of hd (by simp only [xi, hp]) h
theorem rn_br {q : Prop} {dq : Decidable q} {i : Instr} {n t : Nat} {off : Int} {st0 : List xV} (hd : xfet j pc = some (i, n)) (hi : xi d j i pc L st0 M = xbr pc off q dq L st M) (hp : xtg pc off = some t) (kt : q → Rn d j (t, L, st, M) Z) (kf : ¬ q → Rn d j (pc + 3, L, st, M) Z) : Rn d j (pc, L, st0, M) Z := by
  by_cases hq : q
  · exact rn_of hd (by rw [hi]; unfold xbr; rw [hp]; simp only [if_pos hq]) (kt hq)
  · exact rn_of hd (by rw [hi]; unfold xbr; rw [hp]; simp only [if_neg hq]) (kf hq)
theorem rn_if_eq {n t pc' : Nat} {off : Int} {x : Int32} (hd : xfet j pc = some (.ifCond .eq off, n)) (hp : xtg pc off = some t) (hn : pc + 3 = pc') (kt : x = 0 → Rn d j (t, L, st, M) Z) (kf : ¬ x = 0 → Rn d j (pc', L, st, M) Z) : Rn d j (pc, L, vI x :: st, M) Z := by subst hn; exact rn_br hd rfl hp kt kf
theorem rn_if_ne {n t pc' : Nat} {off : Int} {x : Int32} (hd : xfet j pc = some (.ifCond .ne off, n)) (hp : xtg pc off = some t) (hn : pc + 3 = pc') (kt : ¬ x = 0 → Rn d j (t, L, st, M) Z) (kf : x = 0 → Rn d j (pc', L, st, M) Z) : Rn d j (pc, L, vI x :: st, M) Z := by subst hn; exact rn_br hd rfl hp kt (fun h => kf (Decidable.byContradiction h))
theorem rn_if_lt {n t pc' : Nat} {off : Int} {x : Int32} (hd : xfet j pc = some (.ifCond .lt off, n)) (hp : xtg pc off = some t) (hn : pc + 3 = pc') (kt : x < 0 → Rn d j (t, L, st, M) Z) (kf : ¬ x < 0 → Rn d j (pc', L, st, M) Z) : Rn d j (pc, L, vI x :: st, M) Z := by subst hn; exact rn_br hd rfl hp kt kf
theorem rn_if_ge {n t pc' : Nat} {off : Int} {x : Int32} (hd : xfet j pc = some (.ifCond .ge off, n)) (hp : xtg pc off = some t) (hn : pc + 3 = pc') (kt : ¬ x < 0 → Rn d j (t, L, st, M) Z) (kf : x < 0 → Rn d j (pc', L, st, M) Z) : Rn d j (pc, L, vI x :: st, M) Z := by subst hn; exact rn_br hd rfl hp (fun h => kt (Int32.not_lt.mpr h)) (fun h => kf (Int32.not_le.mp h))
theorem rn_if_gt {n t pc' : Nat} {off : Int} {x : Int32} (hd : xfet j pc = some (.ifCond .gt off, n)) (hp : xtg pc off = some t) (hn : pc + 3 = pc') (kt : 0 < x → Rn d j (t, L, st, M) Z) (kf : ¬ 0 < x → Rn d j (pc', L, st, M) Z) : Rn d j (pc, L, vI x :: st, M) Z := by subst hn; exact rn_br hd rfl hp kt kf
theorem rn_if_le {n t pc' : Nat} {off : Int} {x : Int32} (hd : xfet j pc = some (.ifCond .le off, n)) (hp : xtg pc off = some t) (hn : pc + 3 = pc') (kt : ¬ 0 < x → Rn d j (t, L, st, M) Z) (kf : 0 < x → Rn d j (pc', L, st, M) Z) : Rn d j (pc, L, vI x :: st, M) Z := by subst hn; exact rn_br hd rfl hp (fun h => kt (Int32.not_lt.mpr h)) (fun h => kf (Int32.not_le.mp h))
theorem rn_ic_eq {n t pc' : Nat} {off : Int} {x y : Int32} (hd : xfet j pc = some (.if_icmp .eq off, n)) (hp : xtg pc off = some t) (hn : pc + 3 = pc') (kt : x = y → Rn d j (t, L, st, M) Z) (kf : ¬ x = y → Rn d j (pc', L, st, M) Z) : Rn d j (pc, L, vI y :: vI x :: st, M) Z := by subst hn; exact rn_br hd rfl hp kt kf
theorem rn_ic_ne {n t pc' : Nat} {off : Int} {x y : Int32} (hd : xfet j pc = some (.if_icmp .ne off, n)) (hp : xtg pc off = some t) (hn : pc + 3 = pc') (kt : ¬ x = y → Rn d j (t, L, st, M) Z) (kf : x = y → Rn d j (pc', L, st, M) Z) : Rn d j (pc, L, vI y :: vI x :: st, M) Z := by subst hn; exact rn_br hd rfl hp kt (fun h => kf (Decidable.byContradiction h))
theorem rn_ic_lt {n t pc' : Nat} {off : Int} {x y : Int32} (hd : xfet j pc = some (.if_icmp .lt off, n)) (hp : xtg pc off = some t) (hn : pc + 3 = pc') (kt : x < y → Rn d j (t, L, st, M) Z) (kf : ¬ x < y → Rn d j (pc', L, st, M) Z) : Rn d j (pc, L, vI y :: vI x :: st, M) Z := by subst hn; exact rn_br hd rfl hp kt kf
theorem rn_ic_ge {n t pc' : Nat} {off : Int} {x y : Int32} (hd : xfet j pc = some (.if_icmp .ge off, n)) (hp : xtg pc off = some t) (hn : pc + 3 = pc') (kt : ¬ x < y → Rn d j (t, L, st, M) Z) (kf : x < y → Rn d j (pc', L, st, M) Z) : Rn d j (pc, L, vI y :: vI x :: st, M) Z := by subst hn; exact rn_br hd rfl hp (fun h => kt (Int32.not_lt.mpr h)) (fun h => kf (Int32.not_le.mp h))
theorem rn_ic_gt {n t pc' : Nat} {off : Int} {x y : Int32} (hd : xfet j pc = some (.if_icmp .gt off, n)) (hp : xtg pc off = some t) (hn : pc + 3 = pc') (kt : y < x → Rn d j (t, L, st, M) Z) (kf : ¬ y < x → Rn d j (pc', L, st, M) Z) : Rn d j (pc, L, vI y :: vI x :: st, M) Z := by subst hn; exact rn_br hd rfl hp kt kf
theorem rn_ic_le {n t pc' : Nat} {off : Int} {x y : Int32} (hd : xfet j pc = some (.if_icmp .le off, n)) (hp : xtg pc off = some t) (hn : pc + 3 = pc') (kt : ¬ y < x → Rn d j (t, L, st, M) Z) (kf : y < x → Rn d j (pc', L, st, M) Z) : Rn d j (pc, L, vI y :: vI x :: st, M) Z := by subst hn; exact rn_br hd rfl hp (fun h => kt (Int32.not_lt.mpr h)) (fun h => kf (Int32.not_le.mp h))
theorem rn_ifnull {n t pc' : Nat} {off : Int} {o : Option (Nat × Nat)} (hd : xfet j pc = some (.ifnull off, n)) (hp : xtg pc off = some t) (hn : pc + 3 = pc') (kt : o = none → Rn d j (t, L, st, M) Z) (kf : ¬ o = none → Rn d j (pc', L, st, M) Z) : Rn d j (pc, L, .inr (.inr o) :: st, M) Z := by subst hn; exact rn_br hd rfl hp kt kf
theorem rn_ifnonnull {n t pc' : Nat} {off : Int} {o : Option (Nat × Nat)} (hd : xfet j pc = some (.ifnonnull off, n)) (hp : xtg pc off = some t) (hn : pc + 3 = pc') (kt : ¬ o = none → Rn d j (t, L, st, M) Z) (kf : o = none → Rn d j (pc', L, st, M) Z) : Rn d j (pc, L, .inr (.inr o) :: st, M) Z := by subst hn; exact rn_br hd rfl hp kt (fun h => kf (Decidable.byContradiction h))
theorem rn_ac_eq {n t pc' : Nat} {off : Int} {o o' : Option (Nat × Nat)} (hd : xfet j pc = some (.if_acmp .eq off, n)) (hp : xtg pc off = some t) (hn : pc + 3 = pc') (h1 : xvo j o = true) (h2 : xvo j o' = true) (kt : o = o' → Rn d j (t, L, st, M) Z) (kf : ¬ o = o' → Rn d j (pc', L, st, M) Z) : Rn d j (pc, L, .inr (.inr o') :: .inr (.inr o) :: st, M) Z := by subst hn; exact rn_br (dq := inferInstance) hd (by simp only [xi, h1, h2, and_self, if_true]) hp kt kf
theorem rn_ac_ne {n t pc' : Nat} {off : Int} {o o' : Option (Nat × Nat)} (hd : xfet j pc = some (.if_acmp .ne off, n)) (hp : xtg pc off = some t) (hn : pc + 3 = pc') (h1 : xvo j o = true) (h2 : xvo j o' = true) (kt : ¬ o = o' → Rn d j (t, L, st, M) Z) (kf : o = o' → Rn d j (pc', L, st, M) Z) : Rn d j (pc, L, .inr (.inr o') :: .inr (.inr o) :: st, M) Z := by subst hn; exact rn_br (dq := inferInstance) hd (by simp only [xi, h1, h2, and_self, if_true]) hp kt (fun h => kf (Decidable.byContradiction h))
theorem rn_getI {x n t k e N pc' kd : Nat} {nb : Bool} (hd : xfet j pc = some (.getfield x, n)) (hp : pc + 3 = pc') (hf : xfl (xmo j) x = some (t, k, nb)) (hk : (xfk t)[k]? = some kd) (hkd : kd ≤ 1) (hc : xcm j t = N) (he : e < N) (h : Rn d j (pc', L, vI (M.1 t e k) :: st, M) Z) : Rn d j (pc, L, vR t e :: st, M) Z := by
  subst hp; subst hc
  exact rn_of hd (by simp only [xi, xget, hf, he, and_self, if_true, xgv, hk, if_pos hkd]) h
theorem rn_getJ {x n t k e N pc' : Nat} {nb : Bool} (hd : xfet j pc = some (.getfield x, n)) (hp : pc + 3 = pc') (hf : xfl (xmo j) x = some (t, k, nb)) (hk : (xfk t)[k]? = some 2) (hc : xcm j t = N) (he : e < N) (h : Rn d j (pc', L, vL (M.2.1 t e k) :: st, M) Z) : Rn d j (pc, L, vR t e :: st, M) Z := by
  subst hp; subst hc
  exact rn_of hd (by simp only [xi, xget, hf, he, and_self, if_true, xgv, hk]; rfl) h
theorem rn_getV {x n t t' k e N pc' : Nat} {nb : Bool} (hd : xfet j pc = some (.getfield x, n)) (hp : pc + 3 = pc') (hf : xfl (xmo j) x = some (t, k, nb)) (hk : (xfk t)[k]? = some (t' + 10)) (ht : t' + 10 < 100) (hc : xcm j t = N) (he : e < N) (h : Rn d j (pc', L, vO t' (M.2.2 t e k) :: st, M) Z) : Rn d j (pc, L, vR t e :: st, M) Z := by
  subst hp; subst hc
  exact rn_of hd (by simp only [xi, xget, hf, he, and_self, if_true, xgv, hk, if_neg (show ¬ t' + 10 ≤ 1 by omega), if_neg (show ¬ t' + 10 = 2 by omega), if_pos ht, Nat.add_sub_cancel]) h
theorem rn_getF {x n t t' k e N pc' : Nat} {nb : Bool} (hd : xfet j pc = some (.getfield x, n)) (hp : pc + 3 = pc') (hf : xfl (xmo j) x = some (t, k, nb)) (hk : (xfk t)[k]? = some (t' + 100)) (hc : xcm j t = N) (he : e < N) (h : Rn d j (pc', L, vR t' e :: st, M) Z) : Rn d j (pc, L, vR t e :: st, M) Z := by
  subst hp; subst hc
  exact rn_of hd (by simp only [xi, xget, hf, he, and_self, if_true, xgv, hk, if_neg (show ¬ t' + 100 ≤ 1 by omega), if_neg (show ¬ t' + 100 = 2 by omega), if_neg (show ¬ t' + 100 < 100 by omega), Nat.add_sub_cancel]) h
theorem rn_putI {x n t k e N pc' : Nat} {nb : Bool} {v : Int32} (hd : xfet j pc = some (.putfield x, n)) (hp : pc + 3 = pc') (hf : xfl (xmo j) x = some (t, k, nb)) (hk : (xfk t)[k]? = some 0) (hc : xcm j t = N) (he : e < N) (h : Rn d j (pc', L, st, mI M t e k v) Z) : Rn d j (pc, L, vI v :: vR t e :: st, M) Z := by
  subst hp; subst hc
  exact rn_of hd (by simp only [xi, xput, hf, he, and_self, if_true, xpv, hk]) h
theorem rn_putZ {x n t k e N pc' : Nat} {nb : Bool} {v : Int32} (hd : xfet j pc = some (.putfield x, n)) (hp : pc + 3 = pc') (hf : xfl (xmo j) x = some (t, k, nb)) (hk : (xfk t)[k]? = some 1) (hc : xcm j t = N) (he : e < N) (hv : v = 0 ∨ v = 1) (h : Rn d j (pc', L, st, mI M t e k v) Z) : Rn d j (pc, L, vI v :: vR t e :: st, M) Z := by
  subst hp; subst hc
  exact rn_of hd (by simp only [xi, xput, hf, he, and_self, if_true, xpv, hk, if_pos hv]) h
theorem rn_putJ {x n t k e N pc' : Nat} {nb : Bool} {v : Int64} (hd : xfet j pc = some (.putfield x, n)) (hp : pc + 3 = pc') (hf : xfl (xmo j) x = some (t, k, nb)) (hk : (xfk t)[k]? = some 2) (hc : xcm j t = N) (he : e < N) (h : Rn d j (pc', L, st, mJ M t e k v) Z) : Rn d j (pc, L, vL v :: vR t e :: st, M) Z := by
  subst hp; subst hc
  exact rn_of hd (by simp only [xi, xput, hf, he, and_self, if_true, xpv, hk]) h
theorem xpv_mk {t e k r : Nat} (o : Option (Nat × Nat)) (hk : (xfk t)[k]? = some r) (h1 : 10 ≤ r) (h2 : r < 100) (ho : ∀ q, o = some q → q.1 = r - 10) : xpv M t e k (.inr (.inr o)) = some (mR M t e k (o.map fun q => q.2)) := by
  unfold xpv
  rw [hk]
  match r, h1, h2, ho with
  | r + 3, h1, h2, ho =>
    cases o with
    | none => simp only; rw [if_pos ⟨h1, h2⟩]; rfl
    | some q => simp only; rw [if_pos ⟨h1, h2, ho q rfl⟩]; rfl
theorem rn_putV {x n t t' k e N pc' : Nat} {nb : Bool} {o : Option Nat} (hd : xfet j pc = some (.putfield x, n)) (hp : pc + 3 = pc') (hf : xfl (xmo j) x = some (t, k, nb)) (hk : (xfk t)[k]? = some (t' + 10)) (ht : t' + 10 < 100) (hc : xcm j t = N) (he : e < N) (h : Rn d j (pc', L, st, mR M t e k o) Z) : Rn d j (pc, L, vO t' o :: vR t e :: st, M) Z := by
  subst hp; subst hc
  have hv : xpv M t e k (vO t' o) = some (mR M t e k o) := by
    have := xpv_mk (M := M) (e := e) (o.map fun e => (t', e)) hk (by omega) ht (fun q hq => by
      cases o with
      | none => cases hq
      | some z => cases hq; exact (Nat.add_sub_cancel _ _).symm)
    rw [this]
    cases o <;> rfl
  refine rn_of hd (c' := (pc + 3, L, st, mR M t e k o)) ?_ h
  simp only [xi, xput, hf, he, and_self, if_true, hv]
theorem xinb_of {i : Int32} {k n : Nat} (hi : i = nI k) (hk : k < n) (hn : n < 2 ^ 31) : xinb i n = true ∧ i.toNatClampNeg = k := by
  subst hi
  have h1 : (nI k).toNatClampNeg = k := nI_clamp (by omega)
  refine ⟨?_, h1⟩
  unfold xinb
  simp only [Bool.and_eq_true, decide_eq_true_eq]
  exact ⟨nI_pos (by omega), by rw [h1]; exact hk⟩
theorem rn_iald {n t e k N K pc' : Nat} {i : Int32} (hd : xfet j pc = some (.iaload, n)) (hp : pc + 1 = pc') (ho : xob t = none ∧ xek t = 0) (hc : xcm j t = N) (he : e < N) (ha : xal t = K) (hK : K < 2 ^ 31) (hi : i = nI k) (hk : k < K) (h : Rn d j (pc', L, vI (M.1 t e k) :: st, M) Z) : Rn d j (pc, L, vI i :: vR t e :: st, M) Z := by
  subst hp; subst hc; subst ha
  obtain ⟨h1, h2⟩ := xinb_of hi hk hK
  exact rn_of hd (by simp only [xi, xalI, ho.1, ho.2, he, h1, and_self, if_true, h2]) h
theorem rn_bald {n t e k N K pc' : Nat} {i : Int32} (hd : xfet j pc = some (.baload, n)) (hp : pc + 1 = pc') (ho : xob t = none ∧ xek t = 1) (hc : xcm j t = N) (he : e < N) (ha : xal t = K) (hK : K < 2 ^ 31) (hi : i = nI k) (hk : k < K) (h : Rn d j (pc', L, vI (M.1 t e k) :: st, M) Z) : Rn d j (pc, L, vI i :: vR t e :: st, M) Z := by
  subst hp; subst hc; subst ha
  obtain ⟨h1, h2⟩ := xinb_of hi hk hK
  exact rn_of hd (by simp only [xi, xalI, ho.1, ho.2, he, h1, and_self, if_true, h2]) h
theorem rn_lald {n t e k N K pc' : Nat} {i : Int32} (hd : xfet j pc = some (.laload, n)) (hp : pc + 1 = pc') (ho : xob t = none ∧ xek t = 2) (hc : xcm j t = N) (he : e < N) (ha : xal t = K) (hK : K < 2 ^ 31) (hi : i = nI k) (hk : k < K) (h : Rn d j (pc', L, vL (M.2.1 t e k) :: st, M) Z) : Rn d j (pc, L, vI i :: vR t e :: st, M) Z := by
  subst hp; subst hc; subst ha
  obtain ⟨h1, h2⟩ := xinb_of hi hk hK
  exact rn_of hd (by simp only [xi, xalJ, ho.1, ho.2, he, h1, and_self, if_true, h2]) h
theorem rn_aaldV {n t t' e k N K pc' : Nat} {i : Int32} (hd : xfet j pc = some (.aaload, n)) (hp : pc + 1 = pc') (ho : xob t = none) (hek : xek t = t' + 10) (ht : t' + 10 < 100) (hc : xcm j t = N) (he : e < N) (ha : xal t = K) (hK : K < 2 ^ 31) (hi : i = nI k) (hk : k < K) (h : Rn d j (pc', L, vO t' (M.2.2 t e k) :: st, M) Z) : Rn d j (pc, L, vI i :: vR t e :: st, M) Z := by
  subst hp; subst hc; subst ha
  obtain ⟨h1, h2⟩ := xinb_of hi hk hK
  exact rn_of hd (by simp only [xi, xalA, ho, hek, he, h1, show 10 ≤ t' + 10 by omega, and_self, if_true, h2, if_pos ht, Nat.add_sub_cancel]) h
theorem rn_aaldF {n t t' e k N K pc' : Nat} {i : Int32} (hd : xfet j pc = some (.aaload, n)) (hp : pc + 1 = pc') (ho : xob t = none) (hek : xek t = t' + 100) (hc : xcm j t = N) (he : e < N) (ha : xal t = K) (hK : K < 2 ^ 31) (hi : i = nI k) (hk : k < K) (h : Rn d j (pc', L, vR t' k :: st, M) Z) : Rn d j (pc, L, vI i :: vR t e :: st, M) Z := by
  subst hp; subst hc; subst ha
  obtain ⟨h1, h2⟩ := xinb_of hi hk hK
  exact rn_of hd (by simp only [xi, xalA, ho, hek, he, h1, show 10 ≤ t' + 100 by omega, and_self, if_true, h2, if_neg (show ¬ t' + 100 < 100 by omega), Nat.add_sub_cancel]) h
theorem rn_iast {n t e k N K pc' : Nat} {i v : Int32} (hd : xfet j pc = some (.iastore, n)) (hp : pc + 1 = pc') (ho : xob t = none ∧ xek t = 0) (hc : xcm j t = N) (he : e < N) (ha : xal t = K) (hK : K < 2 ^ 31) (hi : i = nI k) (hk : k < K) (h : Rn d j (pc', L, st, mI M t e k v) Z) : Rn d j (pc, L, vI v :: vI i :: vR t e :: st, M) Z := by
  subst hp; subst hc; subst ha
  obtain ⟨h1, h2⟩ := xinb_of hi hk hK
  refine rn_of hd (c' := (pc + 1, L, st, mI M t e k v)) ?_ h
  simp only [xi, xasI, ho.1, ho.2, he, h1, h2]
  simp
theorem rn_bast {n t e k N K pc' : Nat} {i v : Int32} (hd : xfet j pc = some (.bastore, n)) (hp : pc + 1 = pc') (ho : xob t = none ∧ xek t = 1) (hc : xcm j t = N) (he : e < N) (ha : xal t = K) (hK : K < 2 ^ 31) (hi : i = nI k) (hk : k < K) (hv : v = 0 ∨ v = 1) (h : Rn d j (pc', L, st, mI M t e k v) Z) : Rn d j (pc, L, vI v :: vI i :: vR t e :: st, M) Z := by
  subst hp; subst hc; subst ha
  obtain ⟨h1, h2⟩ := xinb_of hi hk hK
  refine rn_of hd (c' := (pc + 1, L, st, mI M t e k v)) ?_ h
  simp only [xi, xasI, ho.1, ho.2, he, h1, h2, hv]
  simp
theorem rn_last {n t e k N K pc' : Nat} {i : Int32} {v : Int64} (hd : xfet j pc = some (.lastore, n)) (hp : pc + 1 = pc') (ho : xob t = none ∧ xek t = 2) (hc : xcm j t = N) (he : e < N) (ha : xal t = K) (hK : K < 2 ^ 31) (hi : i = nI k) (hk : k < K) (h : Rn d j (pc', L, st, mJ M t e k v) Z) : Rn d j (pc, L, vL v :: vI i :: vR t e :: st, M) Z := by
  subst hp; subst hc; subst ha
  obtain ⟨h1, h2⟩ := xinb_of hi hk hK
  exact rn_of hd (by simp only [xi, xasJ, ho.1, ho.2, he, h1, and_self, if_true, h2]) h
theorem rn_aast {n t t' e e' k N N' K pc' : Nat} {i : Int32} (hd : xfet j pc = some (.aastore, n)) (hp : pc + 1 = pc') (ho : xob t = none) (hek : xek t = t' + 10) (ht : t' + 10 < 100) (hc : xcm j t = N) (he : e < N) (hc' : xcm j t' = N') (he' : e' < N') (ha : xal t = K) (hK : K < 2 ^ 31) (hi : i = nI k) (hk : k < K) (h : Rn d j (pc', L, st, mR M t e k (some e')) Z) : Rn d j (pc, L, vR t' e' :: vI i :: vR t e :: st, M) Z := by
  subst hp; subst hc; subst ha; subst hc'
  obtain ⟨h1, h2⟩ := xinb_of hi hk hK
  exact rn_of hd (by simp only [xi, xasA, ho, hek, he, h1, show 10 ≤ t' + 10 by omega, ht, and_self, if_true, h2, Nat.add_sub_cancel, he']) h
theorem rn_alen {n t e N K pc' : Nat} {v : Int32} (hd : xfet j pc = some (.arraylength, n)) (hp : pc + 1 = pc') (ho : xob t = none) (hc : xcm j t = N) (he : e < N) (ha : xal t = K) (hv : Int32.ofNat K = v) (h : Rn d j (pc', L, vI v :: st, M) Z) : Rn d j (pc, L, vR t e :: st, M) Z := by
  subst hp; subst hc; subst ha; subst hv
  exact rn_of hd (by simp only [xi, xlen, ho, he, and_self, if_true]) h
theorem rn_ireturn {n : Nat} {x : Int32} (hd : xfet j pc = some (.ireturn, n)) (hr : xmr j = some .int) (h : Z (some (vI x)) M) : Rn d j (pc, L, [vI x], M) Z := Rn.ret (by unfold x1; rw [show xfet j (pc, L, [vI x], M).1 = _ from hd]; simp only [xi, xret, hr, true_or, if_true]) h
theorem rn_zreturn {n : Nat} {x : Int32} (hd : xfet j pc = some (.ireturn, n)) (hr : xmr j = some .boolean) (hx : x = 0 ∨ x = 1) (h : Z (some (vI x)) M) : Rn d j (pc, L, [vI x], M) Z := Rn.ret (by unfold x1; rw [show xfet j (pc, L, [vI x], M).1 = _ from hd]; simp only [xi, xret, hr, hx, and_self, or_true, if_true]) h
theorem rn_areturn {n : Nat} {o : Option (Nat × Nat)} (hd : xfet j pc = some (.areturn, n)) (hr : xisO (xmr j) = true) (h : Z (some (.inr (.inr o))) M) : Rn d j (pc, L, [.inr (.inr o)], M) Z := Rn.ret (by unfold x1; rw [show xfet j (pc, L, ([(.inr (.inr o) : xV)] : List xV), M).1 = _ from hd]; simp only [xi, xreA, hr, if_true]) h
theorem rn_return {n : Nat} (hd : xfet j pc = some (.return_, n)) (hr : xmr j = none) (h : Z none M) : Rn d j (pc, L, [], M) Z := Rn.ret (by unfold x1; rw [show xfet j (pc, L, [], M).1 = _ from hd]; simp only [xi, hr, if_true]) h
theorem rn_topI {x y : Int32} (e : x = y) (h : Rn d j (pc, L, vI y :: st, M) Z) : Rn d j (pc, L, vI x :: st, M) Z := by rw [e]; exact h
theorem rn_topJ {x y : Int64} (e : x = y) (h : Rn d j (pc, L, vL y :: st, M) Z) : Rn d j (pc, L, vL x :: st, M) Z := by rw [e]; exact h
theorem rn_mem {M' : xM} (e : M = M') (h : Rn d j (pc, L, st, M') Z) : Rn d j (pc, L, st, M) Z := by rw [e]; exact h
theorem Rn.imp {c : xC} {Z' : Option xV → xM → Prop} (h : Rn d j c Z) (k : ∀ r M', Z r M' → Z' r M') : Rn d j c Z' := by
  obtain ⟨n, r, M', h1, h2⟩ := h
  exact ⟨n, r, M', h1, k r M' h2⟩
theorem rn_swIn {n t k : Nat} {dflt lo hi off : Int} {offs : Array Int} {x : Int32} (hd : xfet j pc = some (.tableswitch dflt lo hi offs, n)) (hx : x.toInt = lo + k) (hk : lo + k ≤ hi) (ho : offs[k]? = some off) (hp : xtg pc off = some t) (h : Rn d j (t, L, st, M) Z) : Rn d j (pc, L, vI x :: st, M) Z := by
  refine rn_of hd (c' := (t, L, st, M)) ?_ h
  simp only [xi, xsw]
  rw [if_neg (by omega), show (x.toInt - lo).toNat = k by omega, ho]
  simp only [hp]
theorem rn_swOut {n t : Nat} {dflt lo hi : Int} {offs : Array Int} {x : Int32} (hd : xfet j pc = some (.tableswitch dflt lo hi offs, n)) (hx : x.toInt < lo ∨ hi < x.toInt) (hp : xtg pc dflt = some t) (h : Rn d j (t, L, st, M) Z) : Rn d j (pc, L, vI x :: st, M) Z := by
  refine rn_of hd (c' := (t, L, st, M)) ?_ h
  simp only [xi, xsw]
  rw [if_pos hx, hp]
theorem rn_copy {x n t e t' e' N N' K A A' pc' : Nat} {c : Int32} {r : List xV} (hd : xfet j pc = some (.invokestatic x, n)) (hp : pc + 3 = pc') (hm : xml (xmo j) x = none) (hac : (xmo j, x) ∈ xacL) (ho : (xob t = none ∧ xek t = 0) ∧ xob t' = none ∧ xek t' = 0) (hc : xcm j t = N) (he : e < N) (hc' : xcm j t' = N') (he' : e' < N') (ha : xal t = A) (ha' : xal t' = A') (hK : c = nI K) (hA : K ≤ A ∧ K ≤ A' ∧ K < 2 ^ 31) (hr : r.length ≤ 4)
    (h : Rn (d + 1) j (pc', L, r, mC M t e t' e' 0 0 K) Z) : Rn (d + 1) j (pc, L, vI c :: vI 0 :: vR t' e' :: vI 0 :: vR t e :: r, M) Z := by
  subst hp; subst hc; subst ha; subst hc'; subst ha'; subst hK
  have h1 : (nI K).toNatClampNeg = K := nI_clamp hA.2.2
  have h0 : (0 : Int32).toNatClampNeg = 0 := rfl
  refine rn_of hd (c' := (pc + 3, L, r, mC M t e t' e' 0 0 K)) ?_ h
  simp only [xi, xins, hm]
  rw [if_pos ⟨Nat.succ_pos d, hac⟩]
  unfold xcopy
  simp only [h1, h0]
  rw [if_pos ⟨⟨ho.1.1, ho.1.2, he⟩, ⟨ho.2.1, ho.2.2, he'⟩, ⟨by decide, by decide, nI_pos hA.2.2⟩, by omega, by omega, hr⟩]
theorem rn_min {x n pc' : Nat} {a b : Int32} {r : List xV} (hd : xfet j pc = some (.invokestatic x, n)) (hp : pc + 3 = pc') (hm : xml (xmo j) x = none) (hna : ¬ (xmo j, x) ∈ xacL) (hmm : (xmo j, x) ∈ xmmL) (hr : r.length ≤ 4) (h : Rn (d + 1) j (pc', L, vI (if b < a then b else a) :: r, M) Z) : Rn (d + 1) j (pc, L, vI b :: vI a :: r, M) Z := by
  subst hp
  refine rn_of hd (c' := (pc + 3, L, vI (if b < a then b else a) :: r, M)) ?_ h
  simp only [xi, xins, hm]
  rw [if_neg (fun h => hna h.2), if_pos ⟨Nat.succ_pos d, hmm⟩]
  simp only [xmin, hr, if_true]
/-- calls: of an object's method with arguments as, of a static one -/
theorem rn_callV {x n k kd t e N pc' : Nat} {as r : List xV} {Z1 : Option xV → xM → Prop} (hd : xfet j pc = some (.invokevirtual x, n)) (hp : pc + 3 = pc') (hm : xml (xmo j) x = some (k, kd)) (hkd : kd < 2 ∧ xmt k = t + 1 ∧ xmn k = as.length) (hc : xcm j t = N) (he : e < N) (hx : (xsl (vR t e :: as)).length ≤ xmL k) (hr : r.length ≤ 4) (hst : st = as.reverse ++ vR t e :: r)
    (k1 : Rn d k (0, xen k (vR t e :: as), [], M) Z1) (k2 : ∀ v M', Z1 v M' → Rn (d + 1) j (pc', L, v.toList ++ r, M') Z) : Rn (d + 1) j (pc, L, st, M) Z := by
  subst hp; subst hc; subst hst
  have hl : xmn k = as.reverse.length := by rw [List.length_reverse]; exact hkd.2.2
  refine Rn.call (k := k) (pc := pc + 3) (as := vR t e :: as) (L := L) (st := r) (M := M) ?_ k1 k2
  unfold x1
  rw [show xfet j (pc, L, as.reverse ++ vR t e :: r, M).1 = _ from hd]
  simp only [xi, xinv, hm]
  rw [if_pos ⟨hkd.1, by rw [hl, List.length_append]; omega⟩]
  rw [hl, List.drop_left, List.take_left, List.reverse_reverse]
  simp only
  rw [if_pos ⟨hkd.2.1, he⟩]
  unfold xcall
  rw [if_pos ⟨hx, hr⟩]
theorem rn_callS {x n k kd pc' : Nat} {as r : List xV} {Z1 : Option xV → xM → Prop} (hd : xfet j pc = some (.invokestatic x, n)) (hp : pc + 3 = pc') (hm : xml (xmo j) x = some (k, kd)) (hkd : kd = 2 ∧ xmt k = 0 ∧ xmn k = as.length) (hx : (xsl as).length ≤ xmL k) (hr : r.length ≤ 4) (hst : st = as.reverse ++ r)
    (k1 : Rn d k (0, xen k as, [], M) Z1) (k2 : ∀ v M', Z1 v M' → Rn (d + 1) j (pc', L, v.toList ++ r, M') Z) : Rn (d + 1) j (pc, L, st, M) Z := by
  subst hp; subst hst
  have hl : xmn k = as.reverse.length := by rw [List.length_reverse]; exact hkd.2.2
  refine Rn.call (k := k) (pc := pc + 3) (as := as) (L := L) (st := r) (M := M) ?_ k1 k2
  unfold x1
  rw [show xfet j (pc, L, as.reverse ++ r, M).1 = _ from hd]
  simp only [xi, xins, hm]
  rw [if_pos ⟨hkd.1, hkd.2.1, by rw [hl, List.length_append]; omega⟩]
  rw [hl, List.drop_left, List.take_left, List.reverse_reverse]
  unfold xcall
  rw [if_pos ⟨hx, hr⟩]
end RUL
theorem nI_inc (a : Nat) : nI a + Int32.ofInt 1 = nI (a + 1) := nI_1 a
end
section
/-! THE REFERENCE, its small methods: what each does in the small machine -/
theorem x_sw (x : Int32) (lo : Int) (n : Nat) : (x.toInt < lo ∨ lo + n ≤ x.toInt) ∨ ∃ k : Nat, k < n ∧ x.toInt = lo + k := by
  by_cases h1 : x.toInt < lo
  · exact Or.inl (Or.inl h1)
  · by_cases h2 : lo + n ≤ x.toInt
    · exact Or.inl (Or.inr h2)
    · exact Or.inr ⟨(x.toInt - lo).toNat, by omega, by omega⟩
theorem lt24 {i : Nat} (h : i < 2 ^ 31) : (nI i < 24) ↔ i < 24 := nI_ltI h (by decide)
def oI (o : Option Nat) : Int32 := match o with
  | none => -1
  | some e => nI e
theorem oI_neg {o : Option Nat} (h : ∀ e, o = some e → e < 24) : oI o < 0 ↔ o = none := by
  cases o with
  | none => simp [oI]
  | some e =>
    simp only [oI, reduceCtorEq, iff_false]
    exact nI_pos (by have := h e rfl; omega)
theorem lg_lt (x y : Int64) : lg_cmp x y < 0 ↔ x < y := by
  unfold lg_cmp
  by_cases h1 : y < x
  · simp only [gt_iff_lt, h1, if_true]
    constructor
    · intro h; exact absurd h (by decide)
    · intro h; exact absurd (Int64.lt_trans h h1) (Int64.lt_irrefl)
  · simp only [gt_iff_lt, h1, if_false]
    by_cases h2 : x = y
    · simp only [h2, if_true]
      constructor
      · intro h; exact absurd h (by decide)
      · intro h; exact absurd h Int64.lt_irrefl
    · simp only [h2, if_false]
      constructor
      · intro _; exact Int64.lt_of_le_of_ne (Int64.not_lt.mp h1) h2
      · intro _; decide
theorem lg_gt (x y : Int64) : 0 < lg_cmp x y ↔ y < x := by
  unfold lg_cmp
  by_cases h1 : y < x
  · simp only [gt_iff_lt, h1, if_true]
    exact ⟨fun _ => trivial, fun _ => by decide⟩
  · simp only [gt_iff_lt, h1, if_false, iff_false]
    by_cases h2 : x = y <;> simp only [h2, if_true, if_false] <;> decide
/-- in(v, low, high) -/
theorem r_in {d : Nat} (M : xM) (v lo hi : Int64) : Rn d 69 (0, xen 69 [vL v, vL lo, vL hi], [], M) (fun r M' => r = some (vI (if lo ≤ v ∧ v ≤ hi then 1 else 0)) ∧ M' = M) := by
  show Rn _ 69 (0, [some (vL v), none, some (vL lo), none, some (vL hi), none], [], _) _
  refine rn_lload_n (pc' := 1) rfl rfl rfl ?_
  refine rn_lload_n (pc' := 2) rfl rfl rfl ?_
  refine rn_lcmp (pc' := 3) rfl rfl ?_
  refine rn_if_lt (t := 17) (pc' := 6) rfl rfl rfl (fun h1 => ?_) (fun h1 => ?_)
  · refine rn_iconst (pc' := 18) (v := 0) rfl rfl (by decide) ?_
    refine rn_zreturn rfl rfl (by decide) ?_
    refine ⟨?_, rfl⟩
    simp only [lg_lt, lg_gt, Int64.not_lt] at *
    first | rw [if_neg (fun h => absurd h.1 (Int64.not_le.mpr ‹_›))] | rw [if_neg (fun h => absurd h.2 (Int64.not_le.mpr ‹_›))] | rw [if_pos ⟨‹_›, ‹_›⟩]
  · refine rn_lload_n (pc' := 7) rfl rfl rfl ?_
    refine rn_lload (pc' := 9) rfl rfl rfl ?_
    refine rn_lcmp (pc' := 10) rfl rfl ?_
    refine rn_if_gt (t := 17) (pc' := 13) rfl rfl rfl (fun h2 => ?_) (fun h2 => ?_)
    · refine rn_iconst (pc' := 18) (v := 0) rfl rfl (by decide) ?_
      refine rn_zreturn rfl rfl (by decide) ?_
      refine ⟨?_, rfl⟩
      simp only [lg_lt, lg_gt, Int64.not_lt] at *
      first | rw [if_neg (fun h => absurd h.1 (Int64.not_le.mpr ‹_›))] | rw [if_neg (fun h => absurd h.2 (Int64.not_le.mpr ‹_›))] | rw [if_pos ⟨‹_›, ‹_›⟩]
    · refine rn_iconst (pc' := 14) (v := 1) rfl rfl (by decide) ?_
      refine rn_goto (pc' := 18) rfl rfl ?_
      refine rn_zreturn rfl rfl (by decide) ?_
      refine ⟨?_, rfl⟩
      simp only [lg_lt, lg_gt, Int64.not_lt] at *
      first | rw [if_neg (fun h => absurd h.1 (Int64.not_le.mpr ‹_›))] | rw [if_neg (fun h => absurd h.2 (Int64.not_le.mpr ‹_›))] | rw [if_pos ⟨‹_›, ‹_›⟩]
/-- where a PID is -/
abbrev rpid (M : xM) (e : Nat) : Int32 := M.1 25 0 e
abbrev rpar (M : xM) (e : Nat) : Int32 := M.1 26 0 e
abbrev rgrp (M : xM) (e : Nat) : Int32 := M.1 27 0 e
abbrev rste (M : xM) (e : Nat) : Int32 := M.1 28 0 e
def eoF (M : xM) (p : Int32) : Nat → Option Nat
  | 0 => none
  | k + 1 => if 0 < p ∧ rpid M k = p then some k else eoF M p k
def eo (M : xM) (p : Int32) : Option Nat := eoF M p 24
theorem eoF_some {M : xM} {p : Int32} {e : Nat} : ∀ {k : Nat}, eoF M p k = some e → e < k ∧ 0 < p ∧ rpid M e = p := by
  intro k
  induction k with
  | zero => intro h; cases h
  | succ k ih =>
    intro h
    unfold eoF at h
    split at h
    · cases h; exact ⟨Nat.lt_succ_self _, ‹_›⟩
    · have := ih h
      exact ⟨Nat.lt_succ_of_lt this.1, this.2⟩
theorem eoF_none {M : xM} {p : Int32} : ∀ {k : Nat}, eoF M p k = none → ∀ e, e < k → ¬ (0 < p ∧ rpid M e = p) := by
  intro k
  induction k with
  | zero => intro _ e he; omega
  | succ k ih =>
    intro h e he
    unfold eoF at h
    split at h
    · cases h
    · by_cases hk : e = k
      · subst hk; assumption
      · exact ih h e (by omega)
theorem eo_lt {M : xM} {p : Int32} {e : Nat} (h : eo M p = some e) : e < 24 := (eoF_some h).1
theorem eoF_lt {M : xM} {p : Int32} {k : Nat} (hk : k ≤ 24) : ∀ e, eoF M p k = some e → e < 24 := fun e h => by
  have := (eoF_some h).1
  omega
theorem r_entryOf {d : Nat} (M : xM) (p : Int32) : Rn d 72 (0, xen 72 [vR 20 0, vI p], [], M) (fun r M' => r = some (vI (oI (eo M p))) ∧ M' = M) := by
  have loop : ∀ m i : Nat, i + m = 24 → Rn d 72 (4, [some (vR 20 0), some (vI p), some (vI (oI (eoF M p i))), some (vI (nI i))], [], M) (fun r M' => r = some (vI (oI (eo M p))) ∧ M' = M) := by
    intro m
    induction m with
    | zero =>
      intro i hi
      refine rn_iload_n (pc' := 5) rfl rfl rfl ?_
      refine rn_bipush (pc' := 7) (v := 24) rfl rfl (by decide) ?_
      refine rn_ic_ge (t := 36) (pc' := 10) rfl rfl rfl (fun h1 => ?_) (fun h1 => ?_)
      · refine rn_iload_n (pc' := 37) rfl rfl rfl ?_
        refine rn_ireturn rfl rfl ?_
        exact ⟨by rw [show i = 24 by omega]; rfl, rfl⟩
      · exact absurd ((lt24 (by omega)).mp h1) (by omega)
    | succ m ih =>
      intro i hi
      have he : i < 24 := by omega
      have key : ∀ x, x = oI (eoF M p (i + 1)) → Rn d 72 (29, [some (vR 20 0), some (vI p), some (vI (oI (eoF M p i))), some (vI (nI i))], [vI x], M) (fun r M' => r = some (vI (oI (eo M p))) ∧ M' = M) := by
        intro x hx
        subst hx
        refine rn_istore_n (pc' := 30) rfl rfl rfl (Nat.le_of_ble_eq_true rfl) rfl ?_
        refine rn_iinc (pc' := 33) rfl rfl rfl (nI_inc _) rfl (Nat.le_of_ble_eq_true rfl) rfl ?_
        refine rn_goto (pc' := 4) rfl rfl ?_
        exact ih (i + 1) (by omega)
      refine rn_iload_n (pc' := 5) rfl rfl rfl ?_
      refine rn_bipush (pc' := 7) (v := 24) rfl rfl (by decide) ?_
      refine rn_ic_ge (t := 36) (pc' := 10) rfl rfl rfl (fun h1 => ?_) (fun h1 => ?_)
      · exact absurd ((lt24 (by omega)).mpr he) h1
      · refine rn_iload_n (pc' := 11) rfl rfl rfl ?_
        refine rn_if_le (t := 28) (pc' := 14) rfl rfl rfl (fun h2 => ?_) (fun h2 => ?_)
        · refine rn_iload_n (pc' := 29) rfl rfl rfl ?_
          refine key _ ?_
          simp [eoF, oI, rpid, *]
        · refine rn_aload_n (pc' := 15) rfl rfl rfl ?_
          refine rn_getF (N := 1) (t' := 25) (pc' := 18) rfl rfl rfl rfl rfl (by first | assumption | decide | omega) ?_
          refine rn_iload_n (pc' := 19) rfl rfl rfl ?_
          refine rn_iald (N := 1) (K := 24) (pc' := 20) rfl rfl ⟨rfl, rfl⟩ rfl (by first | assumption | decide | omega) rfl (by decide) rfl (by first | assumption | decide | omega) ?_
          refine rn_iload_n (pc' := 21) rfl rfl rfl ?_
          refine rn_ic_ne (t := 28) (pc' := 24) rfl rfl rfl (fun h3 => ?_) (fun h3 => ?_)
          · refine rn_iload_n (pc' := 29) rfl rfl rfl ?_
            refine key _ ?_
            simp [eoF, oI, rpid, *]
          · refine rn_iload_n (pc' := 25) rfl rfl rfl ?_
            refine rn_goto (pc' := 29) rfl rfl ?_
            refine key _ ?_
            simp [eoF, oI, rpid, *]
  show Rn _ 72 (0, [some (vR 20 0), some (vI p), none, none], [], _) _
  refine rn_iconst (pc' := 1) (v := (-1)) rfl rfl (by decide) ?_
  refine rn_istore_n (pc' := 2) rfl rfl rfl (Nat.le_of_ble_eq_true rfl) rfl ?_
  refine rn_iconst (pc' := 3) (v := 0) rfl rfl (by decide) ?_
  refine rn_istore_n (pc' := 4) rfl rfl rfl (Nat.le_of_ble_eq_true rfl) rfl ?_
  exact loop 24 0 (by omega)
/-- the first free entry -/
def feF (M : xM) : Nat → Nat → Nat
  | 0, i => i
  | m + 1, i => if 0 < rpid M i then feF M m (i + 1) else i
def fe (M : xM) : Nat := feF M 24 0
theorem r_freeEntry {d : Nat} (M : xM) : Rn d 73 (0, xen 73 [vR 20 0], [], M) (fun r M' => r = some (vI (nI (fe M))) ∧ M' = M) := by
  have loop : ∀ m i : Nat, i + m = 24 → feF M m i = fe M → Rn d 73 (2, [some (vR 20 0), some (vI (nI i))], [], M) (fun r M' => r = some (vI (nI (fe M))) ∧ M' = M) := by
    intro m
    induction m with
    | zero =>
      intro i hi hf
      refine rn_iload_n (pc' := 3) rfl rfl rfl ?_
      refine rn_bipush (pc' := 5) (v := 24) rfl rfl (by decide) ?_
      refine rn_ic_ge (t := 23) (pc' := 8) rfl rfl rfl (fun h1 => ?_) (fun h1 => ?_)
      · refine rn_iload_n (pc' := 24) rfl rfl rfl ?_
        refine rn_ireturn rfl rfl ?_
        exact ⟨by rw [← hf]; rfl, rfl⟩
      · exact absurd ((lt24 (by omega)).mp h1) (by omega)
    | succ m ih =>
      intro i hi hf
      have he : i < 24 := by omega
      unfold feF at hf
      refine rn_iload_n (pc' := 3) rfl rfl rfl ?_
      refine rn_bipush (pc' := 5) (v := 24) rfl rfl (by decide) ?_
      refine rn_ic_ge (t := 23) (pc' := 8) rfl rfl rfl (fun h1 => ?_) (fun h1 => ?_)
      · refine rn_iload_n (pc' := 24) rfl rfl rfl ?_
        refine rn_ireturn rfl rfl ?_
        first | exact absurd ((lt24 (by omega)).mpr he) h1 | exact ⟨by rw [← hf, if_neg h2], rfl⟩
      · refine rn_aload_n (pc' := 9) rfl rfl rfl ?_
        refine rn_getF (N := 1) (t' := 25) (pc' := 12) rfl rfl rfl rfl rfl (by first | assumption | decide | omega) ?_
        refine rn_iload_n (pc' := 13) rfl rfl rfl ?_
        refine rn_iald (N := 1) (K := 24) (pc' := 14) rfl rfl ⟨rfl, rfl⟩ rfl (by first | assumption | decide | omega) rfl (by decide) rfl (by first | assumption | decide | omega) ?_
        refine rn_if_le (t := 23) (pc' := 17) rfl rfl rfl (fun h2 => ?_) (fun h2 => ?_)
        · refine rn_iload_n (pc' := 24) rfl rfl rfl ?_
          refine rn_ireturn rfl rfl ?_
          first | exact absurd ((lt24 (by omega)).mpr he) h1 | exact ⟨by rw [← hf, if_neg h2], rfl⟩
        · refine rn_iinc (pc' := 20) rfl rfl rfl (nI_inc _) rfl (Nat.le_of_ble_eq_true rfl) rfl ?_
          refine rn_goto (pc' := 2) rfl rfl ?_
          exact ih (i + 1) (by omega) (by rw [if_pos h2] at hf; exact hf)
  show Rn _ 73 (0, [some (vR 20 0), none], [], _) _
  refine rn_iconst (pc' := 1) (v := 0) rfl rfl (by decide) ?_
  refine rn_istore_n (pc' := 2) rfl rfl rfl (Nat.le_of_ble_eq_true rfl) rfl ?_
  exact loop 24 0 (by omega) rfl
end
section
/-! THE REFERENCE: taken numbers, sending, waking, orphaned groups -/
def bI (b : Bool) : Int32 := if b = true then 1 else 0
theorem bI_01 (b : Bool) : bI b = 0 ∨ bI b = 1 := by cases b <;> simp [bI]
def tkF (M : xM) (n : Int32) : Nat → Bool
  | 0 => false
  | k + 1 => tkF M n k || (decide (0 < rpid M k) && (decide (rpid M k = n) || decide (rgrp M k = n)))
def tk (M : xM) (n : Int32) : Bool := tkF M n 24
theorem r_isTaken {d : Nat} (M : xM) (n : Int32) : Rn d 74 (0, xen 74 [vR 20 0, vI n], [], M) (fun r M' => r = some (vI (bI (tk M n))) ∧ M' = M) := by
  have loop : ∀ m i : Nat, i + m = 24 → Rn d 74 (4, [some (vR 20 0), some (vI n), some (vI (bI (tkF M n i))), some (vI (nI i))], [], M) (fun r M' => r = some (vI (bI (tk M n))) ∧ M' = M) := by
    intro m
    induction m with
    | zero =>
      intro i hi
      refine rn_iload_n (pc' := 5) rfl rfl rfl ?_
      refine rn_bipush (pc' := 7) (v := 24) rfl rfl (by decide) ?_
      refine rn_ic_ge (t := 55) (pc' := 10) rfl rfl rfl (fun h1 => ?_) (fun h1 => ?_)
      · refine rn_iload_n (pc' := 56) rfl rfl rfl ?_
        refine rn_zreturn rfl rfl (bI_01 _) ?_
        exact ⟨by rw [show i = 24 by omega]; rfl, rfl⟩
      · exact absurd ((lt24 (by omega)).mp h1) (by omega)
    | succ m ih =>
      intro i hi
      have he : i < 24 := by omega
      have key : ∀ x, x = bI (tkF M n (i + 1)) → Rn d 74 (48, [some (vR 20 0), some (vI n), some (vI (bI (tkF M n i))), some (vI (nI i))], [vI x], M) (fun r M' => r = some (vI (bI (tk M n))) ∧ M' = M) := by
        intro x hx
        subst hx
        refine rn_istore_n (pc' := 49) rfl rfl rfl (Nat.le_of_ble_eq_true rfl) rfl ?_
        refine rn_iinc (pc' := 52) rfl rfl rfl (nI_inc _) rfl (Nat.le_of_ble_eq_true rfl) rfl ?_
        refine rn_goto (pc' := 4) rfl rfl ?_
        exact ih (i + 1) (by omega)
      have hb : ∀ b : Bool, bI b = 0 ↔ b = false := fun b => by cases b <;> simp [bI]
      refine rn_iload_n (pc' := 5) rfl rfl rfl ?_
      refine rn_bipush (pc' := 7) (v := 24) rfl rfl (by decide) ?_
      refine rn_ic_ge (t := 55) (pc' := 10) rfl rfl rfl (fun h1 => ?_) (fun h1 => ?_)
      · exact absurd ((lt24 (by omega)).mpr he) h1
      · refine rn_iload_n (pc' := 11) rfl rfl rfl ?_
        refine rn_if_ne (t := 43) (pc' := 14) rfl rfl rfl (fun h2 => ?_) (fun h2 => ?_)
        · refine rn_iconst (pc' := 44) (v := 1) rfl rfl (by decide) ?_
          refine rn_goto (pc' := 48) rfl rfl ?_
          refine key _ ?_
          simp only [hb, Bool.not_eq_false] at h2
          first | (simp [tkF, rpid, rgrp, bI, *]; done) | simp_all [tkF, rpid, rgrp, bI]
        · refine rn_aload_n (pc' := 15) rfl rfl rfl ?_
          refine rn_getF (N := 1) (t' := 25) (pc' := 18) rfl rfl rfl rfl rfl (by first | assumption | decide | omega) ?_
          refine rn_iload_n (pc' := 19) rfl rfl rfl ?_
          refine rn_iald (N := 1) (K := 24) (pc' := 20) rfl rfl ⟨rfl, rfl⟩ rfl (by first | assumption | decide | omega) rfl (by decide) rfl (by first | assumption | decide | omega) ?_
          refine rn_if_le (t := 47) (pc' := 23) rfl rfl rfl (fun h3 => ?_) (fun h3 => ?_)
          · refine rn_iconst (pc' := 48) (v := 0) rfl rfl (by decide) ?_
            refine key _ ?_
            simp only [hb, Bool.not_eq_false] at h2
            first | (simp [tkF, rpid, rgrp, bI, *]; done) | simp_all [tkF, rpid, rgrp, bI]
          · refine rn_aload_n (pc' := 24) rfl rfl rfl ?_
            refine rn_getF (N := 1) (t' := 25) (pc' := 27) rfl rfl rfl rfl rfl (by first | assumption | decide | omega) ?_
            refine rn_iload_n (pc' := 28) rfl rfl rfl ?_
            refine rn_iald (N := 1) (K := 24) (pc' := 29) rfl rfl ⟨rfl, rfl⟩ rfl (by first | assumption | decide | omega) rfl (by decide) rfl (by first | assumption | decide | omega) ?_
            refine rn_iload_n (pc' := 30) rfl rfl rfl ?_
            refine rn_ic_eq (t := 43) (pc' := 33) rfl rfl rfl (fun h4 => ?_) (fun h4 => ?_)
            · refine rn_iconst (pc' := 44) (v := 1) rfl rfl (by decide) ?_
              refine rn_goto (pc' := 48) rfl rfl ?_
              refine key _ ?_
              simp only [hb, Bool.not_eq_false] at h2
              first | (simp [tkF, rpid, rgrp, bI, *]; done) | simp_all [tkF, rpid, rgrp, bI]
            · refine rn_aload_n (pc' := 34) rfl rfl rfl ?_
              refine rn_getF (N := 1) (t' := 27) (pc' := 37) rfl rfl rfl rfl rfl (by first | assumption | decide | omega) ?_
              refine rn_iload_n (pc' := 38) rfl rfl rfl ?_
              refine rn_iald (N := 1) (K := 24) (pc' := 39) rfl rfl ⟨rfl, rfl⟩ rfl (by first | assumption | decide | omega) rfl (by decide) rfl (by first | assumption | decide | omega) ?_
              refine rn_iload_n (pc' := 40) rfl rfl rfl ?_
              refine rn_ic_ne (t := 47) (pc' := 43) rfl rfl rfl (fun h5 => ?_) (fun h5 => ?_)
              · refine rn_iconst (pc' := 48) (v := 0) rfl rfl (by decide) ?_
                refine key _ ?_
                simp only [hb, Bool.not_eq_false] at h2
                first | (simp [tkF, rpid, rgrp, bI, *]; done) | simp_all [tkF, rpid, rgrp, bI]
              · refine rn_iconst (pc' := 44) (v := 1) rfl rfl (by decide) ?_
                refine rn_goto (pc' := 48) rfl rfl ?_
                refine key _ ?_
                simp only [hb, Bool.not_eq_false] at h2
                first | (simp [tkF, rpid, rgrp, bI, *]; done) | simp_all [tkF, rpid, rgrp, bI]
  show Rn _ 74 (0, [some (vR 20 0), some (vI n), none, none], [], _) _
  refine rn_iconst (pc' := 1) (v := 0) rfl rfl (by decide) ?_
  refine rn_istore_n (pc' := 2) rfl rfl rfl (Nat.le_of_ble_eq_true rfl) rfl ?_
  refine rn_iconst (pc' := 3) (v := 0) rfl rfl (by decide) ?_
  refine rn_istore_n (pc' := 4) rfl rfl rfl (Nat.le_of_ble_eq_true rfl) rfl ?_
  exact loop 24 0 (by omega)
/-- the number behind a number -/
def nx (n : Nat) : Nat := if 999 ≤ n then 2 else n + 1
def nxi : Nat → Nat → Nat
  | 0, n => n
  | m + 1, n => nxi m (nx n)
theorem nx_le {n : Nat} : nx n ≤ 999 ∧ 1 ≤ nx n := by unfold nx; split <;> omega
theorem r_newPid {d : Nat} (M : xM) {l m : Nat} (hl : M.1 20 0 24 = nI l) (hl2 : l ≤ 999) (hb : ∀ i, i < m → tk M (nI (nxi (i + 1) l)) = true) (hf : tk M (nI (nxi (m + 1) l)) = false) : Rn (d + 1) 75 (0, xen 75 [vR 20 0], [], M) (fun r M' => r = some (vI (nI (nxi (m + 1) l))) ∧ M' = mI M 20 0 24 (nI (nxi (m + 1) l))) := by
  have step : ∀ l : Nat, l ≤ 999 → ∀ Z, Rn (d + 1) 75 (7, [some (vR 20 0), some (vI (nI (nx l))), some (vI (bI (tk M (nI (nx l)))))], [], M) Z → Rn (d + 1) 75 (7, [some (vR 20 0), some (vI (nI l)), some (vI 1)], [], M) Z := by
    intro l hl Z hk
    have key : Rn (d + 1) 75 (25, [some (vR 20 0), some (vI (nI l)), some (vI 1)], [vI (nI (nx l))], M) Z := by
      refine rn_istore_n (pc' := 26) rfl rfl rfl (Nat.le_of_ble_eq_true rfl) rfl ?_
      refine rn_aload_n (pc' := 27) rfl rfl rfl ?_
      refine rn_iload_n (pc' := 28) rfl rfl rfl ?_
      refine rn_callV (pc' := 31) (as := [_]) rfl rfl rfl ⟨Nat.le_of_ble_eq_true rfl, rfl, rfl⟩ rfl (by first | assumption | decide | omega) (Nat.le_of_ble_eq_true rfl) (Nat.le_of_ble_eq_true rfl) rfl (r_isTaken M _) (fun r1 M1 hz => ?_)
      obtain ⟨rfl, hm_⟩ := hz
      refine rn_mem hm_ ?_
      clear hm_
      refine rn_istore_n (pc' := 32) rfl rfl rfl (Nat.le_of_ble_eq_true rfl) rfl ?_
      refine rn_goto (pc' := 7) rfl rfl ?_
      exact hk
    have h9 := nI_ltI (a := l) (b := 999) (by omega) (by decide)
    have e2 : ¬ nI l < 999 → (2 : Int32) = nI (nx l) := fun h => by
      have : ¬ l < 999 := fun z => h (h9.mpr z)
      unfold nx
      rw [if_pos (by omega)]
      exact rfl
    have e3 : nI l < 999 → nI l + 1 = nI (nx l) := fun h => by
      have := h9.mp h
      unfold nx
      rw [if_neg (by omega)]
      exact nI_1 l
    refine rn_iload_n (pc' := 8) rfl rfl rfl ?_
    refine rn_if_eq (t := 35) (pc' := 11) rfl rfl rfl (fun h1 => ?_) (fun h1 => ?_)
    · exact absurd h1 (by decide)
    · refine rn_iload_n (pc' := 12) rfl rfl rfl ?_
      refine rn_sipush (pc' := 15) (v := 999) rfl rfl (by decide) ?_
      refine rn_ic_lt (t := 22) (pc' := 18) rfl rfl rfl (fun h2 => ?_) (fun h2 => ?_)
      · refine rn_iload_n (pc' := 23) rfl rfl rfl ?_
        refine rn_iconst (pc' := 24) (v := 1) rfl rfl (by decide) ?_
        refine rn_iadd (pc' := 25) rfl rfl ?_
        first | exact rn_topI (e2 h2) key | exact rn_topI (e3 h2) key
      · refine rn_iconst (pc' := 19) (v := 2) rfl rfl (by decide) ?_
        refine rn_goto (pc' := 25) rfl rfl ?_
        first | exact rn_topI (e2 h2) key | exact rn_topI (e3 h2) key
  have loop : ∀ m l : Nat, l ≤ 999 → (∀ i, i < m → tk M (nI (nxi (i + 1) l)) = true) → tk M (nI (nxi (m + 1) l)) = false → Rn (d + 1) 75 (7, [some (vR 20 0), some (vI (nI l)), some (vI 1)], [], M) (fun r M' => r = some (vI (nI (nxi (m + 1) l))) ∧ M' = mI M 20 0 24 (nI (nxi (m + 1) l))) := by
    intro m
    induction m with
    | zero =>
      intro l hl hb hf
      refine step l hl _ ?_
      rw [show tk M (nI (nx l)) = false from hf]
      show Rn _ _ (7, [_, _, some (vI 0)], [], _) _
      refine rn_iload_n (pc' := 8) rfl rfl rfl ?_
      refine rn_if_eq (t := 35) (pc' := 11) rfl rfl rfl (fun h1 => ?_) (fun h1 => ?_)
      · refine rn_aload_n (pc' := 36) rfl rfl rfl ?_
        refine rn_iload_n (pc' := 37) rfl rfl rfl ?_
        refine rn_putI (N := 1) (pc' := 40) rfl rfl rfl rfl rfl (by first | assumption | decide | omega) ?_
        refine rn_iload_n (pc' := 41) rfl rfl rfl ?_
        refine rn_ireturn rfl rfl ?_
        exact ⟨rfl, rfl⟩
      · exact absurd rfl h1
    | succ m ih =>
      intro l hl hb hf
      refine step l hl _ ?_
      rw [show tk M (nI (nx l)) = true from hb 0 (Nat.succ_pos m)]
      exact ih (nx l) nx_le.1 (fun i hi => hb (i + 1) (by omega)) hf
  show Rn _ 75 (0, [some (vR 20 0), none, none], [], _) _
  refine rn_aload_n (pc' := 1) rfl rfl rfl ?_
  refine rn_getI (N := 1) (pc' := 4) rfl rfl rfl rfl (by decide) rfl (by first | assumption | decide | omega) ?_
  refine rn_topI hl ?_
  refine rn_istore_n (pc' := 5) rfl rfl rfl (Nat.le_of_ble_eq_true rfl) rfl ?_
  refine rn_iconst (pc' := 6) (v := 1) rfl rfl (by decide) ?_
  refine rn_istore_n (pc' := 7) rfl rfl rfl (Nat.le_of_ble_eq_true rfl) rfl ?_
  exact loop m l hl2 hb hf
/-! sending -/
def f_send (M : xM) (e : Nat) (s : Int32) : xM := mI (mI (mI (mI M 45 0 (M.1 20 0 29).toNatClampNeg (rpid M e)) 46 0 (M.1 20 0 29).toNatClampNeg s) 20 0 29 (M.1 20 0 29 + 1)) 20 0 37 (M.1 20 0 37 + 1)
theorem r_send {d e n : Nat} (M : xM) (s : Int32) (he : e < 24) (hn : M.1 20 0 29 = nI n) (h4 : n < 4000) : Rn d 77 (0, xen 77 [vR 20 0, vI (nI e), vI s], [], M) (fun r M' => r = none ∧ M' = f_send M e s) := by
  have hc : (M.1 20 0 29).toNatClampNeg = n := by rw [hn]; exact nI_clamp (by omega)
  show Rn _ 77 (0, [some (vR 20 0), some (vI (nI e)), some (vI s)], [], _) _
  refine rn_aload_n (pc' := 1) rfl rfl rfl ?_
  refine rn_getF (N := 1) (t' := 45) (pc' := 4) rfl rfl rfl rfl rfl (by first | assumption | decide | omega) ?_
  refine rn_aload_n (pc' := 5) rfl rfl rfl ?_
  refine rn_getI (N := 1) (pc' := 8) rfl rfl rfl rfl (by decide) rfl (by first | assumption | decide | omega) ?_
  refine rn_aload_n (pc' := 9) rfl rfl rfl ?_
  refine rn_getF (N := 1) (t' := 25) (pc' := 12) rfl rfl rfl rfl rfl (by first | assumption | decide | omega) ?_
  refine rn_iload_n (pc' := 13) rfl rfl rfl ?_
  refine rn_iald (N := 1) (K := 24) (pc' := 14) rfl rfl ⟨rfl, rfl⟩ rfl (by first | assumption | decide | omega) rfl (by decide) rfl (by first | assumption | decide | omega) ?_
  refine rn_iast (k := n) (N := 1) (K := 4000) (pc' := 15) rfl rfl ⟨rfl, rfl⟩ rfl (by first | assumption | decide | omega) rfl (by decide) (hn) (by first | assumption | decide | omega) ?_
  refine rn_aload_n (pc' := 16) rfl rfl rfl ?_
  refine rn_getF (N := 1) (t' := 46) (pc' := 19) rfl rfl rfl rfl rfl (by first | assumption | decide | omega) ?_
  refine rn_aload_n (pc' := 20) rfl rfl rfl ?_
  refine rn_getI (N := 1) (pc' := 23) rfl rfl rfl rfl (by decide) rfl (by first | assumption | decide | omega) ?_
  refine rn_iload_n (pc' := 24) rfl rfl rfl ?_
  refine rn_iast (k := n) (N := 1) (K := 4000) (pc' := 25) rfl rfl ⟨rfl, rfl⟩ rfl (by first | assumption | decide | omega) rfl (by decide) (hn) (by first | assumption | decide | omega) ?_
  refine rn_aload_n (pc' := 26) rfl rfl rfl ?_
  refine rn_dupA (pc' := 27) rfl rfl ?_
  refine rn_getI (N := 1) (pc' := 30) rfl rfl rfl rfl (by decide) rfl (by first | assumption | decide | omega) ?_
  refine rn_iconst (pc' := 31) (v := 1) rfl rfl (by decide) ?_
  refine rn_iadd (pc' := 32) rfl rfl ?_
  refine rn_putI (N := 1) (pc' := 35) rfl rfl rfl rfl rfl (by first | assumption | decide | omega) ?_
  refine rn_aload_n (pc' := 36) rfl rfl rfl ?_
  refine rn_dupA (pc' := 37) rfl rfl ?_
  refine rn_getI (N := 1) (pc' := 40) rfl rfl rfl rfl (by decide) rfl (by first | assumption | decide | omega) ?_
  refine rn_iconst (pc' := 41) (v := 1) rfl rfl (by decide) ?_
  refine rn_iadd (pc' := 42) rfl rfl ?_
  refine rn_putI (N := 1) (pc' := 45) rfl rfl rfl rfl rfl (by first | assumption | decide | omega) ?_
  refine rn_return rfl rfl ?_
  exact ⟨rfl, by unfold f_send; rw [hc]; rfl⟩
def f_sendTo (M : xM) (p s : Int32) : xM := match eo M p with
  | none => M
  | some e => f_send M e s
theorem r_sendTo {d n : Nat} (M : xM) (p s : Int32) (hn : M.1 20 0 29 = nI n) (h4 : n < 4000) : Rn (d + 1) 78 (0, xen 78 [vR 20 0, vI p, vI s], [], M) (fun r M' => r = none ∧ M' = f_sendTo M p s) := by
  have ho := oI_neg (o := eo M p) (fun e h => eo_lt h)
  show Rn _ 78 (0, [some (vR 20 0), some (vI p), some (vI s), none], [], _) _
  cases h : eo M p with
  | none =>
    refine rn_aload_n (pc' := 1) rfl rfl rfl ?_
    refine rn_iload_n (pc' := 2) rfl rfl rfl ?_
    refine rn_callV (pc' := 5) (as := [_]) rfl rfl rfl ⟨Nat.le_of_ble_eq_true rfl, rfl, rfl⟩ rfl (by first | assumption | decide | omega) (Nat.le_of_ble_eq_true rfl) (Nat.le_of_ble_eq_true rfl) rfl (r_entryOf M p) (fun r1 M1 hz => ?_)
    obtain ⟨rfl, hm_⟩ := hz
    refine rn_mem hm_ ?_
    clear hm_
    refine rn_istore_n (pc' := 6) rfl rfl rfl (Nat.le_of_ble_eq_true rfl) rfl ?_
    refine rn_iload_n (pc' := 7) rfl rfl rfl ?_
    refine rn_if_lt (t := 16) (pc' := 10) rfl rfl rfl (fun h2 => ?_) (fun h2 => ?_)
    · refine rn_return rfl rfl ?_
      exact ⟨rfl, by unfold f_sendTo; rw [h]⟩
    · exact absurd (ho.mpr h) h2
  | some e =>
    have he := eo_lt h
    refine rn_aload_n (pc' := 1) rfl rfl rfl ?_
    refine rn_iload_n (pc' := 2) rfl rfl rfl ?_
    refine rn_callV (pc' := 5) (as := [_]) rfl rfl rfl ⟨Nat.le_of_ble_eq_true rfl, rfl, rfl⟩ rfl (by first | assumption | decide | omega) (Nat.le_of_ble_eq_true rfl) (Nat.le_of_ble_eq_true rfl) rfl (r_entryOf M p) (fun r1 M1 hz => ?_)
    obtain ⟨rfl, hm_⟩ := hz
    refine rn_mem hm_ ?_
    clear hm_
    refine rn_topI (show oI (eo M p) = nI e by rw [h]; rfl) ?_
    refine rn_istore_n (pc' := 6) rfl rfl rfl (Nat.le_of_ble_eq_true rfl) rfl ?_
    refine rn_iload_n (pc' := 7) rfl rfl rfl ?_
    refine rn_if_lt (t := 16) (pc' := 10) rfl rfl rfl (fun h2 => ?_) (fun h2 => ?_)
    · refine rn_return rfl rfl ?_
      first | exact absurd h2 (nI_pos (by omega)) | exact ⟨rfl, by unfold f_sendTo; rw [h]⟩
    · refine rn_aload_n (pc' := 11) rfl rfl rfl ?_
      refine rn_iload_n (pc' := 12) rfl rfl rfl ?_
      refine rn_iload_n (pc' := 13) rfl rfl rfl ?_
      refine rn_callV (pc' := 16) (as := [_, _]) rfl rfl rfl ⟨Nat.le_of_ble_eq_true rfl, rfl, rfl⟩ rfl (by first | assumption | decide | omega) (Nat.le_of_ble_eq_true rfl) (Nat.le_of_ble_eq_true rfl) rfl (r_send M s he hn h4) (fun r3 M3 hz => ?_)
      obtain ⟨rfl, hm_⟩ := hz
      refine rn_mem hm_ ?_
      clear hm_
      refine rn_return rfl rfl ?_
      first | exact absurd h2 (nI_pos (by omega)) | exact ⟨rfl, by unfold f_sendTo; rw [h]⟩
def f_wake (M : xM) (p : Int32) : xM := match eo M p with
  | none => M
  | some e => if rste M e = 1 then mI M 28 0 e 0 else M
theorem r_wake {d : Nat} (M : xM) (p : Int32) : Rn (d + 1) 82 (0, xen 82 [vR 20 0, vI p], [], M) (fun r M' => r = none ∧ M' = f_wake M p) := by
  have ho := oI_neg (o := eo M p) (fun e h => eo_lt h)
  show Rn _ 82 (0, [some (vR 20 0), some (vI p), none], [], _) _
  cases h : eo M p with
  | none =>
    refine rn_aload_n (pc' := 1) rfl rfl rfl ?_
    refine rn_iload_n (pc' := 2) rfl rfl rfl ?_
    refine rn_callV (pc' := 5) (as := [_]) rfl rfl rfl ⟨Nat.le_of_ble_eq_true rfl, rfl, rfl⟩ rfl (by first | assumption | decide | omega) (Nat.le_of_ble_eq_true rfl) (Nat.le_of_ble_eq_true rfl) rfl (r_entryOf M p) (fun r1 M1 hz => ?_)
    obtain ⟨rfl, hm_⟩ := hz
    refine rn_mem hm_ ?_
    clear hm_
    refine rn_istore_n (pc' := 6) rfl rfl rfl (Nat.le_of_ble_eq_true rfl) rfl ?_
    refine rn_iload_n (pc' := 7) rfl rfl rfl ?_
    refine rn_if_lt (t := 27) (pc' := 10) rfl rfl rfl (fun h2 => ?_) (fun h2 => ?_)
    · refine rn_return rfl rfl ?_
      exact ⟨rfl, by unfold f_wake; rw [h]⟩
    · exact absurd (ho.mpr h) h2
  | some e =>
    have he := eo_lt h
    refine rn_aload_n (pc' := 1) rfl rfl rfl ?_
    refine rn_iload_n (pc' := 2) rfl rfl rfl ?_
    refine rn_callV (pc' := 5) (as := [_]) rfl rfl rfl ⟨Nat.le_of_ble_eq_true rfl, rfl, rfl⟩ rfl (by first | assumption | decide | omega) (Nat.le_of_ble_eq_true rfl) (Nat.le_of_ble_eq_true rfl) rfl (r_entryOf M p) (fun r1 M1 hz => ?_)
    obtain ⟨rfl, hm_⟩ := hz
    refine rn_mem hm_ ?_
    clear hm_
    refine rn_topI (show oI (eo M p) = nI e by rw [h]; rfl) ?_
    refine rn_istore_n (pc' := 6) rfl rfl rfl (Nat.le_of_ble_eq_true rfl) rfl ?_
    refine rn_iload_n (pc' := 7) rfl rfl rfl ?_
    refine rn_if_lt (t := 27) (pc' := 10) rfl rfl rfl (fun h2 => ?_) (fun h2 => ?_)
    · refine rn_return rfl rfl ?_
      first | exact absurd h2 (nI_pos (by omega)) | exact ⟨rfl, by unfold f_wake; rw [h]; simp only [rste, *, if_true, if_false]⟩
    · refine rn_aload_n (pc' := 11) rfl rfl rfl ?_
      refine rn_getF (N := 1) (t' := 28) (pc' := 14) rfl rfl rfl rfl rfl (by first | assumption | decide | omega) ?_
      refine rn_iload_n (pc' := 15) rfl rfl rfl ?_
      refine rn_iald (N := 1) (K := 24) (pc' := 16) rfl rfl ⟨rfl, rfl⟩ rfl (by first | assumption | decide | omega) rfl (by decide) rfl (by first | assumption | decide | omega) ?_
      refine rn_iconst (pc' := 17) (v := 1) rfl rfl (by decide) ?_
      refine rn_ic_ne (t := 27) (pc' := 20) rfl rfl rfl (fun h3 => ?_) (fun h3 => ?_)
      · refine rn_return rfl rfl ?_
        first | exact absurd h2 (nI_pos (by omega)) | exact ⟨rfl, by unfold f_wake; rw [h]; simp only [rste, *, if_true, if_false]⟩
      · refine rn_aload_n (pc' := 21) rfl rfl rfl ?_
        refine rn_getF (N := 1) (t' := 28) (pc' := 24) rfl rfl rfl rfl rfl (by first | assumption | decide | omega) ?_
        refine rn_iload_n (pc' := 25) rfl rfl rfl ?_
        refine rn_iconst (pc' := 26) (v := 0) rfl rfl (by decide) ?_
        refine rn_iast (N := 1) (K := 24) (pc' := 27) rfl rfl ⟨rfl, rfl⟩ rfl (by first | assumption | decide | omega) rfl (by decide) rfl (by first | assumption | decide | omega) ?_
        refine rn_return rfl rfl ?_
        first | exact absurd h2 (nI_pos (by omega)) | exact ⟨rfl, by unfold f_wake; rw [h]; simp only [rste, *, if_true, if_false]⟩
/-! orphaned groups -/
def oMem (M : xM) (g : Int32) (k : Nat) : Bool := decide (0 < rpid M k) && (decide (rgrp M k = g) && !decide (rste M k = 4))
def oOk (M : xM) (g : Int32) (k : Nat) : Bool := decide (rpar M k = 1) || (match eo M (rpar M k) with
  | none => false
  | some e => decide (rgrp M e = g))
def oAny (M : xM) (g : Int32) : Nat → Bool
  | 0 => false
  | k + 1 => oAny M g k || oMem M g k
def oAll (M : xM) (g : Int32) : Nat → Bool
  | 0 => true
  | k + 1 => oAll M g k && (!oMem M g k || oOk M g k)
def orph (M : xM) (g : Int32) : Bool := oAny M g 24 && oAll M g 24
theorem bI_0 (b : Bool) : bI b = 0 ↔ b = false := by cases b <;> simp [bI]
theorem r_isOrphaned {d : Nat} (M : xM) (g : Int32) : Rn (d + 1) 83 (0, xen 83 [vR 20 0, vI g], [], M) (fun r M' => r = some (vI (bI (orph M g))) ∧ M' = M) := by
  have loop : ∀ (m i : Nat) (x5 : Option xV), i + m = 24 → Rn (d + 1) 83 (7, [some (vR 20 0), some (vI g), some (vI (bI (oAny M g i))), some (vI (bI (oAll M g i))), some (vI (nI i)), x5], [], M) (fun r M' => r = some (vI (bI (orph M g))) ∧ M' = M) := by
    intro m
    induction m with
    | zero =>
      intro i x5 hi
      obtain rfl : i = 24 := by omega
      refine rn_iload (pc' := 9) rfl rfl rfl ?_
      refine rn_bipush (pc' := 11) (v := 24) rfl rfl (by decide) ?_
      refine rn_ic_ge (t := 104) (pc' := 14) rfl rfl rfl (fun h1 => ?_) (fun h1 => ?_)
      · refine rn_iload_n (pc' := 105) rfl rfl rfl ?_
        refine rn_if_eq (t := 116) (pc' := 108) rfl rfl rfl (fun h2 => ?_) (fun h2 => ?_)
        · refine rn_iconst (pc' := 117) (v := 0) rfl rfl (by decide) ?_
          refine rn_zreturn rfl rfl (by decide) ?_
          refine ⟨?_, rfl⟩
          simp only [bI_0, Bool.not_eq_false] at *
          simp [orph, bI, *]
        · refine rn_iload_n (pc' := 109) rfl rfl rfl ?_
          refine rn_if_eq (t := 116) (pc' := 112) rfl rfl rfl (fun h3 => ?_) (fun h3 => ?_)
          · refine rn_iconst (pc' := 117) (v := 0) rfl rfl (by decide) ?_
            refine rn_zreturn rfl rfl (by decide) ?_
            refine ⟨?_, rfl⟩
            simp only [bI_0, Bool.not_eq_false] at *
            simp [orph, bI, *]
          · refine rn_iconst (pc' := 113) (v := 1) rfl rfl (by decide) ?_
            refine rn_goto (pc' := 117) rfl rfl ?_
            refine rn_zreturn rfl rfl (by decide) ?_
            refine ⟨?_, rfl⟩
            simp only [bI_0, Bool.not_eq_false] at *
            simp [orph, bI, *]
      · exact absurd ((lt24 (by omega)).mp h1) (by omega)
    | succ m ih =>
      intro i x5 hi
      have he : i < 24 := by omega
      have skip_ : oMem M g i = false → Rn (d + 1) 83 (98, [some (vR 20 0), some (vI g), some (vI (bI (oAny M g i))), some (vI (bI (oAll M g i))), some (vI (nI i)), x5], [], M) (fun r M' => r = some (vI (bI (orph M g))) ∧ M' = M) := by
        intro hm
        have := ih (i + 1) x5 (by omega)
        simp only [oAny, oAll, hm, Bool.or_false, Bool.not_false, Bool.true_or, Bool.and_true] at this
        refine rn_iinc (pc' := 101) rfl rfl rfl (nI_inc _) rfl (Nat.le_of_ble_eq_true rfl) rfl ?_
        refine rn_goto (pc' := 7) rfl rfl ?_
        exact this
      have key : oMem M g i = true → ∀ x, x = bI (oAll M g i && oOk M g i) → Rn (d + 1) 83 (97, [some (vR 20 0), some (vI g), some (vI 1), some (vI (bI (oAll M g i))), some (vI (nI i)), some (vI (oI (eo M (rpar M i))))], [vI x], M) (fun r M' => r = some (vI (bI (orph M g))) ∧ M' = M) := by
        intro hm x hx
        subst hx
        have := ih (i + 1) (some (vI (oI (eo M (rpar M i))))) (by omega)
        simp only [oAny, oAll, hm, Bool.or_true, Bool.not_true, Bool.false_or] at this
        refine rn_istore_n (pc' := 98) rfl rfl rfl (Nat.le_of_ble_eq_true rfl) rfl ?_
        refine rn_iinc (pc' := 101) rfl rfl rfl (nI_inc _) rfl (Nat.le_of_ble_eq_true rfl) rfl ?_
        refine rn_goto (pc' := 7) rfl rfl ?_
        exact this
      have mid : oMem M g i = true → Rn (d + 1) 83 (46, [some (vR 20 0), some (vI g), some (vI (bI (oAny M g i))), some (vI (bI (oAll M g i))), some (vI (nI i)), x5], [], M) (fun r M' => r = some (vI (bI (orph M g))) ∧ M' = M) := by
        intro hm
        have ho := oI_neg (o := eo M (rpar M i)) (fun e h => eo_lt h)
        cases h : eo M (rpar M i) with
        | none =>
          refine rn_iconst (pc' := 47) (v := 1) rfl rfl (by decide) ?_
          refine rn_istore_n (pc' := 48) rfl rfl rfl (Nat.le_of_ble_eq_true rfl) rfl ?_
          refine rn_aload_n (pc' := 49) rfl rfl rfl ?_
          refine rn_aload_n (pc' := 50) rfl rfl rfl ?_
          refine rn_getF (N := 1) (t' := 26) (pc' := 53) rfl rfl rfl rfl rfl (by first | assumption | decide | omega) ?_
          refine rn_iload (pc' := 55) rfl rfl rfl ?_
          refine rn_iald (N := 1) (K := 24) (pc' := 56) rfl rfl ⟨rfl, rfl⟩ rfl (by first | assumption | decide | omega) rfl (by decide) rfl (by first | assumption | decide | omega) ?_
          refine rn_callV (pc' := 59) (as := [_]) rfl rfl rfl ⟨Nat.le_of_ble_eq_true rfl, rfl, rfl⟩ rfl (by first | assumption | decide | omega) (Nat.le_of_ble_eq_true rfl) (Nat.le_of_ble_eq_true rfl) rfl (r_entryOf M (rpar M i)) (fun r1 M1 hz => ?_)
          obtain ⟨rfl, hm_⟩ := hz
          refine rn_mem hm_ ?_
          clear hm_
          refine rn_istore (pc' := 61) rfl rfl rfl (Nat.le_of_ble_eq_true rfl) rfl ?_
          refine rn_iload_n (pc' := 62) rfl rfl rfl ?_
          refine rn_if_eq (t := 96) (pc' := 65) rfl rfl rfl (fun h2 => ?_) (fun h2 => ?_)
          · refine rn_iconst (pc' := 97) (v := 0) rfl rfl (by decide) ?_
            refine key hm _ ?_
            simp only [bI_0, Bool.not_eq_false] at *
            simp [oOk, rpar, bI, *]
          · refine rn_aload_n (pc' := 66) rfl rfl rfl ?_
            refine rn_getF (N := 1) (t' := 26) (pc' := 69) rfl rfl rfl rfl rfl (by first | assumption | decide | omega) ?_
            refine rn_iload (pc' := 71) rfl rfl rfl ?_
            refine rn_iald (N := 1) (K := 24) (pc' := 72) rfl rfl ⟨rfl, rfl⟩ rfl (by first | assumption | decide | omega) rfl (by decide) rfl (by first | assumption | decide | omega) ?_
            refine rn_iconst (pc' := 73) (v := 1) rfl rfl (by decide) ?_
            refine rn_ic_eq (t := 92) (pc' := 76) rfl rfl rfl (fun h3 => ?_) (fun h3 => ?_)
            · refine rn_iconst (pc' := 93) (v := 1) rfl rfl (by decide) ?_
              refine rn_goto (pc' := 97) rfl rfl ?_
              refine key hm _ ?_
              simp only [bI_0, Bool.not_eq_false] at *
              simp [oOk, rpar, bI, *]
            · refine rn_iload (pc' := 78) rfl rfl rfl ?_
              refine rn_if_lt (t := 96) (pc' := 81) rfl rfl rfl (fun h4 => ?_) (fun h4 => ?_)
              · refine rn_iconst (pc' := 97) (v := 0) rfl rfl (by decide) ?_
                refine key hm _ ?_
                simp only [bI_0, Bool.not_eq_false] at *
                simp [oOk, rpar, bI, *]
              · exact absurd (ho.mpr h) ‹_›
        | some e =>
          have hee := eo_lt h
          refine rn_iconst (pc' := 47) (v := 1) rfl rfl (by decide) ?_
          refine rn_istore_n (pc' := 48) rfl rfl rfl (Nat.le_of_ble_eq_true rfl) rfl ?_
          refine rn_aload_n (pc' := 49) rfl rfl rfl ?_
          refine rn_aload_n (pc' := 50) rfl rfl rfl ?_
          refine rn_getF (N := 1) (t' := 26) (pc' := 53) rfl rfl rfl rfl rfl (by first | assumption | decide | omega) ?_
          refine rn_iload (pc' := 55) rfl rfl rfl ?_
          refine rn_iald (N := 1) (K := 24) (pc' := 56) rfl rfl ⟨rfl, rfl⟩ rfl (by first | assumption | decide | omega) rfl (by decide) rfl (by first | assumption | decide | omega) ?_
          refine rn_callV (pc' := 59) (as := [_]) rfl rfl rfl ⟨Nat.le_of_ble_eq_true rfl, rfl, rfl⟩ rfl (by first | assumption | decide | omega) (Nat.le_of_ble_eq_true rfl) (Nat.le_of_ble_eq_true rfl) rfl (r_entryOf M (rpar M i)) (fun r1 M1 hz => ?_)
          obtain ⟨rfl, hm_⟩ := hz
          refine rn_mem hm_ ?_
          clear hm_
          refine rn_istore (pc' := 61) rfl rfl rfl (Nat.le_of_ble_eq_true rfl) rfl ?_
          refine rn_iload_n (pc' := 62) rfl rfl rfl ?_
          refine rn_if_eq (t := 96) (pc' := 65) rfl rfl rfl (fun h2 => ?_) (fun h2 => ?_)
          · refine rn_iconst (pc' := 97) (v := 0) rfl rfl (by decide) ?_
            first | exact absurd (ho.mp h4) (by simp [h]) | (refine key hm _ ?_; simp only [bI_0, Bool.not_eq_false] at *; simp [oOk, rpar, bI, *])
          · refine rn_aload_n (pc' := 66) rfl rfl rfl ?_
            refine rn_getF (N := 1) (t' := 26) (pc' := 69) rfl rfl rfl rfl rfl (by first | assumption | decide | omega) ?_
            refine rn_iload (pc' := 71) rfl rfl rfl ?_
            refine rn_iald (N := 1) (K := 24) (pc' := 72) rfl rfl ⟨rfl, rfl⟩ rfl (by first | assumption | decide | omega) rfl (by decide) rfl (by first | assumption | decide | omega) ?_
            refine rn_iconst (pc' := 73) (v := 1) rfl rfl (by decide) ?_
            refine rn_ic_eq (t := 92) (pc' := 76) rfl rfl rfl (fun h3 => ?_) (fun h3 => ?_)
            · refine rn_iconst (pc' := 93) (v := 1) rfl rfl (by decide) ?_
              refine rn_goto (pc' := 97) rfl rfl ?_
              first | exact absurd (ho.mp h4) (by simp [h]) | (refine key hm _ ?_; simp only [bI_0, Bool.not_eq_false] at *; simp [oOk, rpar, bI, *])
            · refine rn_iload (pc' := 78) rfl rfl rfl ?_
              refine rn_if_lt (t := 96) (pc' := 81) rfl rfl rfl (fun h4 => ?_) (fun h4 => ?_)
              · refine rn_iconst (pc' := 97) (v := 0) rfl rfl (by decide) ?_
                first | exact absurd (ho.mp h4) (by simp [h]) | (refine key hm _ ?_; simp only [bI_0, Bool.not_eq_false] at *; simp [oOk, rpar, bI, *])
              · refine rn_aload_n (pc' := 82) rfl rfl rfl ?_
                refine rn_getF (N := 1) (t' := 27) (pc' := 85) rfl rfl rfl rfl rfl (by first | assumption | decide | omega) ?_
                refine rn_iload (pc' := 87) rfl rfl rfl ?_
                refine rn_iald (k := e) (N := 1) (K := 24) (pc' := 88) rfl rfl ⟨rfl, rfl⟩ rfl (by first | assumption | decide | omega) rfl (by decide) (show oI (eo M (rpar M i)) = nI e by rw [h]; rfl) (by first | assumption | decide | omega) ?_
                refine rn_iload_n (pc' := 89) rfl rfl rfl ?_
                refine rn_ic_ne (t := 96) (pc' := 92) rfl rfl rfl (fun h5 => ?_) (fun h5 => ?_)
                · refine rn_iconst (pc' := 97) (v := 0) rfl rfl (by decide) ?_
                  first | exact absurd (ho.mp h4) (by simp [h]) | (refine key hm _ ?_; simp only [bI_0, Bool.not_eq_false] at *; simp [oOk, rpar, bI, *])
                · refine rn_iconst (pc' := 93) (v := 1) rfl rfl (by decide) ?_
                  refine rn_goto (pc' := 97) rfl rfl ?_
                  first | exact absurd (ho.mp h4) (by simp [h]) | (refine key hm _ ?_; simp only [bI_0, Bool.not_eq_false] at *; simp [oOk, rpar, bI, *])
      refine rn_iload (pc' := 9) rfl rfl rfl ?_
      refine rn_bipush (pc' := 11) (v := 24) rfl rfl (by decide) ?_
      refine rn_ic_ge (t := 104) (pc' := 14) rfl rfl rfl (fun h1 => ?_) (fun h1 => ?_)
      · exact absurd ((lt24 (by omega)).mpr he) h1
      · refine rn_aload_n (pc' := 15) rfl rfl rfl ?_
        refine rn_getF (N := 1) (t' := 25) (pc' := 18) rfl rfl rfl rfl rfl (by first | assumption | decide | omega) ?_
        refine rn_iload (pc' := 20) rfl rfl rfl ?_
        refine rn_iald (N := 1) (K := 24) (pc' := 21) rfl rfl ⟨rfl, rfl⟩ rfl (by first | assumption | decide | omega) rfl (by decide) rfl (by first | assumption | decide | omega) ?_
        refine rn_if_le (t := 98) (pc' := 24) rfl rfl rfl (fun h2 => ?_) (fun h2 => ?_)
        · refine skip_ ?_
          simp [oMem, rpid, rgrp, rste, *]
        · refine rn_aload_n (pc' := 25) rfl rfl rfl ?_
          refine rn_getF (N := 1) (t' := 27) (pc' := 28) rfl rfl rfl rfl rfl (by first | assumption | decide | omega) ?_
          refine rn_iload (pc' := 30) rfl rfl rfl ?_
          refine rn_iald (N := 1) (K := 24) (pc' := 31) rfl rfl ⟨rfl, rfl⟩ rfl (by first | assumption | decide | omega) rfl (by decide) rfl (by first | assumption | decide | omega) ?_
          refine rn_iload_n (pc' := 32) rfl rfl rfl ?_
          refine rn_ic_ne (t := 98) (pc' := 35) rfl rfl rfl (fun h3 => ?_) (fun h3 => ?_)
          · refine skip_ ?_
            simp [oMem, rpid, rgrp, rste, *]
          · refine rn_aload_n (pc' := 36) rfl rfl rfl ?_
            refine rn_getF (N := 1) (t' := 28) (pc' := 39) rfl rfl rfl rfl rfl (by first | assumption | decide | omega) ?_
            refine rn_iload (pc' := 41) rfl rfl rfl ?_
            refine rn_iald (N := 1) (K := 24) (pc' := 42) rfl rfl ⟨rfl, rfl⟩ rfl (by first | assumption | decide | omega) rfl (by decide) rfl (by first | assumption | decide | omega) ?_
            refine rn_iconst (pc' := 43) (v := 4) rfl rfl (by decide) ?_
            refine rn_ic_eq (t := 98) (pc' := 46) rfl rfl rfl (fun h4 => ?_) (fun h4 => ?_)
            · refine skip_ ?_
              simp [oMem, rpid, rgrp, rste, *]
            · refine mid ?_
              simp [oMem, rpid, rgrp, rste, *]
  show Rn _ 83 (0, [some (vR 20 0), some (vI g), none, none, none, none], [], _) _
  refine rn_iconst (pc' := 1) (v := 0) rfl rfl (by decide) ?_
  refine rn_istore_n (pc' := 2) rfl rfl rfl (Nat.le_of_ble_eq_true rfl) rfl ?_
  refine rn_iconst (pc' := 3) (v := 1) rfl rfl (by decide) ?_
  refine rn_istore_n (pc' := 4) rfl rfl rfl (Nat.le_of_ble_eq_true rfl) rfl ?_
  refine rn_iconst (pc' := 5) (v := 0) rfl rfl (by decide) ?_
  refine rn_istore (pc' := 7) rfl rfl rfl (Nat.le_of_ble_eq_true rfl) rfl ?_
  exact loop 24 0 none (by omega)
end
section
/-! THE REFERENCE: telling orphans, panic, the end of a process -/
theorem xM_ext {M N : xM} (h1 : ∀ t e k, M.1 t e k = N.1 t e k) (h2 : M.2 = N.2) : M = N := Prod.ext (funext fun t => funext fun e => funext fun k => h1 t e k) h2
def mRow (M : xM) (t e : Nat) (f : Nat → Int32) : xM := (fun a b k => if a = t ∧ b = e then f k else M.1 a b k, M.2)
theorem mRow_put (M : xM) (t e k : Nat) (f : Nat → Int32) (v : Int32) : mI (mRow M t e f) t e k v = mRow M t e (upd f k v) := by
  refine xM_ext (fun a b c => ?_) rfl
  simp only [mI, xu, mRow, upd]
  by_cases h : a = t ∧ b = e
  · obtain ⟨rfl, rfl⟩ := h
    simp
  · rw [if_neg (fun q => h ⟨q.1, q.2.1⟩), if_neg h, if_neg h]
theorem mRow_id (M : xM) (t e : Nat) : mRow M t e (M.1 t e) = M := by
  refine xM_ext (fun a b c => ?_) rfl
  simp only [mRow]
  by_cases h : a = t ∧ b = e
  · obtain ⟨rfl, rfl⟩ := h; simp
  · rw [if_neg h]
theorem eoF_congr {M N : xM} (h : ∀ e, rpid M e = rpid N e) (p : Int32) : ∀ k, eoF M p k = eoF N p k := by
  intro k
  induction k with
  | zero => rfl
  | succ k ih => unfold eoF; rw [h k, ih]
theorem eo_congr {M N : xM} (h : ∀ e, rpid M e = rpid N e) (p : Int32) : eo M p = eo N p := eoF_congr h p 24
theorem orph_congr {M N : xM} (h1 : ∀ e, rpid M e = rpid N e) (h2 : ∀ e, rpar M e = rpar N e) (h3 : ∀ e, rgrp M e = rgrp N e) (h4 : ∀ e, rste M e = rste N e) (g : Int32) : orph M g = orph N g := by
  have e1 : ∀ k, oMem M g k = oMem N g k := fun k => by unfold oMem; rw [h1 k, h3 k, h4 k]
  have e2 : ∀ k, oOk M g k = oOk N g k := fun k => by
    unfold oOk
    rw [h2 k, eo_congr h1]
    cases eo N (rpar N k) with
    | none => rfl
    | some e => simp only [h3 e]
  have e3 : ∀ k, oAny M g k = oAny N g k := fun k => by
    induction k with
    | zero => rfl
    | succ k ih => unfold oAny; rw [ih, e1]
  have e4 : ∀ k, oAll M g k = oAll N g k := fun k => by
    induction k with
    | zero => rfl
    | succ k ih => unfold oAll; rw [ih, e1, e2]
  unfold orph
  rw [e3, e4]
/-- how long the row is -/
def rok (M : xM) (n : Nat) : Prop := M.1 20 0 29 = nI n
theorem rok_send {M : xM} {n : Nat} (h : rok M n) (e : Nat) (s : Int32) : rok (f_send M e s) (n + 1) := by
  show M.1 20 0 29 + 1 = nI (n + 1)
  rw [show M.1 20 0 29 = nI n from h]
  exact nI_1 n
def saF (g s : Int32) : Nat → Nat → xM → xM
  | 0, _, M => M
  | m + 1, i, M => saF g s m (i + 1) (if 0 < rpid M i ∧ rgrp M i = g then f_send M i s else M)
def f_sendAll (M : xM) (g s : Int32) : xM := saF g s 24 0 M
theorem saF_rok (g s : Int32) : ∀ (m i n : Nat) (M : xM), rok M n → ∃ n', n ≤ n' ∧ n' ≤ n + m ∧ rok (saF g s m i M) n' := by
  intro m
  induction m with
  | zero => intro i n M h; exact ⟨n, Nat.le_refl _, by omega, h⟩
  | succ m ih =>
    intro i n M h
    unfold saF
    split
    · obtain ⟨n', h1, h2, h3⟩ := ih (i + 1) (n + 1) _ (rok_send h i s)
      exact ⟨n', by omega, by omega, h3⟩
    · obtain ⟨n', h1, h2, h3⟩ := ih (i + 1) n _ h
      exact ⟨n', by omega, by omega, h3⟩
theorem rok_inj {M : xM} {n n' : Nat} (h : rok M n) (h' : rok M n') (hn : n < 2 ^ 31) (hn' : n' < 2 ^ 31) : n = n' := (nI_eq hn hn').mp (h.symm.trans h')
def stpF (M : xM) (g : Int32) : Nat → Bool
  | 0 => false
  | k + 1 => stpF M g k || (decide (0 < rpid M k) && (decide (rgrp M k = g) && decide (rste M k = 3)))
def f_tell (M : xM) (g : Int32) : xM := if stpF M g 24 = true then f_sendAll (f_sendAll M g 1) g 18 else M
theorem r_tellOrphans {d n : Nat} (M : xM) (g : Int32) (hn : rok M n) (hn4 : n ≤ 4000) (h4 : ∃ n', rok (f_tell M g) n' ∧ n' ≤ 4000) : Rn (d + 1) 85 (0, xen 85 [vR 20 0, vI g], [], M) (fun r M' => r = none ∧ M' = f_tell M g) := by
  have inner : ∀ (s : Int32) (b : Bool) (Z : Option xV → xM → Prop) (m i n n' : Nat) (N : xM), i + m = 24 → rok N n → rok (saF g s m i N) n' → n ≤ 4000 → n' ≤ 4000 → Rn (d + 1) 85 (111, [some (vR 20 0), some (vI g), some (vI (bI b)), some (vI s), some (vI (nI 24))], [], saF g s m i N) Z → Rn (d + 1) 85 (70, [some (vR 20 0), some (vI g), some (vI (bI b)), some (vI s), some (vI (nI i))], [], N) Z := by
    intro s b Z m
    induction m with
    | zero =>
      intro i n n' N hi hn hn' hb hb' hk
      obtain rfl : i = 24 := by omega
      refine rn_iload (pc' := 72) rfl rfl rfl ?_
      refine rn_bipush (pc' := 74) (v := 24) rfl rfl (by decide) ?_
      refine rn_ic_ge (t := 111) (pc' := 77) rfl rfl rfl (fun h1 => ?_) (fun h1 => ?_)
      · exact hk
      · exact absurd ((lt24 (by omega)).mp h1) (by omega)
    | succ m ih =>
      intro i n n' N hi hn hn' hb hb' hk
      have he : i < 24 := by omega
      unfold saF at hn' hk
      have next : ∀ N', N' = (if 0 < rpid N i ∧ rgrp N i = g then f_send N i s else N) → Rn (d + 1) 85 (105, [some (vR 20 0), some (vI g), some (vI (bI b)), some (vI s), some (vI (nI i))], [], N') Z := by
        intro N' hN'
        subst hN'
        obtain ⟨n1, hn1, hle⟩ : ∃ n1, rok (if 0 < rpid N i ∧ rgrp N i = g then f_send N i s else N) n1 ∧ n1 ≤ n + 1 := by
          split
          · exact ⟨n + 1, rok_send hn i s, Nat.le_refl _⟩
          · exact ⟨n, hn, by omega⟩
        obtain ⟨n2, q1, q2, q3⟩ := saF_rok g s m (i + 1) n1 _ hn1
        have := rok_inj q3 hn' (by omega) (by omega)
        refine rn_iinc (pc' := 108) rfl rfl rfl (nI_inc _) rfl (Nat.le_of_ble_eq_true rfl) rfl ?_
        refine rn_goto (pc' := 70) rfl rfl ?_
        exact ih (i + 1) n1 n' _ (by omega) hn1 hn' (by omega) hb' hk
      have hlt : 0 < rpid N i → rgrp N i = g → n < 4000 := fun q1 q2 => by
        rw [if_pos ⟨q1, q2⟩] at hn'
        obtain ⟨n2, q1, q2, q3⟩ := saF_rok g s m (i + 1) (n + 1) _ (rok_send hn i s)
        have := rok_inj q3 hn' (by omega) (by omega)
        omega
      refine rn_iload (pc' := 72) rfl rfl rfl ?_
      refine rn_bipush (pc' := 74) (v := 24) rfl rfl (by decide) ?_
      refine rn_ic_ge (t := 111) (pc' := 77) rfl rfl rfl (fun h1 => ?_) (fun h1 => ?_)
      · exact absurd ((lt24 (by omega)).mpr he) h1
      · refine rn_aload_n (pc' := 78) rfl rfl rfl ?_
        refine rn_getF (N := 1) (t' := 25) (pc' := 81) rfl rfl rfl rfl rfl (by first | assumption | decide | omega) ?_
        refine rn_iload (pc' := 83) rfl rfl rfl ?_
        refine rn_iald (N := 1) (K := 24) (pc' := 84) rfl rfl ⟨rfl, rfl⟩ rfl (by first | assumption | decide | omega) rfl (by decide) rfl (by first | assumption | decide | omega) ?_
        refine rn_if_le (t := 105) (pc' := 87) rfl rfl rfl (fun h2 => ?_) (fun h2 => ?_)
        · refine next _ ?_
          first | (rw [if_pos ⟨h2, h3⟩]; done) | rw [if_neg (fun q => absurd q.2 h3)] | rw [if_neg (fun q => absurd q.1 h2)]
        · refine rn_aload_n (pc' := 88) rfl rfl rfl ?_
          refine rn_getF (N := 1) (t' := 27) (pc' := 91) rfl rfl rfl rfl rfl (by first | assumption | decide | omega) ?_
          refine rn_iload (pc' := 93) rfl rfl rfl ?_
          refine rn_iald (N := 1) (K := 24) (pc' := 94) rfl rfl ⟨rfl, rfl⟩ rfl (by first | assumption | decide | omega) rfl (by decide) rfl (by first | assumption | decide | omega) ?_
          refine rn_iload_n (pc' := 95) rfl rfl rfl ?_
          refine rn_ic_ne (t := 105) (pc' := 98) rfl rfl rfl (fun h3 => ?_) (fun h3 => ?_)
          · refine next _ ?_
            first | (rw [if_pos ⟨h2, h3⟩]; done) | rw [if_neg (fun q => absurd q.2 h3)] | rw [if_neg (fun q => absurd q.1 h2)]
          · refine rn_aload_n (pc' := 99) rfl rfl rfl ?_
            refine rn_iload (pc' := 101) rfl rfl rfl ?_
            refine rn_iload_n (pc' := 102) rfl rfl rfl ?_
            refine rn_callV (pc' := 105) (as := [_, _]) rfl rfl rfl ⟨Nat.le_of_ble_eq_true rfl, rfl, rfl⟩ rfl (by first | assumption | decide | omega) (Nat.le_of_ble_eq_true rfl) (Nat.le_of_ble_eq_true rfl) rfl (r_send N s he hn (hlt h2 h3)) (fun r4 M4 hz => ?_)
            obtain ⟨rfl, hm_⟩ := hz
            refine rn_mem hm_ ?_
            clear hm_
            refine next _ ?_
            first | (rw [if_pos ⟨h2, h3⟩]; done) | rw [if_neg (fun q => absurd q.2 h3)] | rw [if_neg (fun q => absurd q.1 h2)]
  have stage2 : ∀ (x4 : Option xV), Rn (d + 1) 85 (55, [some (vR 20 0), some (vI g), some (vI (bI (stpF M g 24))), some (vI (nI 24)), x4], [], M) (fun r M' => r = none ∧ M' = f_tell M g) := by
    intro x4
    obtain ⟨n2, f1, f2⟩ := h4
    by_cases hs : stpF M g 24 = true
    · rw [hs]
      have ef : f_tell M g = f_sendAll (f_sendAll M g 1) g 18 := by unfold f_tell; rw [if_pos hs]
      rw [ef] at f1 ⊢
      obtain ⟨n1, a1, a2, a3⟩ := saF_rok g 1 24 0 n M hn
      obtain ⟨n3, b1, b2, b3⟩ := saF_rok g 18 24 0 n1 _ a3
      have := rok_inj b3 f1 (by omega) (by omega)
      have last : Rn (d + 1) 85 (111, [some (vR 20 0), some (vI g), some (vI (bI true)), some (vI 18), some (vI (nI 24))], [], saF g 18 24 0 (saF g 1 24 0 M)) (fun r M' => r = none ∧ M' = f_sendAll (f_sendAll M g 1) g 18) := by
        refine rn_iinc (pc' := 114) rfl rfl rfl (show (18 : Int32) + Int32.ofInt 17 = 35 by decide) rfl (Nat.le_of_ble_eq_true rfl) rfl ?_
        refine rn_goto (pc' := 57) rfl rfl ?_
        refine rn_iload_n (pc' := 58) rfl rfl rfl ?_
        refine rn_bipush (pc' := 60) (v := 19) rfl rfl (by decide) ?_
        refine rn_ic_ge (t := 117) (pc' := 63) rfl rfl rfl (fun h1 => ?_) (fun h1 => ?_)
        · refine rn_return rfl rfl ?_
          exact ⟨rfl, rfl⟩
        · exact absurd h1 (by decide)
      have mid : Rn (d + 1) 85 (111, [some (vR 20 0), some (vI g), some (vI (bI true)), some (vI 1), some (vI (nI 24))], [], saF g 1 24 0 M) (fun r M' => r = none ∧ M' = f_sendAll (f_sendAll M g 1) g 18) := by
        refine rn_iinc (pc' := 114) rfl rfl rfl (show (1 : Int32) + Int32.ofInt 17 = 18 by decide) rfl (Nat.le_of_ble_eq_true rfl) rfl ?_
        refine rn_goto (pc' := 57) rfl rfl ?_
        refine rn_iload_n (pc' := 58) rfl rfl rfl ?_
        refine rn_bipush (pc' := 60) (v := 19) rfl rfl (by decide) ?_
        refine rn_ic_ge (t := 117) (pc' := 63) rfl rfl rfl (fun h1 => ?_) (fun h1 => ?_)
        · first | exact absurd h2 (by decide) | exact absurd (show (18 : Int32) < 19 by decide) h1
        · refine rn_iload_n (pc' := 64) rfl rfl rfl ?_
          refine rn_if_eq (t := 117) (pc' := 67) rfl rfl rfl (fun h2 => ?_) (fun h2 => ?_)
          · first | exact absurd h2 (by decide) | exact absurd (show (18 : Int32) < 19 by decide) h1
          · refine rn_iconst (pc' := 68) (v := 0) rfl rfl (by decide) ?_
            refine rn_istore (pc' := 70) rfl rfl rfl (Nat.le_of_ble_eq_true rfl) rfl ?_
            exact inner 18 true _ 24 0 n1 n2 _ rfl a3 f1 (by omega) f2 last
      refine rn_iconst (pc' := 56) (v := 1) rfl rfl (by decide) ?_
      refine rn_istore_n (pc' := 57) rfl rfl rfl (Nat.le_of_ble_eq_true rfl) rfl ?_
      refine rn_iload_n (pc' := 58) rfl rfl rfl ?_
      refine rn_bipush (pc' := 60) (v := 19) rfl rfl (by decide) ?_
      refine rn_ic_ge (t := 117) (pc' := 63) rfl rfl rfl (fun h1 => ?_) (fun h1 => ?_)
      · first | exact absurd h2 (by decide) | exact absurd (show (1 : Int32) < 19 by decide) h1
      · refine rn_iload_n (pc' := 64) rfl rfl rfl ?_
        refine rn_if_eq (t := 117) (pc' := 67) rfl rfl rfl (fun h2 => ?_) (fun h2 => ?_)
        · first | exact absurd h2 (by decide) | exact absurd (show (1 : Int32) < 19 by decide) h1
        · refine rn_iconst (pc' := 68) (v := 0) rfl rfl (by decide) ?_
          refine rn_istore (pc' := 70) rfl rfl rfl (Nat.le_of_ble_eq_true rfl) rfl ?_
          exact inner 1 true _ 24 0 n n1 _ rfl hn a3 hn4 (by omega) mid
    · have hs' : stpF M g 24 = false := by simpa using hs
      rw [hs']
      refine rn_iconst (pc' := 56) (v := 1) rfl rfl (by decide) ?_
      refine rn_istore_n (pc' := 57) rfl rfl rfl (Nat.le_of_ble_eq_true rfl) rfl ?_
      refine rn_iload_n (pc' := 58) rfl rfl rfl ?_
      refine rn_bipush (pc' := 60) (v := 19) rfl rfl (by decide) ?_
      refine rn_ic_ge (t := 117) (pc' := 63) rfl rfl rfl (fun h1 => ?_) (fun h1 => ?_)
      · refine rn_return rfl rfl ?_
        exact ⟨rfl, by unfold f_tell; rw [if_neg hs]⟩
      · refine rn_iload_n (pc' := 64) rfl rfl rfl ?_
        refine rn_if_eq (t := 117) (pc' := 67) rfl rfl rfl (fun h2 => ?_) (fun h2 => ?_)
        · refine rn_return rfl rfl ?_
          exact ⟨rfl, by unfold f_tell; rw [if_neg hs]⟩
        · exact absurd rfl h2
  have loop : ∀ m i : Nat, i + m = 24 → Rn (d + 1) 85 (4, [some (vR 20 0), some (vI g), some (vI (bI (stpF M g i))), some (vI (nI i)), none], [], M) (fun r M' => r = none ∧ M' = f_tell M g) := by
    intro m
    induction m with
    | zero =>
      intro i hi
      obtain rfl : i = 24 := by omega
      refine rn_iload_n (pc' := 5) rfl rfl rfl ?_
      refine rn_bipush (pc' := 7) (v := 24) rfl rfl (by decide) ?_
      refine rn_ic_ge (t := 55) (pc' := 10) rfl rfl rfl (fun h1 => ?_) (fun h1 => ?_)
      · exact stage2 none
      · exact absurd ((lt24 (by omega)).mp h1) (by omega)
    | succ m ih =>
      intro i hi
      have he : i < 24 := by omega
      have key : ∀ x, x = bI (stpF M g (i + 1)) → Rn (d + 1) 85 (48, [some (vR 20 0), some (vI g), some (vI (bI (stpF M g i))), some (vI (nI i)), none], [vI x], M) (fun r M' => r = none ∧ M' = f_tell M g) := by
        intro x hx
        subst hx
        refine rn_istore_n (pc' := 49) rfl rfl rfl (Nat.le_of_ble_eq_true rfl) rfl ?_
        refine rn_iinc (pc' := 52) rfl rfl rfl (nI_inc _) rfl (Nat.le_of_ble_eq_true rfl) rfl ?_
        refine rn_goto (pc' := 4) rfl rfl ?_
        exact ih (i + 1) (by omega)
      refine rn_iload_n (pc' := 5) rfl rfl rfl ?_
      refine rn_bipush (pc' := 7) (v := 24) rfl rfl (by decide) ?_
      refine rn_ic_ge (t := 55) (pc' := 10) rfl rfl rfl (fun h1 => ?_) (fun h1 => ?_)
      · exact absurd ((lt24 (by omega)).mpr he) h1
      · refine rn_iload_n (pc' := 11) rfl rfl rfl ?_
        refine rn_if_ne (t := 43) (pc' := 14) rfl rfl rfl (fun h2 => ?_) (fun h2 => ?_)
        · refine rn_iconst (pc' := 44) (v := 1) rfl rfl (by decide) ?_
          refine rn_goto (pc' := 48) rfl rfl ?_
          refine key _ ?_
          simp only [bI_0, Bool.not_eq_false] at h2
          first | (simp [stpF, rpid, rgrp, rste, bI, *]; done) | simp_all [stpF, rpid, rgrp, rste, bI]
        · refine rn_aload_n (pc' := 15) rfl rfl rfl ?_
          refine rn_getF (N := 1) (t' := 25) (pc' := 18) rfl rfl rfl rfl rfl (by first | assumption | decide | omega) ?_
          refine rn_iload_n (pc' := 19) rfl rfl rfl ?_
          refine rn_iald (N := 1) (K := 24) (pc' := 20) rfl rfl ⟨rfl, rfl⟩ rfl (by first | assumption | decide | omega) rfl (by decide) rfl (by first | assumption | decide | omega) ?_
          refine rn_if_le (t := 47) (pc' := 23) rfl rfl rfl (fun h3 => ?_) (fun h3 => ?_)
          · refine rn_iconst (pc' := 48) (v := 0) rfl rfl (by decide) ?_
            refine key _ ?_
            simp only [bI_0, Bool.not_eq_false] at h2
            first | (simp [stpF, rpid, rgrp, rste, bI, *]; done) | simp_all [stpF, rpid, rgrp, rste, bI]
          · refine rn_aload_n (pc' := 24) rfl rfl rfl ?_
            refine rn_getF (N := 1) (t' := 27) (pc' := 27) rfl rfl rfl rfl rfl (by first | assumption | decide | omega) ?_
            refine rn_iload_n (pc' := 28) rfl rfl rfl ?_
            refine rn_iald (N := 1) (K := 24) (pc' := 29) rfl rfl ⟨rfl, rfl⟩ rfl (by first | assumption | decide | omega) rfl (by decide) rfl (by first | assumption | decide | omega) ?_
            refine rn_iload_n (pc' := 30) rfl rfl rfl ?_
            refine rn_ic_ne (t := 47) (pc' := 33) rfl rfl rfl (fun h4 => ?_) (fun h4 => ?_)
            · refine rn_iconst (pc' := 48) (v := 0) rfl rfl (by decide) ?_
              refine key _ ?_
              simp only [bI_0, Bool.not_eq_false] at h2
              first | (simp [stpF, rpid, rgrp, rste, bI, *]; done) | simp_all [stpF, rpid, rgrp, rste, bI]
            · refine rn_aload_n (pc' := 34) rfl rfl rfl ?_
              refine rn_getF (N := 1) (t' := 28) (pc' := 37) rfl rfl rfl rfl rfl (by first | assumption | decide | omega) ?_
              refine rn_iload_n (pc' := 38) rfl rfl rfl ?_
              refine rn_iald (N := 1) (K := 24) (pc' := 39) rfl rfl ⟨rfl, rfl⟩ rfl (by first | assumption | decide | omega) rfl (by decide) rfl (by first | assumption | decide | omega) ?_
              refine rn_iconst (pc' := 40) (v := 3) rfl rfl (by decide) ?_
              refine rn_ic_ne (t := 47) (pc' := 43) rfl rfl rfl (fun h5 => ?_) (fun h5 => ?_)
              · refine rn_iconst (pc' := 48) (v := 0) rfl rfl (by decide) ?_
                refine key _ ?_
                simp only [bI_0, Bool.not_eq_false] at h2
                first | (simp [stpF, rpid, rgrp, rste, bI, *]; done) | simp_all [stpF, rpid, rgrp, rste, bI]
              · refine rn_iconst (pc' := 44) (v := 1) rfl rfl (by decide) ?_
                refine rn_goto (pc' := 48) rfl rfl ?_
                refine key _ ?_
                simp only [bI_0, Bool.not_eq_false] at h2
                first | (simp [stpF, rpid, rgrp, rste, bI, *]; done) | simp_all [stpF, rpid, rgrp, rste, bI]
  show Rn _ 85 (0, [some (vR 20 0), some (vI g), none, none, none], [], _) _
  refine rn_iconst (pc' := 1) (v := 0) rfl rfl (by decide) ?_
  refine rn_istore_n (pc' := 2) rfl rfl rfl (Nat.le_of_ble_eq_true rfl) rfl ?_
  refine rn_iconst (pc' := 3) (v := 0) rfl rfl (by decide) ?_
  refine rn_istore_n (pc' := 4) rfl rfl rfl (Nat.le_of_ble_eq_true rfl) rfl ?_
  exact loop 24 0 (by omega)
/-! panic -/
def f_panic (M : xM) : xM := mI (mI (mRow (mI M 20 0 39 (M.1 20 0 39 + 1)) 25 0 (fun k => if k < 24 then 0 else M.1 25 0 k)) 20 0 29 0) 20 0 30 0
theorem r_panic {d : Nat} (M : xM) : Rn d 86 (0, xen 86 [vR 20 0], [], M) (fun r M' => r = none ∧ M' = f_panic M) := by
  have loop : ∀ m i : Nat, i + m = 24 → Rn d 86 (12, [some (vR 20 0), some (vI (nI i))], [], mRow (mI M 20 0 39 (M.1 20 0 39 + 1)) 25 0 (fun k => if k < i then 0 else M.1 25 0 k)) (fun r M' => r = none ∧ M' = f_panic M) := by
    intro m
    induction m with
    | zero =>
      intro i hi
      obtain rfl : i = 24 := by omega
      refine rn_iload_n (pc' := 13) rfl rfl rfl ?_
      refine rn_bipush (pc' := 15) (v := 24) rfl rfl (by decide) ?_
      refine rn_ic_ge (t := 31) (pc' := 18) rfl rfl rfl (fun h1 => ?_) (fun h1 => ?_)
      · refine rn_aload_n (pc' := 32) rfl rfl rfl ?_
        refine rn_iconst (pc' := 33) (v := 0) rfl rfl (by decide) ?_
        refine rn_putI (N := 1) (pc' := 36) rfl rfl rfl rfl rfl (by first | assumption | decide | omega) ?_
        refine rn_aload_n (pc' := 37) rfl rfl rfl ?_
        refine rn_iconst (pc' := 38) (v := 0) rfl rfl (by decide) ?_
        refine rn_putI (N := 1) (pc' := 41) rfl rfl rfl rfl rfl (by first | assumption | decide | omega) ?_
        refine rn_return rfl rfl ?_
        exact ⟨rfl, rfl⟩
      · exact absurd ((lt24 (by omega)).mp h1) (by omega)
    | succ m ih =>
      intro i hi
      have he : i < 24 := by omega
      have := ih (i + 1) (by omega)
      have e1 : upd (fun k => if k < i then 0 else M.1 25 0 k) i 0 = (fun k => if k < i + 1 then 0 else M.1 25 0 k) := by
        funext k
        unfold upd
        by_cases hk : k = i
        · subst hk; simp
        · by_cases hk2 : k < i
          · simp only [if_neg hk, if_pos hk2, if_pos (show k < i + 1 by omega)]
          · simp only [if_neg hk, if_neg hk2, if_neg (show ¬ k < i + 1 by omega)]
      refine rn_iload_n (pc' := 13) rfl rfl rfl ?_
      refine rn_bipush (pc' := 15) (v := 24) rfl rfl (by decide) ?_
      refine rn_ic_ge (t := 31) (pc' := 18) rfl rfl rfl (fun h1 => ?_) (fun h1 => ?_)
      · exact absurd ((lt24 (by omega)).mpr he) h1
      · refine rn_aload_n (pc' := 19) rfl rfl rfl ?_
        refine rn_getF (N := 1) (t' := 25) (pc' := 22) rfl rfl rfl rfl rfl (by first | assumption | decide | omega) ?_
        refine rn_iload_n (pc' := 23) rfl rfl rfl ?_
        refine rn_iconst (pc' := 24) (v := 0) rfl rfl (by decide) ?_
        refine rn_iast (N := 1) (K := 24) (pc' := 25) rfl rfl ⟨rfl, rfl⟩ rfl (by first | assumption | decide | omega) rfl (by decide) rfl (by first | assumption | decide | omega) ?_
        rw [mRow_put, e1]
        refine rn_iinc (pc' := 28) rfl rfl rfl (nI_inc _) rfl (Nat.le_of_ble_eq_true rfl) rfl ?_
        refine rn_goto (pc' := 12) rfl rfl ?_
        exact this
  show Rn _ 86 (0, [some (vR 20 0), none], [], _) _
  refine rn_aload_n (pc' := 1) rfl rfl rfl ?_
  refine rn_dupA (pc' := 2) rfl rfl ?_
  refine rn_getI (N := 1) (pc' := 5) rfl rfl rfl rfl (by decide) rfl (by first | assumption | decide | omega) ?_
  refine rn_iconst (pc' := 6) (v := 1) rfl rfl (by decide) ?_
  refine rn_iadd (pc' := 7) rfl rfl ?_
  refine rn_putI (N := 1) (pc' := 10) rfl rfl rfl rfl rfl (by first | assumption | decide | omega) ?_
  refine rn_iconst (pc' := 11) (v := 0) rfl rfl (by decide) ?_
  refine rn_istore_n (pc' := 12) rfl rfl rfl (Nat.le_of_ble_eq_true rfl) rfl ?_
  skip
  have := loop 24 0 rfl
  have e1 : mRow (mI M 20 0 39 (M.1 20 0 39 + 1)) 25 0 (fun k => if k < 0 then 0 else M.1 25 0 k) = mI M 20 0 39 (M.1 20 0 39 + 1) := by
    have e2 : (fun k => if k < 0 then 0 else M.1 25 0 k) = (mI M 20 0 39 (M.1 20 0 39 + 1)).1 25 0 := by
      funext k; rw [if_neg (Nat.not_lt_zero k)]; rfl
    rw [e2, mRow_id]
  rw [e1] at this
  exact this
/-! the end of a process -/
theorem lt1000 {i : Nat} (h : i < 2 ^ 31) : (nI i < 1000) ↔ i < 1000 := nI_ltI h (by decide)
def woF (M : xM) : Nat → Nat → Int32
  | 0 => fun g => if 1 ≤ g ∧ g < 1000 then 1 else M.1 49 0 g
  | k + 1 => if 0 < rpid M k then upd (woF M k) (rgrp M k).toNatClampNeg (bI (orph M (rgrp M k))) else woF M k
def acF (M : xM) (e : Nat) : Nat → Bool
  | 0 => false
  | k + 1 => acF M e k || (decide (0 < rpid M k) && decide (rpar M k = rpid M e))
def rpF (M : xM) (e i : Nat) : Nat → Int32 := fun k => if k < i ∧ 0 < rpid M k ∧ rpar M k = rpid M e then 1 else rpar M k
def f_endA (M : xM) : xM := mRow M 49 0 (woF M 24)
def f_endB (M : xM) (e : Nat) : xM := if acF M e 24 = true then f_wake (mRow M 26 0 (rpF M e 24)) 1 else mRow M 26 0 (rpF M e 24)
def f_endC (M : xM) (e : Nat) (how : Int32) : xM := mI (mI (mJ (mI M 28 0 e 4) 38 0 e 0) 33 0 e 0) 39 0 e how
def upD (M : xM) (u : Option Nat) : Bool := match u with
  | none => false
  | some k => decide (M.1 32 0 (21 * k + 17) = 1)
def f_endD (M : xM) (e : Nat) (u : Option Nat) : xM := if upD (f_wake M (rpar M e)) u = true then mI (f_wake M (rpar M e)) 25 0 e 0 else f_wake M (rpar M e)
def f_endE (M : xM) (e : Nat) : xM := f_sendTo M (rpar M e) 17
def tlF : Nat → Nat → xM → xM
  | 0, _, M => M
  | m + 1, g, M => tlF m (g + 1) (if M.1 49 0 g = 0 ∧ orph M (nI g) = true then f_tell M (nI g) else M)
/-- all but the telling -/
def f_end0 (M : xM) (e : Nat) (how : Int32) : xM := f_endE (f_endD (f_endC (f_endB (f_endA M) e) e how) e (eo (f_endB (f_endA M) e) (rpar (f_endB (f_endA M) e) e))) e
def f_end (M : xM) (e : Nat) (how : Int32) : xM := if rpid M e = 1 then f_panic (mI M 20 0 36 (M.1 20 0 36 + 1)) else tlF 999 1 (f_end0 (mI M 20 0 36 (M.1 20 0 36 + 1)) e how)
theorem tell_rok {M : xM} {n : Nat} (g : Int32) (h : rok M n) : ∃ n', n ≤ n' ∧ n' ≤ n + 48 ∧ rok (f_tell M g) n' := by
  unfold f_tell
  split
  · obtain ⟨n1, a1, a2, a3⟩ := saF_rok g 1 24 0 n M h
    obtain ⟨n3, b1, b2, b3⟩ := saF_rok g 18 24 0 n1 _ a3
    exact ⟨n3, by omega, by omega, b3⟩
  · exact ⟨n, by omega, by omega, h⟩
theorem tlF_rok : ∀ (m g n : Nat) (M : xM), rok M n → ∃ n', n ≤ n' ∧ n' ≤ n + 48 * m ∧ rok (tlF m g M) n' := by
  intro m
  induction m with
  | zero => intro g n M h; exact ⟨n, by omega, by omega, h⟩
  | succ m ih =>
    intro g n M h
    unfold tlF
    split
    · obtain ⟨n1, a1, a2, a3⟩ := tell_rok (nI g) h
      obtain ⟨n2, b1, b2, b3⟩ := ih (g + 1) n1 _ a3
      exact ⟨n2, by omega, by omega, b3⟩
    · obtain ⟨n2, b1, b2, b3⟩ := ih (g + 1) n _ h
      exact ⟨n2, by omega, by omega, b3⟩
theorem ix21 (u s : Nat) : (21 : Int32) * nI u + nI s = nI (21 * u + s) := by
  show nI 21 * nI u + nI s = _
  rw [pk_mul, nI_add]
theorem r_endT {d : Nat} (e : Nat) (how x3 x4 : Int32) : ∀ (m g n : Nat) (M : xM), g + m = 1000 → 1 ≤ g → rok M n → n ≤ 4000 → (∃ n', rok (tlF m g M) n' ∧ n' ≤ 4000) → Rn (d + 2) 84 (248, [some (vR 20 0), some (vI (nI e)), some (vI how), some (vI x3), some (vI x4), some (vI (nI g))], [], M) (fun r M' => r = none ∧ M' = tlF m g M) := by
  intro m
  induction m with
  | zero =>
    intro g n M hg hg1 hn hn4 hf
    obtain rfl : g = 1000 := by omega
    refine rn_iload (pc' := 250) rfl rfl rfl ?_
    refine rn_sipush (pc' := 253) (v := 1000) rfl rfl (by decide) ?_
    refine rn_ic_ge (t := 287) (pc' := 256) rfl rfl rfl (fun h1 => ?_) (fun h1 => ?_)
    · refine rn_return rfl rfl ?_
      exact ⟨rfl, rfl⟩
    · exact absurd ((lt1000 (by omega)).mp h1) (by omega)
  | succ m ih =>
    intro g n M hg hg1 hn hn4 hf
    have he : g < 1000 := by omega
    unfold tlF at hf ⊢
    have next : ∀ N, N = (if M.1 49 0 g = 0 ∧ orph M (nI g) = true then f_tell M (nI g) else M) → Rn (d + 2) 84 (281, [some (vR 20 0), some (vI (nI e)), some (vI how), some (vI x3), some (vI x4), some (vI (nI g))], [], N) (fun r M' => r = none ∧ M' = tlF m (g + 1) (if M.1 49 0 g = 0 ∧ orph M (nI g) = true then f_tell M (nI g) else M)) := by
      intro N hN
      subst hN
      obtain ⟨n', f1, f2⟩ := hf
      obtain ⟨n1, q1, q2⟩ : ∃ n1, rok (if M.1 49 0 g = 0 ∧ orph M (nI g) = true then f_tell M (nI g) else M) n1 ∧ n1 ≤ n + 48 := by
        split
        · obtain ⟨n1, a1, a2, a3⟩ := tell_rok (nI g) hn
          exact ⟨n1, a3, a2⟩
        · exact ⟨n, hn, by omega⟩
      obtain ⟨n2, b1, b2, b3⟩ := tlF_rok m (g + 1) n1 _ q1
      have := rok_inj b3 f1 (by omega) (by omega)
      refine rn_iinc (pc' := 284) rfl rfl rfl (nI_inc _) rfl (Nat.le_of_ble_eq_true rfl) rfl ?_
      refine rn_goto (pc' := 248) rfl rfl ?_
      exact ih (g + 1) n1 _ (by omega) (by omega) q1 (by omega) ⟨n', f1, f2⟩
    have hlt : M.1 49 0 g = 0 ∧ orph M (nI g) = true → ∃ n', rok (f_tell M (nI g)) n' ∧ n' ≤ 4000 := fun hc => by
      rw [if_pos hc] at hf
      obtain ⟨n', f1, f2⟩ := hf
      obtain ⟨n1, a1, a2, a3⟩ := tell_rok (nI g) hn
      obtain ⟨n2, b1, b2, b3⟩ := tlF_rok m (g + 1) n1 _ a3
      have := rok_inj b3 f1 (by omega) (by omega)
      exact ⟨n1, a3, by omega⟩
    have hb : ∀ b : Bool, ¬ bI b = 0 → b = true := fun b h => by cases b <;> simp [bI] at h ⊢
    refine rn_iload (pc' := 250) rfl rfl rfl ?_
    refine rn_sipush (pc' := 253) (v := 1000) rfl rfl (by decide) ?_
    refine rn_ic_ge (t := 287) (pc' := 256) rfl rfl rfl (fun h1 => ?_) (fun h1 => ?_)
    · exact absurd ((lt1000 (by omega)).mpr he) h1
    · refine rn_aload_n (pc' := 257) rfl rfl rfl ?_
      refine rn_getF (N := 1) (t' := 49) (pc' := 260) rfl rfl rfl rfl rfl (by first | assumption | decide | omega) ?_
      refine rn_iload (pc' := 262) rfl rfl rfl ?_
      refine rn_bald (N := 1) (K := 1000) (pc' := 263) rfl rfl ⟨rfl, rfl⟩ rfl (by first | assumption | decide | omega) rfl (by decide) rfl (by first | assumption | decide | omega) ?_
      refine rn_if_ne (t := 281) (pc' := 266) rfl rfl rfl (fun h2 => ?_) (fun h2 => ?_)
      · refine next _ ?_
        first | (rw [if_pos ⟨h2, hb _ h4⟩]; done) | (rw [if_neg (fun q => absurd q.1 h2)]; done) | rw [if_neg (fun q => absurd q.2 (by rw [(bI_0 _).mp h4]; simp))]
      · refine rn_aload_n (pc' := 267) rfl rfl rfl ?_
        refine rn_iload (pc' := 269) rfl rfl rfl ?_
        refine rn_callV (pc' := 272) (as := [_]) rfl rfl rfl ⟨Nat.le_of_ble_eq_true rfl, rfl, rfl⟩ rfl (by first | assumption | decide | omega) (Nat.le_of_ble_eq_true rfl) (Nat.le_of_ble_eq_true rfl) rfl (r_isOrphaned M _) (fun r3 M3 hz => ?_)
        obtain ⟨rfl, hm_⟩ := hz
        refine rn_mem hm_ ?_
        clear hm_
        refine rn_if_eq (t := 281) (pc' := 275) rfl rfl rfl (fun h4 => ?_) (fun h4 => ?_)
        · refine next _ ?_
          first | (rw [if_pos ⟨h2, hb _ h4⟩]; done) | (rw [if_neg (fun q => absurd q.1 h2)]; done) | rw [if_neg (fun q => absurd q.2 (by rw [(bI_0 _).mp h4]; simp))]
        · refine rn_aload_n (pc' := 276) rfl rfl rfl ?_
          refine rn_iload (pc' := 278) rfl rfl rfl ?_
          refine rn_callV (pc' := 281) (as := [_]) rfl rfl rfl ⟨Nat.le_of_ble_eq_true rfl, rfl, rfl⟩ rfl (by first | assumption | decide | omega) (Nat.le_of_ble_eq_true rfl) (Nat.le_of_ble_eq_true rfl) rfl (r_tellOrphans M _ hn hn4 (hlt ⟨h2, hb _ h4⟩)) (fun r5 M5 hz => ?_)
          obtain ⟨rfl, hm_⟩ := hz
          refine rn_mem hm_ ?_
          clear hm_
          refine next _ ?_
          first | (rw [if_pos ⟨h2, hb _ h4⟩]; done) | (rw [if_neg (fun q => absurd q.1 h2)]; done) | rw [if_neg (fun q => absurd q.2 (by rw [(bI_0 _).mp h4]; simp))]
end
section
/-! THE REFERENCE: end(e, how) -/
theorem wake_29 (M : xM) (p : Int32) : (f_wake M p).1 20 = M.1 20 := by
  unfold f_wake
  split
  · rfl
  · split
    · funext a b; simp [mI, xu]
    · rfl
theorem endB_20 (M : xM) (e : Nat) : (f_endB M e).1 20 = M.1 20 := by
  unfold f_endB
  split
  · rw [wake_29]; rfl
  · rfl
theorem endD_20 (M : xM) (e : Nat) (u : Option Nat) : (f_endD M e u).1 20 = M.1 20 := by
  unfold f_endD
  split
  · show (f_wake M (rpar M e)).1 20 = _
    rw [wake_29]
  · rw [wake_29]
theorem r_end {d e n : Nat} (M : xM) (how : Int32) (he : e < 24) (hG : ∀ k, k < 24 → 0 < rpid M k → ∃ g, g < 1000 ∧ rgrp M k = nI g) (hn : rok M n) (hn4 : n < 4000) (hf : ¬ rpid M e = 1 → ∃ n', rok (f_end M e how) n' ∧ n' ≤ 4000) : Rn (d + 2) 84 (0, xen 84 [vR 20 0, vI (nI e), vI how], [], M) (fun r M' => r = none ∧ M' = f_end M e how) := by
  by_cases hp1 : rpid M e = 1
  · show Rn _ 84 (0, [some (vR 20 0), some (vI (nI e)), some (vI how), none, none, none], [], _) _
    refine rn_aload_n (pc' := 1) rfl rfl rfl ?_
    refine rn_dupA (pc' := 2) rfl rfl ?_
    refine rn_getI (N := 1) (pc' := 5) rfl rfl rfl rfl (by decide) rfl (by first | assumption | decide | omega) ?_
    refine rn_iconst (pc' := 6) (v := 1) rfl rfl (by decide) ?_
    refine rn_iadd (pc' := 7) rfl rfl ?_
    refine rn_putI (N := 1) (pc' := 10) rfl rfl rfl rfl rfl (by first | assumption | decide | omega) ?_
    refine rn_aload_n (pc' := 11) rfl rfl rfl ?_
    refine rn_getF (N := 1) (t' := 25) (pc' := 14) rfl rfl rfl rfl rfl (by first | assumption | decide | omega) ?_
    refine rn_iload_n (pc' := 15) rfl rfl rfl ?_
    refine rn_iald (N := 1) (K := 24) (pc' := 16) rfl rfl ⟨rfl, rfl⟩ rfl (by first | assumption | decide | omega) rfl (by decide) rfl (by first | assumption | decide | omega) ?_
    refine rn_iconst (pc' := 17) (v := 1) rfl rfl (by decide) ?_
    refine rn_ic_ne (t := 25) (pc' := 20) rfl rfl rfl (fun h1 => ?_) (fun h1 => ?_)
    · exact absurd hp1 h1
    · refine rn_aload_n (pc' := 21) rfl rfl rfl ?_
      refine rn_callV (pc' := 24) (as := []) rfl rfl rfl ⟨Nat.le_of_ble_eq_true rfl, rfl, rfl⟩ rfl (by first | assumption | decide | omega) (Nat.le_of_ble_eq_true rfl) (Nat.le_of_ble_eq_true rfl) rfl (r_panic _) (fun r2 M2 hz => ?_)
      obtain ⟨rfl, hm_⟩ := hz
      refine rn_mem hm_ ?_
      clear hm_
      refine rn_return rfl rfl ?_
      exact ⟨rfl, by unfold f_end; rw [if_pos hp1]⟩
  have hf := hf hp1
  have ef : f_end M e how = tlF 999 1 (f_end0 (mI M 20 0 36 (M.1 20 0 36 + 1)) e how) := by unfold f_end; rw [if_neg hp1]
  rw [ef] at hf ⊢
  generalize hM0 : mI M 20 0 36 (M.1 20 0 36 + 1) = N at hf ⊢
  have hN20 : rok N n := by rw [← hM0]; exact hn
  have hGN : ∀ k, k < 24 → 0 < rpid N k → ∃ g, g < 1000 ∧ rgrp N k = nI g := by rw [← hM0]; exact hG
  have hG1 : ∀ W : Nat → Int32, ∀ g, orph (mRow N 49 0 W) g = orph N g := fun W g => orph_congr (fun _ => rfl) (fun _ => rfl) (fun _ => rfl) (fun _ => rfl) g
  -- from the end back
  have s5 : ∀ (x3 : Int32) (i : Nat), Rn (d + 2) 84 (154, [some (vR 20 0), some (vI (nI e)), some (vI how), some (vI x3), some (vI (nI i)), none], [], f_endB (f_endA N) e) (fun r M' => r = none ∧ M' = tlF 999 1 (f_end0 N e how)) := by
    intro x3 i
    unfold f_end0 at hf ⊢
    generalize hB : f_endB (f_endA N) e = B at hf ⊢
    have hB20 : rok B n := by rw [← hB]; unfold rok; rw [endB_20]; exact hN20
    generalize hu : eo B (rpar B e) = u at hf ⊢
    have hul : ∀ k, u = some k → k < 24 := fun k hk => eo_lt (hu.trans hk)
    have hC : f_endC B e how = mI (mI (mJ (mI B 28 0 e 4) 38 0 e 0) 33 0 e 0) 39 0 e how := rfl
    generalize hCC : f_endC B e how = C at hf ⊢
    have hC20 : rok C n := by rw [← hCC]; exact hB20
    have hD20 : rok (f_endD C e u) n := by unfold rok; rw [endD_20]; exact hC20
    have hE : ∃ n1, rok (f_endE (f_endD C e u) e) n1 ∧ n1 ≤ n + 1 := by
      unfold f_endE f_sendTo
      split
      · exact ⟨n, hD20, by omega⟩
      · exact ⟨n + 1, rok_send hD20 _ _, by omega⟩
    obtain ⟨n1, hE1, hE2⟩ := hE
    have s6 : Rn (d + 2) 84 (233, [some (vR 20 0), some (vI (nI e)), some (vI how), some (vI x3), some (vI (oI u)), none], [], f_endD C e u) (fun r M' => r = none ∧ M' = tlF 999 1 (f_endE (f_endD C e u) e)) := by
      refine rn_aload_n (pc' := 234) rfl rfl rfl ?_
      refine rn_aload_n (pc' := 235) rfl rfl rfl ?_
      refine rn_getF (N := 1) (t' := 26) (pc' := 238) rfl rfl rfl rfl rfl (by first | assumption | decide | omega) ?_
      refine rn_iload_n (pc' := 239) rfl rfl rfl ?_
      refine rn_iald (N := 1) (K := 24) (pc' := 240) rfl rfl ⟨rfl, rfl⟩ rfl (by first | assumption | decide | omega) rfl (by decide) rfl (by first | assumption | decide | omega) ?_
      refine rn_bipush (pc' := 242) (v := 17) rfl rfl (by decide) ?_
      refine rn_callV (pc' := 245) (as := [_, _]) rfl rfl rfl ⟨Nat.le_of_ble_eq_true rfl, rfl, rfl⟩ rfl (by first | assumption | decide | omega) (Nat.le_of_ble_eq_true rfl) (Nat.le_of_ble_eq_true rfl) rfl (r_sendTo _ _ 17 hD20 hn4) (fun r1 M1 hz => ?_)
      obtain ⟨rfl, hm_⟩ := hz
      refine rn_mem hm_ ?_
      clear hm_
      refine rn_iconst (pc' := 246) (v := 1) rfl rfl (by decide) ?_
      refine rn_istore (pc' := 248) rfl rfl rfl (Nat.le_of_ble_eq_true rfl) rfl ?_
      exact r_endT e how x3 _ 999 1 n1 _ (by omega) (by omega) hE1 (by omega) hf
    have s7 : Rn (d + 2) 84 (204, [some (vR 20 0), some (vI (nI e)), some (vI how), some (vI x3), some (vI (oI u)), none], [], f_wake C (rpar C e)) (fun r M' => r = none ∧ M' = tlF 999 1 (f_endE (f_endD C e u) e)) := by
      have ho := oI_neg hul
      cases hu2 : u with
      | none =>
        rw [hu2] at s6 ho
        have e1 : f_endD C e none = f_wake C (rpar C e) := by unfold f_endD upD; rfl
        rw [e1] at s6 ⊢
        refine rn_iload (pc' := 206) rfl rfl rfl ?_
        refine rn_if_lt (t := 233) (pc' := 209) rfl rfl rfl (fun h1 => ?_) (fun h1 => ?_)
        · exact s6
        · exact absurd (ho.mpr rfl) h1
      | some k =>
        have hk := hul k hu2
        rw [hu2] at s6
        have eI : oI (some k) = nI k := rfl
        rw [eI] at s6 ⊢
        have e2 : f_endD C e (some k) = if (f_wake C (rpar C e)).1 32 0 (21 * k + 17) = 1 then mI (f_wake C (rpar C e)) 25 0 e 0 else f_wake C (rpar C e) := by
          unfold f_endD upD
          by_cases h9 : (f_wake C (rpar C e)).1 32 0 (21 * k + 17) = 1
          · simp [h9]
          · simp [h9]
        rw [e2] at s6 ⊢
        refine rn_iload (pc' := 206) rfl rfl rfl ?_
        refine rn_if_lt (t := 233) (pc' := 209) rfl rfl rfl (fun h1 => ?_) (fun h1 => ?_)
        · first | exact absurd h1 (nI_pos (by omega)) | (rw [if_pos h2] at s6 ⊢; exact s6) | (rw [if_neg h2] at s6 ⊢; exact s6)
        · refine rn_aload_n (pc' := 210) rfl rfl rfl ?_
          refine rn_getF (N := 1) (t' := 32) (pc' := 213) rfl rfl rfl rfl rfl (by first | assumption | decide | omega) ?_
          refine rn_bipush (pc' := 215) (v := 21) rfl rfl (by decide) ?_
          refine rn_iload (pc' := 217) rfl rfl rfl ?_
          refine rn_imul (pc' := 218) rfl rfl ?_
          refine rn_bipush (pc' := 220) (v := 17) rfl rfl (by decide) ?_
          refine rn_iadd (pc' := 221) rfl rfl ?_
          refine rn_iald (k := 21 * k + 17) (N := 1) (K := 504) (pc' := 222) rfl rfl ⟨rfl, rfl⟩ rfl (by first | assumption | decide | omega) rfl (by decide) (ix21 k 17) (by first | assumption | decide | omega) ?_
          refine rn_iconst (pc' := 223) (v := 1) rfl rfl (by decide) ?_
          refine rn_ic_ne (t := 233) (pc' := 226) rfl rfl rfl (fun h2 => ?_) (fun h2 => ?_)
          · first | exact absurd h1 (nI_pos (by omega)) | (rw [if_pos h2] at s6 ⊢; exact s6) | (rw [if_neg h2] at s6 ⊢; exact s6)
          · refine rn_aload_n (pc' := 227) rfl rfl rfl ?_
            refine rn_getF (N := 1) (t' := 25) (pc' := 230) rfl rfl rfl rfl rfl (by first | assumption | decide | omega) ?_
            refine rn_iload_n (pc' := 231) rfl rfl rfl ?_
            refine rn_iconst (pc' := 232) (v := 0) rfl rfl (by decide) ?_
            refine rn_iast (N := 1) (K := 24) (pc' := 233) rfl rfl ⟨rfl, rfl⟩ rfl (by first | assumption | decide | omega) rfl (by decide) rfl (by first | assumption | decide | omega) ?_
            first | exact absurd h1 (nI_pos (by omega)) | (rw [if_pos h2] at s6 ⊢; exact s6) | (rw [if_neg h2] at s6 ⊢; exact s6)
    refine rn_aload_n (pc' := 155) rfl rfl rfl ?_
    refine rn_aload_n (pc' := 156) rfl rfl rfl ?_
    refine rn_getF (N := 1) (t' := 26) (pc' := 159) rfl rfl rfl rfl rfl (by first | assumption | decide | omega) ?_
    refine rn_iload_n (pc' := 160) rfl rfl rfl ?_
    refine rn_iald (N := 1) (K := 24) (pc' := 161) rfl rfl ⟨rfl, rfl⟩ rfl (by first | assumption | decide | omega) rfl (by decide) rfl (by first | assumption | decide | omega) ?_
    refine rn_callV (pc' := 164) (as := [_]) rfl rfl rfl ⟨Nat.le_of_ble_eq_true rfl, rfl, rfl⟩ rfl (by first | assumption | decide | omega) (Nat.le_of_ble_eq_true rfl) (Nat.le_of_ble_eq_true rfl) rfl (r_entryOf B _) (fun r1 M1 hz => ?_)
    obtain ⟨rfl, hm_⟩ := hz
    refine rn_mem hm_ ?_
    clear hm_
    refine rn_topI (congrArg oI hu) ?_
    refine rn_istore (pc' := 166) rfl rfl rfl (Nat.le_of_ble_eq_true rfl) rfl ?_
    refine rn_aload_n (pc' := 167) rfl rfl rfl ?_
    refine rn_getF (N := 1) (t' := 28) (pc' := 170) rfl rfl rfl rfl rfl (by first | assumption | decide | omega) ?_
    refine rn_iload_n (pc' := 171) rfl rfl rfl ?_
    refine rn_iconst (pc' := 172) (v := 4) rfl rfl (by decide) ?_
    refine rn_iast (N := 1) (K := 24) (pc' := 173) rfl rfl ⟨rfl, rfl⟩ rfl (by first | assumption | decide | omega) rfl (by decide) rfl (by first | assumption | decide | omega) ?_
    refine rn_aload_n (pc' := 174) rfl rfl rfl ?_
    refine rn_getF (N := 1) (t' := 38) (pc' := 177) rfl rfl rfl rfl rfl (by first | assumption | decide | omega) ?_
    refine rn_iload_n (pc' := 178) rfl rfl rfl ?_
    refine rn_lconst (pc' := 179) (v := 0) rfl rfl rfl ?_
    refine rn_last (N := 1) (K := 24) (pc' := 180) rfl rfl ⟨rfl, rfl⟩ rfl (by first | assumption | decide | omega) rfl (by decide) rfl (by first | assumption | decide | omega) ?_
    refine rn_aload_n (pc' := 181) rfl rfl rfl ?_
    refine rn_getF (N := 1) (t' := 33) (pc' := 184) rfl rfl rfl rfl rfl (by first | assumption | decide | omega) ?_
    refine rn_iload_n (pc' := 185) rfl rfl rfl ?_
    refine rn_iconst (pc' := 186) (v := 0) rfl rfl (by decide) ?_
    refine rn_iast (N := 1) (K := 24) (pc' := 187) rfl rfl ⟨rfl, rfl⟩ rfl (by first | assumption | decide | omega) rfl (by decide) rfl (by first | assumption | decide | omega) ?_
    refine rn_aload_n (pc' := 188) rfl rfl rfl ?_
    refine rn_getF (N := 1) (t' := 39) (pc' := 191) rfl rfl rfl rfl rfl (by first | assumption | decide | omega) ?_
    refine rn_iload_n (pc' := 192) rfl rfl rfl ?_
    refine rn_iload_n (pc' := 193) rfl rfl rfl ?_
    refine rn_iast (N := 1) (K := 24) (pc' := 194) rfl rfl ⟨rfl, rfl⟩ rfl (by first | assumption | decide | omega) rfl (by decide) rfl (by first | assumption | decide | omega) ?_
    skip
    rw [← hC, hCC]
    refine rn_aload_n (pc' := 195) rfl rfl rfl ?_
    refine rn_aload_n (pc' := 196) rfl rfl rfl ?_
    refine rn_getF (N := 1) (t' := 26) (pc' := 199) rfl rfl rfl rfl rfl (by first | assumption | decide | omega) ?_
    refine rn_iload_n (pc' := 200) rfl rfl rfl ?_
    refine rn_iald (N := 1) (K := 24) (pc' := 201) rfl rfl ⟨rfl, rfl⟩ rfl (by first | assumption | decide | omega) rfl (by decide) rfl (by first | assumption | decide | omega) ?_
    refine rn_callV (pc' := 204) (as := [_]) rfl rfl rfl ⟨Nat.le_of_ble_eq_true rfl, rfl, rfl⟩ rfl (by first | assumption | decide | omega) (Nat.le_of_ble_eq_true rfl) (Nat.le_of_ble_eq_true rfl) rfl (r_wake C _) (fun r1 M1 hz => ?_)
    obtain ⟨rfl, hm_⟩ := hz
    refine rn_mem hm_ ?_
    clear hm_
    exact s7
  have s4 : ∀ m i : Nat, i + m = 24 → Rn (d + 2) 84 (96, [some (vR 20 0), some (vI (nI e)), some (vI how), some (vI (bI (acF (f_endA N) e i))), some (vI (nI i)), none], [], mRow (f_endA N) 26 0 (rpF (f_endA N) e i)) (fun r M' => r = none ∧ M' = tlF 999 1 (f_end0 N e how)) := by
    generalize hA : f_endA N = A at s5 ⊢
    intro m
    induction m with
    | zero =>
      intro i hi
      obtain rfl : i = 24 := by omega
      have s5 := s5 (bI (acF A e 24)) 24
      unfold f_endB at s5
      by_cases hac : acF A e 24 = true
      · rw [if_pos hac] at s5
        refine rn_iload (pc' := 98) rfl rfl rfl ?_
        refine rn_bipush (pc' := 100) (v := 24) rfl rfl (by decide) ?_
        refine rn_ic_ge (t := 145) (pc' := 103) rfl rfl rfl (fun h1 => ?_) (fun h1 => ?_)
        · refine rn_iload_n (pc' := 146) rfl rfl rfl ?_
          refine rn_if_eq (t := 154) (pc' := 149) rfl rfl rfl (fun h2 => ?_) (fun h2 => ?_)
          · first | exact absurd h2 (by rw [hac]; decide) | exact s5
          · refine rn_aload_n (pc' := 150) rfl rfl rfl ?_
            refine rn_iconst (pc' := 151) (v := 1) rfl rfl (by decide) ?_
            refine rn_callV (pc' := 154) (as := [_]) rfl rfl rfl ⟨Nat.le_of_ble_eq_true rfl, rfl, rfl⟩ rfl (by first | assumption | decide | omega) (Nat.le_of_ble_eq_true rfl) (Nat.le_of_ble_eq_true rfl) rfl (r_wake _ 1) (fun r3 M3 hz => ?_)
            obtain ⟨rfl, hm_⟩ := hz
            refine rn_mem hm_ ?_
            clear hm_
            first | exact absurd h2 (by rw [hac]; decide) | exact s5
        · exact absurd ((lt24 (by omega)).mp h1) (by omega)
      · rw [if_neg hac] at s5
        refine rn_iload (pc' := 98) rfl rfl rfl ?_
        refine rn_bipush (pc' := 100) (v := 24) rfl rfl (by decide) ?_
        refine rn_ic_ge (t := 145) (pc' := 103) rfl rfl rfl (fun h1 => ?_) (fun h1 => ?_)
        · refine rn_iload_n (pc' := 146) rfl rfl rfl ?_
          refine rn_if_eq (t := 154) (pc' := 149) rfl rfl rfl (fun h2 => ?_) (fun h2 => ?_)
          · exact s5
          · exact absurd (by simpa [bI_0] using hac) h2
        · exact absurd ((lt24 (by omega)).mp h1) (by omega)
    | succ m ih =>
      intro i hi
      have hi24 : i < 24 := by omega
      have ih := ih (i + 1) (by omega)
      have no : ¬ (0 < rpid A i ∧ rpar A i = rpid A e) → Rn (d + 2) 84 (139, [some (vR 20 0), some (vI (nI e)), some (vI how), some (vI (bI (acF A e i))), some (vI (nI i)), none], [], mRow A 26 0 (rpF A e i)) (fun r M' => r = none ∧ M' = tlF 999 1 (f_end0 N e how)) := by
        intro hc
        have e1 : acF A e (i + 1) = acF A e i := by
          show (acF A e i || (decide (0 < rpid A i) && decide (rpar A i = rpid A e))) = acF A e i
          have : (decide (0 < rpid A i) && decide (rpar A i = rpid A e)) = false := by simp; exact fun q1 q2 => hc ⟨q1, q2⟩
          rw [this, Bool.or_false]
        have e2 : rpF A e (i + 1) = rpF A e i := by
          funext k
          unfold rpF
          by_cases hk : k = i
          · subst hk
            rw [if_neg (fun q => hc q.2), if_neg (fun q => hc q.2)]
          · by_cases hk2 : k < i ∧ 0 < rpid A k ∧ rpar A k = rpid A e
            · rw [if_pos ⟨by omega, hk2.2⟩, if_pos hk2]
            · rw [if_neg (fun q => hk2 ⟨by omega, q.2⟩), if_neg hk2]
        rw [e1, e2] at ih
        refine rn_iinc (pc' := 142) rfl rfl rfl (nI_inc _) rfl (Nat.le_of_ble_eq_true rfl) rfl ?_
        refine rn_goto (pc' := 96) rfl rfl ?_
        exact ih
      have yes : 0 < rpid A i → rpar A i = rpid A e → Rn (d + 2) 84 (129, [some (vR 20 0), some (vI (nI e)), some (vI how), some (vI (bI (acF A e i))), some (vI (nI i)), none], [], mRow A 26 0 (rpF A e i)) (fun r M' => r = none ∧ M' = tlF 999 1 (f_end0 N e how)) := by
        intro q1 q2
        have e1 : acF A e (i + 1) = true := by
          show (acF A e i || (decide (0 < rpid A i) && decide (rpar A i = rpid A e))) = true
          simp [q1, q2]
        have e2 : upd (rpF A e i) i 1 = rpF A e (i + 1) := by
          funext k
          unfold upd rpF
          by_cases hk : k = i
          · subst hk
            simp only [if_true]
            rw [if_pos ⟨Nat.lt_succ_self _, q1, q2⟩]
          · by_cases hk2 : k < i ∧ 0 < rpid A k ∧ rpar A k = rpid A e
            · rw [if_neg hk, if_pos hk2, if_pos ⟨by omega, hk2.2⟩]
            · rw [if_neg hk, if_neg hk2, if_neg (fun q => hk2 ⟨by omega, q.2⟩)]
        rw [e1] at ih
        refine rn_aload_n (pc' := 130) rfl rfl rfl ?_
        refine rn_getF (N := 1) (t' := 26) (pc' := 133) rfl rfl rfl rfl rfl (by first | assumption | decide | omega) ?_
        refine rn_iload (pc' := 135) rfl rfl rfl ?_
        refine rn_iconst (pc' := 136) (v := 1) rfl rfl (by decide) ?_
        refine rn_iast (N := 1) (K := 24) (pc' := 137) rfl rfl ⟨rfl, rfl⟩ rfl (by first | assumption | decide | omega) rfl (by decide) rfl (by first | assumption | decide | omega) ?_
        rw [mRow_put, e2]
        refine rn_iconst (pc' := 138) (v := 1) rfl rfl (by decide) ?_
        refine rn_istore_n (pc' := 139) rfl rfl rfl (Nat.le_of_ble_eq_true rfl) rfl ?_
        refine rn_iinc (pc' := 142) rfl rfl rfl (nI_inc _) rfl (Nat.le_of_ble_eq_true rfl) rfl ?_
        refine rn_goto (pc' := 96) rfl rfl ?_
        exact ih
      have hrp : (mRow A 26 0 (rpF A e i)).1 26 0 i = rpar A i := by
        show rpF A e i i = rpar A i
        unfold rpF
        rw [if_neg (fun q => absurd q.1 (Nat.lt_irrefl _))]
      refine rn_iload (pc' := 98) rfl rfl rfl ?_
      refine rn_bipush (pc' := 100) (v := 24) rfl rfl (by decide) ?_
      refine rn_ic_ge (t := 145) (pc' := 103) rfl rfl rfl (fun h1 => ?_) (fun h1 => ?_)
      · exact absurd ((lt24 (by omega)).mpr hi24) h1
      · refine rn_aload_n (pc' := 104) rfl rfl rfl ?_
        refine rn_getF (N := 1) (t' := 25) (pc' := 107) rfl rfl rfl rfl rfl (by first | assumption | decide | omega) ?_
        refine rn_iload (pc' := 109) rfl rfl rfl ?_
        refine rn_iald (N := 1) (K := 24) (pc' := 110) rfl rfl ⟨rfl, rfl⟩ rfl (by first | assumption | decide | omega) rfl (by decide) rfl (by first | assumption | decide | omega) ?_
        refine rn_if_le (t := 139) (pc' := 113) rfl rfl rfl (fun h2 => ?_) (fun h2 => ?_)
        · first | exact no (fun q => absurd q.2 h3) | exact no (fun q => absurd q.1 h2)
        · refine rn_aload_n (pc' := 114) rfl rfl rfl ?_
          refine rn_getF (N := 1) (t' := 26) (pc' := 117) rfl rfl rfl rfl rfl (by first | assumption | decide | omega) ?_
          refine rn_iload (pc' := 119) rfl rfl rfl ?_
          refine rn_iald (N := 1) (K := 24) (pc' := 120) rfl rfl ⟨rfl, rfl⟩ rfl (by first | assumption | decide | omega) rfl (by decide) rfl (by first | assumption | decide | omega) ?_
          refine rn_topI hrp ?_
          refine rn_aload_n (pc' := 121) rfl rfl rfl ?_
          refine rn_getF (N := 1) (t' := 25) (pc' := 124) rfl rfl rfl rfl rfl (by first | assumption | decide | omega) ?_
          refine rn_iload_n (pc' := 125) rfl rfl rfl ?_
          refine rn_iald (N := 1) (K := 24) (pc' := 126) rfl rfl ⟨rfl, rfl⟩ rfl (by first | assumption | decide | omega) rfl (by decide) rfl (by first | assumption | decide | omega) ?_
          refine rn_ic_ne (t := 139) (pc' := 129) rfl rfl rfl (fun h3 => ?_) (fun h3 => ?_)
          · first | exact no (fun q => absurd q.2 h3) | exact no (fun q => absurd q.1 h2)
          · exact yes h2 h3
  have s3 : ∀ m i : Nat, i + m = 24 → Rn (d + 2) 84 (49, [some (vR 20 0), some (vI (nI e)), some (vI how), some (vI (nI i)), none, none], [], mRow N 49 0 (woF N i)) (fun r M' => r = none ∧ M' = tlF 999 1 (f_end0 N e how)) := by
    intro m
    induction m with
    | zero =>
      intro i hi
      obtain rfl : i = 24 := by omega
      have := s4 24 0 rfl
      have e1 : rpF (f_endA N) e 0 = (f_endA N).1 26 0 := by
        funext k
        unfold rpF
        rw [if_neg (fun q => absurd q.1 (Nat.not_lt_zero _))]
      rw [e1, mRow_id] at this
      refine rn_iload_n (pc' := 50) rfl rfl rfl ?_
      refine rn_bipush (pc' := 52) (v := 24) rfl rfl (by decide) ?_
      refine rn_ic_ge (t := 91) (pc' := 55) rfl rfl rfl (fun h1 => ?_) (fun h1 => ?_)
      · refine rn_iconst (pc' := 92) (v := 0) rfl rfl (by decide) ?_
        refine rn_istore_n (pc' := 93) rfl rfl rfl (Nat.le_of_ble_eq_true rfl) rfl ?_
        refine rn_iconst (pc' := 94) (v := 0) rfl rfl (by decide) ?_
        refine rn_istore (pc' := 96) rfl rfl rfl (Nat.le_of_ble_eq_true rfl) rfl ?_
        exact this
      · exact absurd ((lt24 (by omega)).mp h1) (by omega)
    | succ m ih =>
      intro i hi
      have hi24 : i < 24 := by omega
      have ih := ih (i + 1) (by omega)
      by_cases hl : 0 < rpid N i
      · obtain ⟨g, hg1, hg2⟩ := hGN i hi24 hl
        have e1 : woF N (i + 1) = upd (woF N i) g (bI (orph N (rgrp N i))) := by
          show (if 0 < rpid N i then _ else _) = _
          rw [if_pos hl, hg2, nI_clamp (by omega)]
        rw [e1] at ih
        have nx : Rn (d + 2) 84 (85, [some (vR 20 0), some (vI (nI e)), some (vI how), some (vI (nI i)), none, none], [], mRow N 49 0 (upd (woF N i) g (bI (orph N (rgrp N i))))) (fun r M' => r = none ∧ M' = tlF 999 1 (f_end0 N e how)) := by
          refine rn_iinc (pc' := 88) rfl rfl rfl (nI_inc _) rfl (Nat.le_of_ble_eq_true rfl) rfl ?_
          refine rn_goto (pc' := 49) rfl rfl ?_
          exact ih
        refine rn_iload_n (pc' := 50) rfl rfl rfl ?_
        refine rn_bipush (pc' := 52) (v := 24) rfl rfl (by decide) ?_
        refine rn_ic_ge (t := 91) (pc' := 55) rfl rfl rfl (fun h1 => ?_) (fun h1 => ?_)
        · exact absurd ((lt24 (by omega)).mpr hi24) h1
        · refine rn_aload_n (pc' := 56) rfl rfl rfl ?_
          refine rn_getF (N := 1) (t' := 25) (pc' := 59) rfl rfl rfl rfl rfl (by first | assumption | decide | omega) ?_
          refine rn_iload_n (pc' := 60) rfl rfl rfl ?_
          refine rn_iald (N := 1) (K := 24) (pc' := 61) rfl rfl ⟨rfl, rfl⟩ rfl (by first | assumption | decide | omega) rfl (by decide) rfl (by first | assumption | decide | omega) ?_
          refine rn_if_le (t := 85) (pc' := 64) rfl rfl rfl (fun h2 => ?_) (fun h2 => ?_)
          · first | exact absurd hl h2 | (rw [mRow_put]; exact nx)
          · refine rn_aload_n (pc' := 65) rfl rfl rfl ?_
            refine rn_getF (N := 1) (t' := 49) (pc' := 68) rfl rfl rfl rfl rfl (by first | assumption | decide | omega) ?_
            refine rn_aload_n (pc' := 69) rfl rfl rfl ?_
            refine rn_getF (N := 1) (t' := 27) (pc' := 72) rfl rfl rfl rfl rfl (by first | assumption | decide | omega) ?_
            refine rn_iload_n (pc' := 73) rfl rfl rfl ?_
            refine rn_iald (N := 1) (K := 24) (pc' := 74) rfl rfl ⟨rfl, rfl⟩ rfl (by first | assumption | decide | omega) rfl (by decide) rfl (by first | assumption | decide | omega) ?_
            refine rn_aload_n (pc' := 75) rfl rfl rfl ?_
            refine rn_aload_n (pc' := 76) rfl rfl rfl ?_
            refine rn_getF (N := 1) (t' := 27) (pc' := 79) rfl rfl rfl rfl rfl (by first | assumption | decide | omega) ?_
            refine rn_iload_n (pc' := 80) rfl rfl rfl ?_
            refine rn_iald (N := 1) (K := 24) (pc' := 81) rfl rfl ⟨rfl, rfl⟩ rfl (by first | assumption | decide | omega) rfl (by decide) rfl (by first | assumption | decide | omega) ?_
            refine rn_callV (pc' := 84) (as := [_]) rfl rfl rfl ⟨Nat.le_of_ble_eq_true rfl, rfl, rfl⟩ rfl (by first | assumption | decide | omega) (Nat.le_of_ble_eq_true rfl) (Nat.le_of_ble_eq_true rfl) rfl (r_isOrphaned _ _) (fun r3 M3 hz => ?_)
            obtain ⟨rfl, hm_⟩ := hz
            refine rn_mem hm_ ?_
            clear hm_
            refine rn_topI (congrArg bI (hG1 (woF N i) _)) ?_
            refine rn_bast (k := g) (N := 1) (K := 1000) (pc' := 85) rfl rfl ⟨rfl, rfl⟩ rfl (by first | assumption | decide | omega) rfl (by decide) (hg2) (by first | assumption | decide | omega) (bI_01 _) ?_
            first | exact absurd hl h2 | (rw [mRow_put]; exact nx)
      · have e1 : woF N (i + 1) = woF N i := by
          show (if 0 < rpid N i then _ else _) = _
          rw [if_neg hl]
        rw [e1] at ih
        refine rn_iload_n (pc' := 50) rfl rfl rfl ?_
        refine rn_bipush (pc' := 52) (v := 24) rfl rfl (by decide) ?_
        refine rn_ic_ge (t := 91) (pc' := 55) rfl rfl rfl (fun h1 => ?_) (fun h1 => ?_)
        · exact absurd ((lt24 (by omega)).mpr hi24) h1
        · refine rn_aload_n (pc' := 56) rfl rfl rfl ?_
          refine rn_getF (N := 1) (t' := 25) (pc' := 59) rfl rfl rfl rfl rfl (by first | assumption | decide | omega) ?_
          refine rn_iload_n (pc' := 60) rfl rfl rfl ?_
          refine rn_iald (N := 1) (K := 24) (pc' := 61) rfl rfl ⟨rfl, rfl⟩ rfl (by first | assumption | decide | omega) rfl (by decide) rfl (by first | assumption | decide | omega) ?_
          refine rn_if_le (t := 85) (pc' := 64) rfl rfl rfl (fun h2 => ?_) (fun h2 => ?_)
          · refine rn_iinc (pc' := 88) rfl rfl rfl (nI_inc _) rfl (Nat.le_of_ble_eq_true rfl) rfl ?_
            refine rn_goto (pc' := 49) rfl rfl ?_
            exact ih
          · exact absurd h2 hl
  have s2 : ∀ m i : Nat, i + m = 1000 → 1 ≤ i → Rn (d + 2) 84 (27, [some (vR 20 0), some (vI (nI e)), some (vI how), some (vI (nI i)), none, none], [], mRow N 49 0 (fun g => if 1 ≤ g ∧ g < i then 1 else N.1 49 0 g)) (fun r M' => r = none ∧ M' = tlF 999 1 (f_end0 N e how)) := by
    intro m
    induction m with
    | zero =>
      intro i hi h1i
      obtain rfl : i = 1000 := by omega
      refine rn_iload_n (pc' := 28) rfl rfl rfl ?_
      refine rn_sipush (pc' := 31) (v := 1000) rfl rfl (by decide) ?_
      refine rn_ic_ge (t := 47) (pc' := 34) rfl rfl rfl (fun h1 => ?_) (fun h1 => ?_)
      · refine rn_iconst (pc' := 48) (v := 0) rfl rfl (by decide) ?_
        refine rn_istore_n (pc' := 49) rfl rfl rfl (Nat.le_of_ble_eq_true rfl) rfl ?_
        exact s3 24 0 rfl
      · exact absurd ((lt1000 (by omega)).mp h1) (by omega)
    | succ m ih =>
      intro i hi h1i
      have hi24 : i < 1000 := by omega
      have ih := ih (i + 1) (by omega) (by omega)
      have e1 : upd (fun g => if 1 ≤ g ∧ g < i then 1 else N.1 49 0 g) i 1 = (fun g => if 1 ≤ g ∧ g < i + 1 then 1 else N.1 49 0 g) := by
        funext k
        unfold upd
        by_cases hk : k = i
        · subst hk
          simp only [if_true]
          rw [if_pos ⟨h1i, Nat.lt_succ_self _⟩]
        · by_cases hk2 : 1 ≤ k ∧ k < i
          · simp only [if_neg hk, if_pos hk2, if_pos (show 1 ≤ k ∧ k < i + 1 by omega)]
          · simp only [if_neg hk, if_neg hk2, if_neg (show ¬ (1 ≤ k ∧ k < i + 1) by omega)]
      refine rn_iload_n (pc' := 28) rfl rfl rfl ?_
      refine rn_sipush (pc' := 31) (v := 1000) rfl rfl (by decide) ?_
      refine rn_ic_ge (t := 47) (pc' := 34) rfl rfl rfl (fun h1 => ?_) (fun h1 => ?_)
      · exact absurd ((lt1000 (by omega)).mpr hi24) h1
      · refine rn_aload_n (pc' := 35) rfl rfl rfl ?_
        refine rn_getF (N := 1) (t' := 49) (pc' := 38) rfl rfl rfl rfl rfl (by first | assumption | decide | omega) ?_
        refine rn_iload_n (pc' := 39) rfl rfl rfl ?_
        refine rn_iconst (pc' := 40) (v := 1) rfl rfl (by decide) ?_
        refine rn_bast (N := 1) (K := 1000) (pc' := 41) rfl rfl ⟨rfl, rfl⟩ rfl (by first | assumption | decide | omega) rfl (by decide) rfl (by first | assumption | decide | omega) (by decide) ?_
        rw [mRow_put, e1]
        refine rn_iinc (pc' := 44) rfl rfl rfl (nI_inc _) rfl (Nat.le_of_ble_eq_true rfl) rfl ?_
        refine rn_goto (pc' := 27) rfl rfl ?_
        exact ih
  have s2 := s2 999 1 rfl (Nat.le_refl _)
  have e0 : mRow N 49 0 (fun g => if 1 ≤ g ∧ g < 1 then 1 else N.1 49 0 g) = N := by
    have e2 : (fun g => if 1 ≤ g ∧ g < 1 then 1 else N.1 49 0 g) = N.1 49 0 := by
      funext k; rw [if_neg (by omega)]
    rw [e2, mRow_id]
  rw [e0, ← hM0] at s2
  rw [← hM0]
  show Rn _ 84 (0, [some (vR 20 0), some (vI (nI e)), some (vI how), none, none, none], [], _) _
  refine rn_aload_n (pc' := 1) rfl rfl rfl ?_
  refine rn_dupA (pc' := 2) rfl rfl ?_
  refine rn_getI (N := 1) (pc' := 5) rfl rfl rfl rfl (by decide) rfl (by first | assumption | decide | omega) ?_
  refine rn_iconst (pc' := 6) (v := 1) rfl rfl (by decide) ?_
  refine rn_iadd (pc' := 7) rfl rfl ?_
  refine rn_putI (N := 1) (pc' := 10) rfl rfl rfl rfl rfl (by first | assumption | decide | omega) ?_
  refine rn_aload_n (pc' := 11) rfl rfl rfl ?_
  refine rn_getF (N := 1) (t' := 25) (pc' := 14) rfl rfl rfl rfl rfl (by first | assumption | decide | omega) ?_
  refine rn_iload_n (pc' := 15) rfl rfl rfl ?_
  refine rn_iald (N := 1) (K := 24) (pc' := 16) rfl rfl ⟨rfl, rfl⟩ rfl (by first | assumption | decide | omega) rfl (by decide) rfl (by first | assumption | decide | omega) ?_
  refine rn_iconst (pc' := 17) (v := 1) rfl rfl (by decide) ?_
  refine rn_ic_ne (t := 25) (pc' := 20) rfl rfl rfl (fun h1 => ?_) (fun h1 => ?_)
  · refine rn_iconst (pc' := 26) (v := 1) rfl rfl (by decide) ?_
    refine rn_istore_n (pc' := 27) rfl rfl rfl (Nat.le_of_ble_eq_true rfl) rfl ?_
    exact s2
  · exact absurd h1 hp1
end
section
/-! THE REFERENCE: what a signal does -/
abbrev rpnd (M : xM) (e : Nat) : Int32 := M.1 33 0 e
abbrev rblk (M : xM) (e : Nat) : Int32 := M.1 34 0 e
abbrev rdoe (M : xM) (e s : Nat) : Int32 := M.1 32 0 (21 * e + s)
def f_stop1 (M : xM) (e s : Nat) : xM := mI (mI (mI M 28 0 e 3) 40 0 e (nI s)) 41 0 e 0
def f_stop (M : xM) (e s : Nat) : xM := f_sendTo (f_wake (f_stop1 M e s) (rpar (f_stop1 M e s) e)) (rpar (f_wake (f_stop1 M e s) (rpar (f_stop1 M e s) e)) e) 17
def f_happen (M : xM) (e s : Nat) : xM := if rdoe M e s = 1 ∨ nI s = 17 ∨ nI s = 18 ∨ rpid M e = 1 then M else if ¬ nI s = 19 ∧ ¬ nI s = 20 then f_end M e (nI s) else if rste M e = 3 then M else f_stop M e s
/-- what the reference's methods need of a memory: groups are numbers below 1000 -/
def gOk (M : xM) : Prop := ∀ k, k < 24 → 0 < rpid M k → ∃ g, g < 1000 ∧ rgrp M k = nI g
theorem r_happen {d e s n : Nat} (M : xM) (he : e < 24) (hs : s < 21) (hG : gOk M) (hn : rok M n) (hn4 : n < 4000) (hf : ∃ n', rok (f_happen M e s) n' ∧ n' ≤ 4000) : Rn (d + 3) 81 (0, xen 81 [vR 20 0, vI (nI e), vI (nI s)], [], M) (fun r M' => r = none ∧ M' = f_happen M e s) := by
  show Rn _ 81 (0, [some (vR 20 0), some (vI (nI e)), some (vI (nI s))], [], _) _
  have stop : ¬ (rdoe M e s = 1 ∨ nI s = 17 ∨ nI s = 18 ∨ rpid M e = 1) → ¬ (¬ nI s = 19 ∧ ¬ nI s = 20) → Rn (d + 3) 81 (59, [some (vR 20 0), some (vI (nI e)), some (vI (nI s))], [], M) (fun r M' => r = none ∧ M' = f_happen M e s) := by
    intro q1 q2
    have e1 : f_happen M e s = if rste M e = 3 then M else f_stop M e s := by unfold f_happen; rw [if_neg q1, if_neg q2]
    rw [e1]
    have hw : rok (f_wake (f_stop1 M e s) (rpar (f_stop1 M e s) e)) n := by unfold rok; rw [wake_29]; exact hn
    refine rn_aload_n (pc' := 60) rfl rfl rfl ?_
    refine rn_getF (N := 1) (t' := 28) (pc' := 63) rfl rfl rfl rfl rfl (by first | assumption | decide | omega) ?_
    refine rn_iload_n (pc' := 64) rfl rfl rfl ?_
    refine rn_iald (N := 1) (K := 24) (pc' := 65) rfl rfl ⟨rfl, rfl⟩ rfl (by first | assumption | decide | omega) rfl (by decide) rfl (by first | assumption | decide | omega) ?_
    refine rn_iconst (pc' := 66) (v := 3) rfl rfl (by decide) ?_
    refine rn_ic_eq (t := 112) (pc' := 69) rfl rfl rfl (fun h1 => ?_) (fun h1 => ?_)
    · refine rn_return rfl rfl ?_
      first | exact ⟨rfl, by rw [if_pos h1]⟩ | exact ⟨rfl, by rw [if_neg h1]; rfl⟩
    · refine rn_aload_n (pc' := 70) rfl rfl rfl ?_
      refine rn_getF (N := 1) (t' := 28) (pc' := 73) rfl rfl rfl rfl rfl (by first | assumption | decide | omega) ?_
      refine rn_iload_n (pc' := 74) rfl rfl rfl ?_
      refine rn_iconst (pc' := 75) (v := 3) rfl rfl (by decide) ?_
      refine rn_iast (N := 1) (K := 24) (pc' := 76) rfl rfl ⟨rfl, rfl⟩ rfl (by first | assumption | decide | omega) rfl (by decide) rfl (by first | assumption | decide | omega) ?_
      refine rn_aload_n (pc' := 77) rfl rfl rfl ?_
      refine rn_getF (N := 1) (t' := 40) (pc' := 80) rfl rfl rfl rfl rfl (by first | assumption | decide | omega) ?_
      refine rn_iload_n (pc' := 81) rfl rfl rfl ?_
      refine rn_iload_n (pc' := 82) rfl rfl rfl ?_
      refine rn_iast (N := 1) (K := 24) (pc' := 83) rfl rfl ⟨rfl, rfl⟩ rfl (by first | assumption | decide | omega) rfl (by decide) rfl (by first | assumption | decide | omega) ?_
      refine rn_aload_n (pc' := 84) rfl rfl rfl ?_
      refine rn_getF (N := 1) (t' := 41) (pc' := 87) rfl rfl rfl rfl rfl (by first | assumption | decide | omega) ?_
      refine rn_iload_n (pc' := 88) rfl rfl rfl ?_
      refine rn_iconst (pc' := 89) (v := 0) rfl rfl (by decide) ?_
      refine rn_bast (N := 1) (K := 24) (pc' := 90) rfl rfl ⟨rfl, rfl⟩ rfl (by first | assumption | decide | omega) rfl (by decide) rfl (by first | assumption | decide | omega) (by decide) ?_
      refine rn_aload_n (pc' := 91) rfl rfl rfl ?_
      refine rn_aload_n (pc' := 92) rfl rfl rfl ?_
      refine rn_getF (N := 1) (t' := 26) (pc' := 95) rfl rfl rfl rfl rfl (by first | assumption | decide | omega) ?_
      refine rn_iload_n (pc' := 96) rfl rfl rfl ?_
      refine rn_iald (N := 1) (K := 24) (pc' := 97) rfl rfl ⟨rfl, rfl⟩ rfl (by first | assumption | decide | omega) rfl (by decide) rfl (by first | assumption | decide | omega) ?_
      refine rn_callV (pc' := 100) (as := [_]) rfl rfl rfl ⟨Nat.le_of_ble_eq_true rfl, rfl, rfl⟩ rfl (by first | assumption | decide | omega) (Nat.le_of_ble_eq_true rfl) (Nat.le_of_ble_eq_true rfl) rfl (r_wake (f_stop1 M e s) _) (fun r2 M2 hz => ?_)
      obtain ⟨rfl, hm_⟩ := hz
      refine rn_mem hm_ ?_
      clear hm_
      refine rn_aload_n (pc' := 101) rfl rfl rfl ?_
      refine rn_aload_n (pc' := 102) rfl rfl rfl ?_
      refine rn_getF (N := 1) (t' := 26) (pc' := 105) rfl rfl rfl rfl rfl (by first | assumption | decide | omega) ?_
      refine rn_iload_n (pc' := 106) rfl rfl rfl ?_
      refine rn_iald (N := 1) (K := 24) (pc' := 107) rfl rfl ⟨rfl, rfl⟩ rfl (by first | assumption | decide | omega) rfl (by decide) rfl (by first | assumption | decide | omega) ?_
      refine rn_bipush (pc' := 109) (v := 17) rfl rfl (by decide) ?_
      refine rn_callV (pc' := 112) (as := [_, _]) rfl rfl rfl ⟨Nat.le_of_ble_eq_true rfl, rfl, rfl⟩ rfl (by first | assumption | decide | omega) (Nat.le_of_ble_eq_true rfl) (Nat.le_of_ble_eq_true rfl) rfl (r_sendTo _ _ 17 hw hn4) (fun r3 M3 hz => ?_)
      obtain ⟨rfl, hm_⟩ := hz
      refine rn_mem hm_ ?_
      clear hm_
      refine rn_return rfl rfl ?_
      first | exact ⟨rfl, by rw [if_pos h1]⟩ | exact ⟨rfl, by rw [if_neg h1]; rfl⟩
  have fin : ¬ (rdoe M e s = 1 ∨ nI s = 17 ∨ nI s = 18 ∨ rpid M e = 1) → (¬ nI s = 19 ∧ ¬ nI s = 20) → Rn (d + 3) 81 (50, [some (vR 20 0), some (vI (nI e)), some (vI (nI s))], [], M) (fun r M' => r = none ∧ M' = f_happen M e s) := by
    intro q1 q2
    have e1 : f_happen M e s = f_end M e (nI s) := by unfold f_happen; rw [if_neg q1, if_pos q2]
    rw [e1] at hf ⊢
    refine rn_aload_n (pc' := 51) rfl rfl rfl ?_
    refine rn_iload_n (pc' := 52) rfl rfl rfl ?_
    refine rn_iload_n (pc' := 53) rfl rfl rfl ?_
    refine rn_callV (pc' := 56) (as := [_, _]) rfl rfl rfl ⟨Nat.le_of_ble_eq_true rfl, rfl, rfl⟩ rfl (by first | assumption | decide | omega) (Nat.le_of_ble_eq_true rfl) (Nat.le_of_ble_eq_true rfl) rfl (r_end M (nI s) he hG hn hn4 (fun _ => hf)) (fun r1 M1 hz => ?_)
    obtain ⟨rfl, hm_⟩ := hz
    refine rn_mem hm_ ?_
    clear hm_
    refine rn_goto (pc' := 112) rfl rfl ?_
    refine rn_return rfl rfl ?_
    exact ⟨rfl, rfl⟩
  refine rn_aload_n (pc' := 1) rfl rfl rfl ?_
  refine rn_getF (N := 1) (t' := 32) (pc' := 4) rfl rfl rfl rfl rfl (by first | assumption | decide | omega) ?_
  refine rn_bipush (pc' := 6) (v := 21) rfl rfl (by decide) ?_
  refine rn_iload_n (pc' := 7) rfl rfl rfl ?_
  refine rn_imul (pc' := 8) rfl rfl ?_
  refine rn_iload_n (pc' := 9) rfl rfl rfl ?_
  refine rn_iadd (pc' := 10) rfl rfl ?_
  refine rn_iald (k := 21 * e + s) (N := 1) (K := 504) (pc' := 11) rfl rfl ⟨rfl, rfl⟩ rfl (by first | assumption | decide | omega) rfl (by decide) (ix21 e s) (by first | assumption | decide | omega) ?_
  refine rn_iconst (pc' := 12) (v := 1) rfl rfl (by decide) ?_
  refine rn_ic_eq (t := 37) (pc' := 15) rfl rfl rfl (fun h1 => ?_) (fun h1 => ?_)
  · refine rn_return rfl rfl ?_
    exact ⟨rfl, by unfold f_happen; rw [if_pos (by simp [rdoe, rpid, *])]⟩
  · refine rn_iload_n (pc' := 16) rfl rfl rfl ?_
    refine rn_bipush (pc' := 18) (v := 17) rfl rfl (by decide) ?_
    refine rn_ic_eq (t := 37) (pc' := 21) rfl rfl rfl (fun h2 => ?_) (fun h2 => ?_)
    · refine rn_return rfl rfl ?_
      exact ⟨rfl, by unfold f_happen; rw [if_pos (by simp [rdoe, rpid, *])]⟩
    · refine rn_iload_n (pc' := 22) rfl rfl rfl ?_
      refine rn_bipush (pc' := 24) (v := 18) rfl rfl (by decide) ?_
      refine rn_ic_eq (t := 37) (pc' := 27) rfl rfl rfl (fun h3 => ?_) (fun h3 => ?_)
      · refine rn_return rfl rfl ?_
        exact ⟨rfl, by unfold f_happen; rw [if_pos (by simp [rdoe, rpid, *])]⟩
      · refine rn_aload_n (pc' := 28) rfl rfl rfl ?_
        refine rn_getF (N := 1) (t' := 25) (pc' := 31) rfl rfl rfl rfl rfl (by first | assumption | decide | omega) ?_
        refine rn_iload_n (pc' := 32) rfl rfl rfl ?_
        refine rn_iald (N := 1) (K := 24) (pc' := 33) rfl rfl ⟨rfl, rfl⟩ rfl (by first | assumption | decide | omega) rfl (by decide) rfl (by first | assumption | decide | omega) ?_
        refine rn_iconst (pc' := 34) (v := 1) rfl rfl (by decide) ?_
        refine rn_ic_ne (t := 38) (pc' := 37) rfl rfl rfl (fun h4 => ?_) (fun h4 => ?_)
        · refine rn_iload_n (pc' := 39) rfl rfl rfl ?_
          refine rn_bipush (pc' := 41) (v := 19) rfl rfl (by decide) ?_
          refine rn_ic_eq (t := 59) (pc' := 44) rfl rfl rfl (fun h5 => ?_) (fun h5 => ?_)
          · exact stop (by simp [rdoe, rpid, *]) (by simp [*])
          · refine rn_iload_n (pc' := 45) rfl rfl rfl ?_
            refine rn_bipush (pc' := 47) (v := 20) rfl rfl (by decide) ?_
            refine rn_ic_eq (t := 59) (pc' := 50) rfl rfl rfl (fun h6 => ?_) (fun h6 => ?_)
            · exact stop (by simp [rdoe, rpid, *]) (by simp [*])
            · refine fin (by simp [rdoe, rpid, *]) ⟨h5, h6⟩
        · refine rn_return rfl rfl ?_
          exact ⟨rfl, by unfold f_happen; rw [if_pos (by simp [rdoe, rpid, *])]⟩
def f_cont (M : xM) (e : Nat) : xM := mI (mI M 33 0 e (rpnd M e &&& (-1572865))) 28 0 e (if rste M e = 3 then 0 else rste M e)
def f_pre (M : xM) (e s : Nat) : xM := if nI s = 18 then f_cont M e else if nI s = 19 ∨ nI s = 20 then mI M 33 0 e (rpnd M e &&& (-262145)) else M
def blkd (M : xM) (e s : Nat) : Bool := decide ((rblk M e >>> (nI s &&& 31)) &&& 1 = 1)
def hdl (M : xM) (e s : Nat) : Bool := decide (1 < rdoe M e s)
def f_pend (M : xM) (e s : Nat) : xM := mI M 33 0 e (rpnd M e ||| ((1 : Int32) <<< (nI s &&& 31)))
def f_intr (M : xM) (e : Nat) : xM := mI (mI (mI M 28 0 e 0) 31 0 (8 * e + (M.1 43 0 e).toNatClampNeg) (-4)) 30 0 e (M.1 44 0 e)
def f_come2 (M : xM) (e s : Nat) : xM := if blkd M e s = false ∧ hdl M e s = false then f_happen M e s else if blkd M e s = false ∧ (rste M e = 1 ∨ rste M e = 2) then f_intr (f_pend M e s) e else f_pend M e s
def f_come (M : xM) (e s : Nat) : xM := f_come2 (f_pre M e s) e s
def wOk (M : xM) : Prop := ∀ e, e < 24 → (rste M e = 1 ∨ rste M e = 2) → ∃ w, w < 8 ∧ M.1 43 0 e = nI w
theorem pre_rows (M : xM) (e s : Nat) : (f_pre M e s).1 20 = M.1 20 ∧ (f_pre M e s).1 25 = M.1 25 ∧ (f_pre M e s).1 27 = M.1 27 ∧ (f_pre M e s).1 43 = M.1 43 ∧ ∀ k, (f_pre M e s).1 28 0 k = M.1 28 0 k ∨ (f_pre M e s).1 28 0 k = 0 := by
  unfold f_pre
  split
  · refine ⟨rfl, rfl, rfl, rfl, fun k => ?_⟩
    by_cases hk : k = e
    · subst hk
      by_cases h3 : rste M k = 3
      · right
        simp [f_cont, mI, xu, h3]
      · left
        simp [f_cont, mI, xu, h3]
    · left
      simp [f_cont, mI, xu, hk]
  · split
    · exact ⟨rfl, rfl, rfl, rfl, fun k => Or.inl rfl⟩
    · exact ⟨rfl, rfl, rfl, rfl, fun k => Or.inl rfl⟩
theorem ix8 (u s : Nat) : (8 : Int32) * nI u + nI s = nI (8 * u + s) := by
  show nI 8 * nI u + nI s = _
  rw [pk_mul, nI_add]
theorem r_come {d e s n : Nat} (M : xM) (he : e < 24) (hs : s < 21) (hG : gOk M) (hW : wOk M) (hn : rok M n) (hn4 : n < 4000) (hf : ∃ n', rok (f_come M e s) n' ∧ n' ≤ 4000) : Rn (d + 4) 80 (0, xen 80 [vR 20 0, vI (nI e), vI (nI s)], [], M) (fun r M' => r = none ∧ M' = f_come M e s) := by
  have main : Rn (d + 4) 80 (69, [some (vR 20 0), some (vI (nI e)), some (vI (nI s)), none, none], [], f_pre M e s) (fun r M' => r = none ∧ M' = f_come M e s) := by
    unfold f_come at hf ⊢
    obtain ⟨p20, p25, p27, p43, p28⟩ := pre_rows M e s
    generalize f_pre M e s = N at *
    have hGN : gOk N := fun k hk hp => by
      have := hG k hk (by unfold rpid; rw [← p25]; exact hp)
      unfold rgrp at this ⊢
      rw [p27]; exact this
    have hnN : rok N n := by unfold rok; rw [p20]; exact hn
    have hWN : (rste N e = 1 ∨ rste N e = 2) → ∃ w, w < 8 ∧ N.1 43 0 e = nI w := fun h => by
      rw [p43]
      refine hW e he ?_
      rcases p28 e with q | q
      · unfold rste at h ⊢; rw [← q]; exact h
      · unfold rste at h; rw [q] at h; exact absurd h (by decide)
    have fin : ∀ x4, Rn (d + 4) 80 (111, [some (vR 20 0), some (vI (nI e)), some (vI (nI s)), some (vI (bI (blkd N e s))), some (vI (bI (hdl N e s)))], x4, N) (fun r M' => r = none ∧ M' = f_come2 N e s) ∨ x4 ≠ [] := by
      intro x4
      by_cases hx4 : x4 = []
      · left
        subst hx4
        have p1 : ¬ (blkd N e s = false ∧ hdl N e s = false) → Rn (d + 4) 80 (127, [some (vR 20 0), some (vI (nI e)), some (vI (nI s)), some (vI (bI (blkd N e s))), some (vI (bI (hdl N e s)))], [], N) (fun r M' => r = none ∧ M' = f_come2 N e s) := by
          intro q
          have e1 : f_come2 N e s = if blkd N e s = false ∧ (rste N e = 1 ∨ rste N e = 2) then f_intr (f_pend N e s) e else f_pend N e s := by unfold f_come2; rw [if_neg q]
          rw [e1]
          have p2 : blkd N e s = false → (rste N e = 1 ∨ rste N e = 2) → Rn (d + 4) 80 (163, [some (vR 20 0), some (vI (nI e)), some (vI (nI s)), some (vI (bI (blkd N e s))), some (vI (bI (hdl N e s)))], [], f_pend N e s) (fun r M' => r = none ∧ M' = f_intr (f_pend N e s) e) := by
            intro q1 q2
            obtain ⟨w, hw, hw2⟩ := hWN q2
            have hcl : ((f_pend N e s).1 43 0 e).toNatClampNeg = w := by
              show (N.1 43 0 e).toNatClampNeg = w
              rw [hw2]; exact nI_clamp (by omega)
            refine rn_aload_n (pc' := 164) rfl rfl rfl ?_
            refine rn_getF (N := 1) (t' := 28) (pc' := 167) rfl rfl rfl rfl rfl (by first | assumption | decide | omega) ?_
            refine rn_iload_n (pc' := 168) rfl rfl rfl ?_
            refine rn_iconst (pc' := 169) (v := 0) rfl rfl (by decide) ?_
            refine rn_iast (N := 1) (K := 24) (pc' := 170) rfl rfl ⟨rfl, rfl⟩ rfl (by first | assumption | decide | omega) rfl (by decide) rfl (by first | assumption | decide | omega) ?_
            refine rn_aload_n (pc' := 171) rfl rfl rfl ?_
            refine rn_getF (N := 1) (t' := 31) (pc' := 174) rfl rfl rfl rfl rfl (by first | assumption | decide | omega) ?_
            refine rn_bipush (pc' := 176) (v := 8) rfl rfl (by decide) ?_
            refine rn_iload_n (pc' := 177) rfl rfl rfl ?_
            refine rn_imul (pc' := 178) rfl rfl ?_
            refine rn_aload_n (pc' := 179) rfl rfl rfl ?_
            refine rn_getF (N := 1) (t' := 43) (pc' := 182) rfl rfl rfl rfl rfl (by first | assumption | decide | omega) ?_
            refine rn_iload_n (pc' := 183) rfl rfl rfl ?_
            refine rn_iald (N := 1) (K := 24) (pc' := 184) rfl rfl ⟨rfl, rfl⟩ rfl (by first | assumption | decide | omega) rfl (by decide) rfl (by first | assumption | decide | omega) ?_
            refine rn_topI (y := nI w) hw2 ?_
            refine rn_iadd (pc' := 185) rfl rfl ?_
            refine rn_bipush (pc' := 187) (v := (-4)) rfl rfl (by decide) ?_
            refine rn_iast (k := 8 * e + w) (N := 1) (K := 192) (pc' := 188) rfl rfl ⟨rfl, rfl⟩ rfl (by first | assumption | decide | omega) rfl (by decide) (ix8 e w) (by first | assumption | decide | omega) ?_
            refine rn_aload_n (pc' := 189) rfl rfl rfl ?_
            refine rn_getF (N := 1) (t' := 30) (pc' := 192) rfl rfl rfl rfl rfl (by first | assumption | decide | omega) ?_
            refine rn_iload_n (pc' := 193) rfl rfl rfl ?_
            refine rn_aload_n (pc' := 194) rfl rfl rfl ?_
            refine rn_getF (N := 1) (t' := 44) (pc' := 197) rfl rfl rfl rfl rfl (by first | assumption | decide | omega) ?_
            refine rn_iload_n (pc' := 198) rfl rfl rfl ?_
            refine rn_iald (N := 1) (K := 24) (pc' := 199) rfl rfl ⟨rfl, rfl⟩ rfl (by first | assumption | decide | omega) rfl (by decide) rfl (by first | assumption | decide | omega) ?_
            refine rn_iast (N := 1) (K := 24) (pc' := 200) rfl rfl ⟨rfl, rfl⟩ rfl (by first | assumption | decide | omega) rfl (by decide) rfl (by first | assumption | decide | omega) ?_
            refine rn_return rfl rfl ?_
            exact ⟨rfl, by unfold f_intr; rw [hcl]; rfl⟩
          by_cases q1 : blkd N e s = false
          · by_cases q2 : rste N e = 1 ∨ rste N e = 2
            · have p2 := p2 q1 q2
              rw [if_pos ⟨q1, q2⟩]
              refine rn_aload_n (pc' := 128) rfl rfl rfl ?_
              refine rn_getF (N := 1) (t' := 33) (pc' := 131) rfl rfl rfl rfl rfl (by first | assumption | decide | omega) ?_
              refine rn_iload_n (pc' := 132) rfl rfl rfl ?_
              refine rn_dup2 (pc' := 133) rfl rfl ?_
              refine rn_iald (N := 1) (K := 24) (pc' := 134) rfl rfl ⟨rfl, rfl⟩ rfl (by first | assumption | decide | omega) rfl (by decide) rfl (by first | assumption | decide | omega) ?_
              refine rn_iconst (pc' := 135) (v := 1) rfl rfl (by decide) ?_
              refine rn_iload_n (pc' := 136) rfl rfl rfl ?_
              refine rn_ishl (pc' := 137) rfl rfl ?_
              refine rn_ior (pc' := 138) rfl rfl ?_
              refine rn_iast (N := 1) (K := 24) (pc' := 139) rfl rfl ⟨rfl, rfl⟩ rfl (by first | assumption | decide | omega) rfl (by decide) rfl (by first | assumption | decide | omega) ?_
              refine rn_iload_n (pc' := 140) rfl rfl rfl ?_
              refine rn_if_ne (t := 200) (pc' := 143) rfl rfl rfl (fun h1 => ?_) (fun h1 => ?_)
              · refine rn_return rfl rfl ?_
                first | exact absurd ((bI_0 _).mpr q1) h1 | exact absurd q2 (fun z => z.elim h2 h3)
              · refine rn_aload_n (pc' := 144) rfl rfl rfl ?_
                refine rn_getF (N := 1) (t' := 28) (pc' := 147) rfl rfl rfl rfl rfl (by first | assumption | decide | omega) ?_
                refine rn_iload_n (pc' := 148) rfl rfl rfl ?_
                refine rn_iald (N := 1) (K := 24) (pc' := 149) rfl rfl ⟨rfl, rfl⟩ rfl (by first | assumption | decide | omega) rfl (by decide) rfl (by first | assumption | decide | omega) ?_
                refine rn_iconst (pc' := 150) (v := 1) rfl rfl (by decide) ?_
                refine rn_ic_eq (t := 163) (pc' := 153) rfl rfl rfl (fun h2 => ?_) (fun h2 => ?_)
                · exact p2
                · refine rn_aload_n (pc' := 154) rfl rfl rfl ?_
                  refine rn_getF (N := 1) (t' := 28) (pc' := 157) rfl rfl rfl rfl rfl (by first | assumption | decide | omega) ?_
                  refine rn_iload_n (pc' := 158) rfl rfl rfl ?_
                  refine rn_iald (N := 1) (K := 24) (pc' := 159) rfl rfl ⟨rfl, rfl⟩ rfl (by first | assumption | decide | omega) rfl (by decide) rfl (by first | assumption | decide | omega) ?_
                  refine rn_iconst (pc' := 160) (v := 2) rfl rfl (by decide) ?_
                  refine rn_ic_ne (t := 200) (pc' := 163) rfl rfl rfl (fun h3 => ?_) (fun h3 => ?_)
                  · refine rn_return rfl rfl ?_
                    first | exact absurd ((bI_0 _).mpr q1) h1 | exact absurd q2 (fun z => z.elim h2 h3)
                  · exact p2
            · rw [if_neg (fun z => q2 z.2)]
              refine rn_aload_n (pc' := 128) rfl rfl rfl ?_
              refine rn_getF (N := 1) (t' := 33) (pc' := 131) rfl rfl rfl rfl rfl (by first | assumption | decide | omega) ?_
              refine rn_iload_n (pc' := 132) rfl rfl rfl ?_
              refine rn_dup2 (pc' := 133) rfl rfl ?_
              refine rn_iald (N := 1) (K := 24) (pc' := 134) rfl rfl ⟨rfl, rfl⟩ rfl (by first | assumption | decide | omega) rfl (by decide) rfl (by first | assumption | decide | omega) ?_
              refine rn_iconst (pc' := 135) (v := 1) rfl rfl (by decide) ?_
              refine rn_iload_n (pc' := 136) rfl rfl rfl ?_
              refine rn_ishl (pc' := 137) rfl rfl ?_
              refine rn_ior (pc' := 138) rfl rfl ?_
              refine rn_iast (N := 1) (K := 24) (pc' := 139) rfl rfl ⟨rfl, rfl⟩ rfl (by first | assumption | decide | omega) rfl (by decide) rfl (by first | assumption | decide | omega) ?_
              refine rn_iload_n (pc' := 140) rfl rfl rfl ?_
              refine rn_if_ne (t := 200) (pc' := 143) rfl rfl rfl (fun h1 => ?_) (fun h1 => ?_)
              · refine rn_return rfl rfl ?_
                exact ⟨rfl, rfl⟩
              · refine rn_aload_n (pc' := 144) rfl rfl rfl ?_
                refine rn_getF (N := 1) (t' := 28) (pc' := 147) rfl rfl rfl rfl rfl (by first | assumption | decide | omega) ?_
                refine rn_iload_n (pc' := 148) rfl rfl rfl ?_
                refine rn_iald (N := 1) (K := 24) (pc' := 149) rfl rfl ⟨rfl, rfl⟩ rfl (by first | assumption | decide | omega) rfl (by decide) rfl (by first | assumption | decide | omega) ?_
                refine rn_iconst (pc' := 150) (v := 1) rfl rfl (by decide) ?_
                refine rn_ic_eq (t := 163) (pc' := 153) rfl rfl rfl (fun h2 => ?_) (fun h2 => ?_)
                · first | exact absurd (Or.inl h2) q2 | exact absurd (Or.inr h3) q2
                · refine rn_aload_n (pc' := 154) rfl rfl rfl ?_
                  refine rn_getF (N := 1) (t' := 28) (pc' := 157) rfl rfl rfl rfl rfl (by first | assumption | decide | omega) ?_
                  refine rn_iload_n (pc' := 158) rfl rfl rfl ?_
                  refine rn_iald (N := 1) (K := 24) (pc' := 159) rfl rfl ⟨rfl, rfl⟩ rfl (by first | assumption | decide | omega) rfl (by decide) rfl (by first | assumption | decide | omega) ?_
                  refine rn_iconst (pc' := 160) (v := 2) rfl rfl (by decide) ?_
                  refine rn_ic_ne (t := 200) (pc' := 163) rfl rfl rfl (fun h3 => ?_) (fun h3 => ?_)
                  · refine rn_return rfl rfl ?_
                    exact ⟨rfl, rfl⟩
                  · first | exact absurd (Or.inl h2) q2 | exact absurd (Or.inr h3) q2
          · rw [if_neg (fun z => q1 z.1)]
            refine rn_aload_n (pc' := 128) rfl rfl rfl ?_
            refine rn_getF (N := 1) (t' := 33) (pc' := 131) rfl rfl rfl rfl rfl (by first | assumption | decide | omega) ?_
            refine rn_iload_n (pc' := 132) rfl rfl rfl ?_
            refine rn_dup2 (pc' := 133) rfl rfl ?_
            refine rn_iald (N := 1) (K := 24) (pc' := 134) rfl rfl ⟨rfl, rfl⟩ rfl (by first | assumption | decide | omega) rfl (by decide) rfl (by first | assumption | decide | omega) ?_
            refine rn_iconst (pc' := 135) (v := 1) rfl rfl (by decide) ?_
            refine rn_iload_n (pc' := 136) rfl rfl rfl ?_
            refine rn_ishl (pc' := 137) rfl rfl ?_
            refine rn_ior (pc' := 138) rfl rfl ?_
            refine rn_iast (N := 1) (K := 24) (pc' := 139) rfl rfl ⟨rfl, rfl⟩ rfl (by first | assumption | decide | omega) rfl (by decide) rfl (by first | assumption | decide | omega) ?_
            refine rn_iload_n (pc' := 140) rfl rfl rfl ?_
            refine rn_if_ne (t := 200) (pc' := 143) rfl rfl rfl (fun h1 => ?_) (fun h1 => ?_)
            · refine rn_return rfl rfl ?_
              exact ⟨rfl, rfl⟩
            · exact absurd ((bI_0 _).mp h1) q1
        by_cases q : blkd N e s = false ∧ hdl N e s = false
        · have e1 : f_come2 N e s = f_happen N e s := by unfold f_come2; rw [if_pos q]
          rw [e1] at hf ⊢
          refine rn_iload_n (pc' := 112) rfl rfl rfl ?_
          refine rn_if_ne (t := 127) (pc' := 115) rfl rfl rfl (fun h1 => ?_) (fun h1 => ?_)
          · first | exact absurd ((bI_0 _).mpr q.1) h1 | exact absurd ((bI_0 _).mpr q.2) h2
          · refine rn_iload (pc' := 117) rfl rfl rfl ?_
            refine rn_if_ne (t := 127) (pc' := 120) rfl rfl rfl (fun h2 => ?_) (fun h2 => ?_)
            · first | exact absurd ((bI_0 _).mpr q.1) h1 | exact absurd ((bI_0 _).mpr q.2) h2
            · refine rn_aload_n (pc' := 121) rfl rfl rfl ?_
              refine rn_iload_n (pc' := 122) rfl rfl rfl ?_
              refine rn_iload_n (pc' := 123) rfl rfl rfl ?_
              refine rn_callV (pc' := 126) (as := [_, _]) rfl rfl rfl ⟨Nat.le_of_ble_eq_true rfl, rfl, rfl⟩ rfl (by first | assumption | decide | omega) (Nat.le_of_ble_eq_true rfl) (Nat.le_of_ble_eq_true rfl) rfl (r_happen N he hs hGN hnN hn4 hf) (fun r3 M3 hz => ?_)
              obtain ⟨rfl, hm_⟩ := hz
              refine rn_mem hm_ ?_
              clear hm_
              refine rn_return rfl rfl ?_
              exact ⟨rfl, rfl⟩
        · refine rn_iload_n (pc' := 112) rfl rfl rfl ?_
          refine rn_if_ne (t := 127) (pc' := 115) rfl rfl rfl (fun h1 => ?_) (fun h1 => ?_)
          · exact p1 q
          · refine rn_iload (pc' := 117) rfl rfl rfl ?_
            refine rn_if_ne (t := 127) (pc' := 120) rfl rfl rfl (fun h2 => ?_) (fun h2 => ?_)
            · exact p1 q
            · exact absurd ⟨(bI_0 _).mp h1, (bI_0 _).mp h2⟩ q
      · exact Or.inr hx4
    have fin := (fin []).resolve_right (by simp)
    have k2 : ∀ x, x = bI (hdl N e s) → Rn (d + 4) 80 (109, [some (vR 20 0), some (vI (nI e)), some (vI (nI s)), some (vI (bI (blkd N e s))), none], [vI x], N) (fun r M' => r = none ∧ M' = f_come2 N e s) := by
      intro x hx
      subst hx
      refine rn_istore (pc' := 111) rfl rfl rfl (Nat.le_of_ble_eq_true rfl) rfl ?_
      exact fin
    have k1 : ∀ x, x = bI (blkd N e s) → Rn (d + 4) 80 (88, [some (vR 20 0), some (vI (nI e)), some (vI (nI s)), none, none], [vI x], N) (fun r M' => r = none ∧ M' = f_come2 N e s) := by
      intro x hx
      subst hx
      refine rn_istore_n (pc' := 89) rfl rfl rfl (Nat.le_of_ble_eq_true rfl) rfl ?_
      refine rn_aload_n (pc' := 90) rfl rfl rfl ?_
      refine rn_getF (N := 1) (t' := 32) (pc' := 93) rfl rfl rfl rfl rfl (by first | assumption | decide | omega) ?_
      refine rn_bipush (pc' := 95) (v := 21) rfl rfl (by decide) ?_
      refine rn_iload_n (pc' := 96) rfl rfl rfl ?_
      refine rn_imul (pc' := 97) rfl rfl ?_
      refine rn_iload_n (pc' := 98) rfl rfl rfl ?_
      refine rn_iadd (pc' := 99) rfl rfl ?_
      refine rn_iald (k := 21 * e + s) (N := 1) (K := 504) (pc' := 100) rfl rfl ⟨rfl, rfl⟩ rfl (by first | assumption | decide | omega) rfl (by decide) (ix21 e s) (by first | assumption | decide | omega) ?_
      refine rn_iconst (pc' := 101) (v := 1) rfl rfl (by decide) ?_
      refine rn_ic_le (t := 108) (pc' := 104) rfl rfl rfl (fun h1 => ?_) (fun h1 => ?_)
      · refine rn_iconst (pc' := 109) (v := 0) rfl rfl (by decide) ?_
        refine k2 _ ?_
        simp [hdl, rdoe, bI, *]
      · refine rn_iconst (pc' := 105) (v := 1) rfl rfl (by decide) ?_
        refine rn_goto (pc' := 109) rfl rfl ?_
        refine k2 _ ?_
        simp [hdl, rdoe, bI, *]
    refine rn_aload_n (pc' := 70) rfl rfl rfl ?_
    refine rn_getF (N := 1) (t' := 34) (pc' := 73) rfl rfl rfl rfl rfl (by first | assumption | decide | omega) ?_
    refine rn_iload_n (pc' := 74) rfl rfl rfl ?_
    refine rn_iald (N := 1) (K := 24) (pc' := 75) rfl rfl ⟨rfl, rfl⟩ rfl (by first | assumption | decide | omega) rfl (by decide) rfl (by first | assumption | decide | omega) ?_
    refine rn_iload_n (pc' := 76) rfl rfl rfl ?_
    refine rn_ishr (pc' := 77) rfl rfl ?_
    refine rn_iconst (pc' := 78) (v := 1) rfl rfl (by decide) ?_
    refine rn_iand (pc' := 79) rfl rfl ?_
    refine rn_iconst (pc' := 80) (v := 1) rfl rfl (by decide) ?_
    refine rn_ic_ne (t := 87) (pc' := 83) rfl rfl rfl (fun h1 => ?_) (fun h1 => ?_)
    · refine rn_iconst (pc' := 88) (v := 0) rfl rfl (by decide) ?_
      refine k1 _ ?_
      simp [blkd, rblk, bI, *]
    · refine rn_iconst (pc' := 84) (v := 1) rfl rfl (by decide) ?_
      refine rn_goto (pc' := 88) rfl rfl ?_
      refine k1 _ ?_
      simp [blkd, rblk, bI, *]
  show Rn _ 80 (0, [some (vR 20 0), some (vI (nI e)), some (vI (nI s)), none, none], [], _) _
  unfold f_pre at main
  by_cases q : nI s = 18
  · rw [if_pos q] at main
    have k3 : ∀ x, x = (if rste M e = 3 then 0 else rste M e) → Rn (d + 4) 80 (42, [some (vR 20 0), some (vI (nI e)), some (vI (nI s)), none, none], [vI x, vI (nI e), vR 28 0], mI M 33 0 e (rpnd M e &&& (-1572865))) (fun r M' => r = none ∧ M' = f_come M e s) := by
      intro x hx
      subst hx
      refine rn_iast (N := 1) (K := 24) (pc' := 43) rfl rfl ⟨rfl, rfl⟩ rfl (by first | assumption | decide | omega) rfl (by decide) rfl (by first | assumption | decide | omega) ?_
      refine rn_goto (pc' := 69) rfl rfl ?_
      exact main
    refine rn_iload_n (pc' := 1) rfl rfl rfl ?_
    refine rn_bipush (pc' := 3) (v := 18) rfl rfl (by decide) ?_
    refine rn_ic_ne (t := 46) (pc' := 6) rfl rfl rfl (fun h1 => ?_) (fun h1 => ?_)
    · exact absurd q h1
    · refine rn_aload_n (pc' := 7) rfl rfl rfl ?_
      refine rn_getF (N := 1) (t' := 33) (pc' := 10) rfl rfl rfl rfl rfl (by first | assumption | decide | omega) ?_
      refine rn_iload_n (pc' := 11) rfl rfl rfl ?_
      refine rn_dup2 (pc' := 12) rfl rfl ?_
      refine rn_iald (N := 1) (K := 24) (pc' := 13) rfl rfl ⟨rfl, rfl⟩ rfl (by first | assumption | decide | omega) rfl (by decide) rfl (by first | assumption | decide | omega) ?_
      refine rn_ldc (pc' := 15) (v := (-1572865)) rfl rfl rfl ?_
      refine rn_iand (pc' := 16) rfl rfl ?_
      refine rn_iast (N := 1) (K := 24) (pc' := 17) rfl rfl ⟨rfl, rfl⟩ rfl (by first | assumption | decide | omega) rfl (by decide) rfl (by first | assumption | decide | omega) ?_
      refine rn_aload_n (pc' := 18) rfl rfl rfl ?_
      refine rn_getF (N := 1) (t' := 28) (pc' := 21) rfl rfl rfl rfl rfl (by first | assumption | decide | omega) ?_
      refine rn_iload_n (pc' := 22) rfl rfl rfl ?_
      refine rn_aload_n (pc' := 23) rfl rfl rfl ?_
      refine rn_getF (N := 1) (t' := 28) (pc' := 26) rfl rfl rfl rfl rfl (by first | assumption | decide | omega) ?_
      refine rn_iload_n (pc' := 27) rfl rfl rfl ?_
      refine rn_iald (N := 1) (K := 24) (pc' := 28) rfl rfl ⟨rfl, rfl⟩ rfl (by first | assumption | decide | omega) rfl (by decide) rfl (by first | assumption | decide | omega) ?_
      refine rn_iconst (pc' := 29) (v := 3) rfl rfl (by decide) ?_
      refine rn_ic_ne (t := 36) (pc' := 32) rfl rfl rfl (fun h2 => ?_) (fun h2 => ?_)
      · refine rn_aload_n (pc' := 37) rfl rfl rfl ?_
        refine rn_getF (N := 1) (t' := 28) (pc' := 40) rfl rfl rfl rfl rfl (by first | assumption | decide | omega) ?_
        refine rn_iload_n (pc' := 41) rfl rfl rfl ?_
        refine rn_iald (N := 1) (K := 24) (pc' := 42) rfl rfl ⟨rfl, rfl⟩ rfl (by first | assumption | decide | omega) rfl (by decide) rfl (by first | assumption | decide | omega) ?_
        refine k3 _ ?_
        first | (rw [if_pos (show rste M e = 3 from h2)]; done) | (rw [if_neg (show ¬ rste M e = 3 from h2)]; rfl)
      · refine rn_iconst (pc' := 33) (v := 0) rfl rfl (by decide) ?_
        refine rn_goto (pc' := 42) rfl rfl ?_
        refine k3 _ ?_
        first | (rw [if_pos (show rste M e = 3 from h2)]; done) | (rw [if_neg (show ¬ rste M e = 3 from h2)]; rfl)
  · rw [if_neg q] at main
    by_cases q2 : nI s = 19 ∨ nI s = 20
    · rw [if_pos q2] at main
      refine rn_iload_n (pc' := 1) rfl rfl rfl ?_
      refine rn_bipush (pc' := 3) (v := 18) rfl rfl (by decide) ?_
      refine rn_ic_ne (t := 46) (pc' := 6) rfl rfl rfl (fun h1 => ?_) (fun h1 => ?_)
      · refine rn_iload_n (pc' := 47) rfl rfl rfl ?_
        refine rn_bipush (pc' := 49) (v := 19) rfl rfl (by decide) ?_
        refine rn_ic_eq (t := 58) (pc' := 52) rfl rfl rfl (fun h2 => ?_) (fun h2 => ?_)
        · refine rn_aload_n (pc' := 59) rfl rfl rfl ?_
          refine rn_getF (N := 1) (t' := 33) (pc' := 62) rfl rfl rfl rfl rfl (by first | assumption | decide | omega) ?_
          refine rn_iload_n (pc' := 63) rfl rfl rfl ?_
          refine rn_dup2 (pc' := 64) rfl rfl ?_
          refine rn_iald (N := 1) (K := 24) (pc' := 65) rfl rfl ⟨rfl, rfl⟩ rfl (by first | assumption | decide | omega) rfl (by decide) rfl (by first | assumption | decide | omega) ?_
          refine rn_ldc (pc' := 67) (v := (-262145)) rfl rfl rfl ?_
          refine rn_iand (pc' := 68) rfl rfl ?_
          refine rn_iast (N := 1) (K := 24) (pc' := 69) rfl rfl ⟨rfl, rfl⟩ rfl (by first | assumption | decide | omega) rfl (by decide) rfl (by first | assumption | decide | omega) ?_
          first | exact absurd q2 (fun z => z.elim h2 h3) | exact main
        · refine rn_iload_n (pc' := 53) rfl rfl rfl ?_
          refine rn_bipush (pc' := 55) (v := 20) rfl rfl (by decide) ?_
          refine rn_ic_ne (t := 69) (pc' := 58) rfl rfl rfl (fun h3 => ?_) (fun h3 => ?_)
          · first | exact absurd q2 (fun z => z.elim h2 h3) | exact main
          · refine rn_aload_n (pc' := 59) rfl rfl rfl ?_
            refine rn_getF (N := 1) (t' := 33) (pc' := 62) rfl rfl rfl rfl rfl (by first | assumption | decide | omega) ?_
            refine rn_iload_n (pc' := 63) rfl rfl rfl ?_
            refine rn_dup2 (pc' := 64) rfl rfl ?_
            refine rn_iald (N := 1) (K := 24) (pc' := 65) rfl rfl ⟨rfl, rfl⟩ rfl (by first | assumption | decide | omega) rfl (by decide) rfl (by first | assumption | decide | omega) ?_
            refine rn_ldc (pc' := 67) (v := (-262145)) rfl rfl rfl ?_
            refine rn_iand (pc' := 68) rfl rfl ?_
            refine rn_iast (N := 1) (K := 24) (pc' := 69) rfl rfl ⟨rfl, rfl⟩ rfl (by first | assumption | decide | omega) rfl (by decide) rfl (by first | assumption | decide | omega) ?_
            first | exact absurd q2 (fun z => z.elim h2 h3) | exact main
      · exact absurd h1 q
    · rw [if_neg q2] at main
      refine rn_iload_n (pc' := 1) rfl rfl rfl ?_
      refine rn_bipush (pc' := 3) (v := 18) rfl rfl (by decide) ?_
      refine rn_ic_ne (t := 46) (pc' := 6) rfl rfl rfl (fun h1 => ?_) (fun h1 => ?_)
      · refine rn_iload_n (pc' := 47) rfl rfl rfl ?_
        refine rn_bipush (pc' := 49) (v := 19) rfl rfl (by decide) ?_
        refine rn_ic_eq (t := 58) (pc' := 52) rfl rfl rfl (fun h2 => ?_) (fun h2 => ?_)
        · first | exact absurd (Or.inl h2) q2 | exact absurd (Or.inr h3) q2
        · refine rn_iload_n (pc' := 53) rfl rfl rfl ?_
          refine rn_bipush (pc' := 55) (v := 20) rfl rfl (by decide) ?_
          refine rn_ic_ne (t := 69) (pc' := 58) rfl rfl rfl (fun h3 => ?_) (fun h3 => ?_)
          · exact main
          · first | exact absurd (Or.inl h2) q2 | exact absurd (Or.inr h3) q2
      · exact absurd h1 q
/-! the row -/
def drS (M : xM) : xM := match eo M (M.1 45 0 (M.1 20 0 30).toNatClampNeg) with
  | none => mI M 20 0 30 (M.1 20 0 30 + 1)
  | some e => if rste M e = 4 then mI M 20 0 30 (M.1 20 0 30 + 1) else f_come (mI M 20 0 30 (M.1 20 0 30 + 1)) e (M.1 46 0 (M.1 20 0 30).toNatClampNeg).toNatClampNeg
def drF : Nat → xM → xM
  | 0, M => M
  | k + 1, M => if M.1 20 0 30 < M.1 20 0 29 then drF k (drS M) else M
def f_row (k : Nat) (M : xM) : xM := mI (mI (drF k M) 20 0 29 0) 20 0 30 0
/-- what a step of the row needs -/
def drOk (M : xM) (a n : Nat) : Prop := M.1 20 0 30 = nI a ∧ rok M n ∧ n < 4000 ∧ a ≤ n ∧ (a < n → (∃ s, s < 21 ∧ M.1 46 0 a = nI s) ∧ gOk M ∧ wOk M ∧ ∀ e s, eo M (M.1 45 0 a) = some e → M.1 46 0 a = nI s → ¬ rste M e = 4 → ∃ n', rok (f_come (mI M 20 0 30 (nI (a + 1))) e s) n' ∧ n' ≤ 4000)
theorem r_doRow {d : Nat} (P : xM → Nat → Prop) (hP : ∀ M k, P M k → ∃ a n, drOk M a n ∧ (a < n → ∃ k', k = k' + 1 ∧ P (drS M) k')) : ∀ (k : Nat) (M : xM), P M k → ∀ x1 x2 : Option xV, Rn (d + 5) 79 (0, [some (vR 20 0), x1, x2], [], M) (fun r M' => r = none ∧ M' = f_row k M) := by
  intro k
  induction k with
  | zero =>
    intro M hM x1 x2
    obtain ⟨a, n, ⟨q1, q2, q3, q4, q5⟩, q6⟩ := hP M 0 hM
    have han : ¬ a < n := fun h => by obtain ⟨k', h1, -⟩ := q6 h; omega
    have hlt : ¬ M.1 20 0 30 < M.1 20 0 29 := by rw [q1, show M.1 20 0 29 = nI n from q2]; exact nI_nlt (by omega) (by omega)
    refine rn_aload_n (pc' := 1) rfl rfl rfl ?_
    refine rn_getI (N := 1) (pc' := 4) rfl rfl rfl rfl (by decide) rfl (by first | assumption | decide | omega) ?_
    refine rn_aload_n (pc' := 5) rfl rfl rfl ?_
    refine rn_getI (N := 1) (pc' := 8) rfl rfl rfl rfl (by decide) rfl (by first | assumption | decide | omega) ?_
    refine rn_ic_ge (t := 68) (pc' := 11) rfl rfl rfl (fun h1 => ?_) (fun h1 => ?_)
    · refine rn_aload_n (pc' := 69) rfl rfl rfl ?_
      refine rn_iconst (pc' := 70) (v := 0) rfl rfl (by decide) ?_
      refine rn_putI (N := 1) (pc' := 73) rfl rfl rfl rfl rfl (by first | assumption | decide | omega) ?_
      refine rn_aload_n (pc' := 74) rfl rfl rfl ?_
      refine rn_iconst (pc' := 75) (v := 0) rfl rfl (by decide) ?_
      refine rn_putI (N := 1) (pc' := 78) rfl rfl rfl rfl rfl (by first | assumption | decide | omega) ?_
      refine rn_return rfl rfl ?_
      exact ⟨rfl, rfl⟩
    · exact absurd h1 hlt
  | succ k ih =>
    intro M hM x1 x2
    obtain ⟨a, n, ⟨q1, q2, q3, q4, q5⟩, q6⟩ := hP M (k + 1) hM
    have hiff : M.1 20 0 30 < M.1 20 0 29 ↔ a < n := by rw [q1, show M.1 20 0 29 = nI n from q2]; exact nI_ltI (by omega) (by omega)
    by_cases han : a < n
    · obtain ⟨⟨s, hs, hs2⟩, hG, hW, hf⟩ := q5 han
      obtain ⟨k', hk', hP'⟩ := q6 han
      obtain rfl : k' = k := by omega
      have ef : f_row (k' + 1) M = f_row k' (drS M) := by unfold f_row drF; rw [if_pos (hiff.mpr han)]; cases k' <;> rfl
      rw [ef]
      have ih := ih (drS M) hP'
      have hca : (M.1 20 0 30).toNatClampNeg = a := by rw [q1]; exact nI_clamp (by omega)
      have hcs : (M.1 46 0 a).toNatClampNeg = s := by rw [hs2]; exact nI_clamp (by omega)
      have ed : drS M = match eo M (M.1 45 0 a) with
          | none => mI M 20 0 30 (M.1 20 0 30 + 1)
          | some e => if rste M e = 4 then mI M 20 0 30 (M.1 20 0 30 + 1) else f_come (mI M 20 0 30 (M.1 20 0 30 + 1)) e s := by
        unfold drS
        rw [hca, hcs]
      have ea : M.1 20 0 30 + 1 = nI (a + 1) := by rw [q1]; exact nI_1 a
      have ho := oI_neg (o := eo M (M.1 45 0 a)) (fun e h => eo_lt h)
      cases he : eo M (M.1 45 0 a) with
      | none =>
        rw [he] at ed
        simp only at ed
        rw [ed] at ih ⊢
        refine rn_aload_n (pc' := 1) rfl rfl rfl ?_
        refine rn_getI (N := 1) (pc' := 4) rfl rfl rfl rfl (by decide) rfl (by first | assumption | decide | omega) ?_
        refine rn_aload_n (pc' := 5) rfl rfl rfl ?_
        refine rn_getI (N := 1) (pc' := 8) rfl rfl rfl rfl (by decide) rfl (by first | assumption | decide | omega) ?_
        refine rn_ic_ge (t := 68) (pc' := 11) rfl rfl rfl (fun h1 => ?_) (fun h1 => ?_)
        · exact absurd (hiff.mpr han) h1
        · refine rn_aload_n (pc' := 12) rfl rfl rfl ?_
          refine rn_aload_n (pc' := 13) rfl rfl rfl ?_
          refine rn_getF (N := 1) (t' := 45) (pc' := 16) rfl rfl rfl rfl rfl (by first | assumption | decide | omega) ?_
          refine rn_aload_n (pc' := 17) rfl rfl rfl ?_
          refine rn_getI (N := 1) (pc' := 20) rfl rfl rfl rfl (by decide) rfl (by first | assumption | decide | omega) ?_
          refine rn_iald (k := a) (N := 1) (K := 4000) (pc' := 21) rfl rfl ⟨rfl, rfl⟩ rfl (by first | assumption | decide | omega) rfl (by decide) (q1) (by first | assumption | decide | omega) ?_
          refine rn_callV (pc' := 24) (as := [_]) rfl rfl rfl ⟨Nat.le_of_ble_eq_true rfl, rfl, rfl⟩ rfl (by first | assumption | decide | omega) (Nat.le_of_ble_eq_true rfl) (Nat.le_of_ble_eq_true rfl) rfl (r_entryOf M _) (fun r2 M2 hz => ?_)
          obtain ⟨rfl, hm_⟩ := hz
          refine rn_mem hm_ ?_
          clear hm_
          refine rn_istore_n (pc' := 25) rfl rfl rfl (Nat.le_of_ble_eq_true rfl) rfl ?_
          refine rn_aload_n (pc' := 26) rfl rfl rfl ?_
          refine rn_getF (N := 1) (t' := 46) (pc' := 29) rfl rfl rfl rfl rfl (by first | assumption | decide | omega) ?_
          refine rn_aload_n (pc' := 30) rfl rfl rfl ?_
          refine rn_getI (N := 1) (pc' := 33) rfl rfl rfl rfl (by decide) rfl (by first | assumption | decide | omega) ?_
          refine rn_iald (k := a) (N := 1) (K := 4000) (pc' := 34) rfl rfl ⟨rfl, rfl⟩ rfl (by first | assumption | decide | omega) rfl (by decide) (q1) (by first | assumption | decide | omega) ?_
          refine rn_istore_n (pc' := 35) rfl rfl rfl (Nat.le_of_ble_eq_true rfl) rfl ?_
          refine rn_aload_n (pc' := 36) rfl rfl rfl ?_
          refine rn_dupA (pc' := 37) rfl rfl ?_
          refine rn_getI (N := 1) (pc' := 40) rfl rfl rfl rfl (by decide) rfl (by first | assumption | decide | omega) ?_
          refine rn_iconst (pc' := 41) (v := 1) rfl rfl (by decide) ?_
          refine rn_iadd (pc' := 42) rfl rfl ?_
          refine rn_putI (N := 1) (pc' := 45) rfl rfl rfl rfl rfl (by first | assumption | decide | omega) ?_
          refine rn_iload_n (pc' := 46) rfl rfl rfl ?_
          refine rn_if_lt (t := 65) (pc' := 49) rfl rfl rfl (fun h3 => ?_) (fun h3 => ?_)
          · refine rn_goto (pc' := 0) rfl rfl ?_
            exact ih _ _
          · exact absurd (ho.mpr he) h3
      | some e =>
        have hel := eo_lt he
        rw [he] at ed
        simp only at ed
        have hoe : oI (eo M (M.1 45 0 a)) = nI e := by rw [he]; rfl
        by_cases hz4 : rste M e = 4
        · rw [if_pos hz4] at ed
          rw [ed] at ih ⊢
          refine rn_aload_n (pc' := 1) rfl rfl rfl ?_
          refine rn_getI (N := 1) (pc' := 4) rfl rfl rfl rfl (by decide) rfl (by first | assumption | decide | omega) ?_
          refine rn_aload_n (pc' := 5) rfl rfl rfl ?_
          refine rn_getI (N := 1) (pc' := 8) rfl rfl rfl rfl (by decide) rfl (by first | assumption | decide | omega) ?_
          refine rn_ic_ge (t := 68) (pc' := 11) rfl rfl rfl (fun h1 => ?_) (fun h1 => ?_)
          · exact absurd (hiff.mpr han) h1
          · refine rn_aload_n (pc' := 12) rfl rfl rfl ?_
            refine rn_aload_n (pc' := 13) rfl rfl rfl ?_
            refine rn_getF (N := 1) (t' := 45) (pc' := 16) rfl rfl rfl rfl rfl (by first | assumption | decide | omega) ?_
            refine rn_aload_n (pc' := 17) rfl rfl rfl ?_
            refine rn_getI (N := 1) (pc' := 20) rfl rfl rfl rfl (by decide) rfl (by first | assumption | decide | omega) ?_
            refine rn_iald (k := a) (N := 1) (K := 4000) (pc' := 21) rfl rfl ⟨rfl, rfl⟩ rfl (by first | assumption | decide | omega) rfl (by decide) (q1) (by first | assumption | decide | omega) ?_
            refine rn_callV (pc' := 24) (as := [_]) rfl rfl rfl ⟨Nat.le_of_ble_eq_true rfl, rfl, rfl⟩ rfl (by first | assumption | decide | omega) (Nat.le_of_ble_eq_true rfl) (Nat.le_of_ble_eq_true rfl) rfl (r_entryOf M _) (fun r2 M2 hz => ?_)
            obtain ⟨rfl, hm_⟩ := hz
            refine rn_mem hm_ ?_
            clear hm_
            refine rn_topI hoe ?_
            refine rn_istore_n (pc' := 25) rfl rfl rfl (Nat.le_of_ble_eq_true rfl) rfl ?_
            refine rn_aload_n (pc' := 26) rfl rfl rfl ?_
            refine rn_getF (N := 1) (t' := 46) (pc' := 29) rfl rfl rfl rfl rfl (by first | assumption | decide | omega) ?_
            refine rn_aload_n (pc' := 30) rfl rfl rfl ?_
            refine rn_getI (N := 1) (pc' := 33) rfl rfl rfl rfl (by decide) rfl (by first | assumption | decide | omega) ?_
            refine rn_iald (k := a) (N := 1) (K := 4000) (pc' := 34) rfl rfl ⟨rfl, rfl⟩ rfl (by first | assumption | decide | omega) rfl (by decide) (q1) (by first | assumption | decide | omega) ?_
            refine rn_istore_n (pc' := 35) rfl rfl rfl (Nat.le_of_ble_eq_true rfl) rfl ?_
            refine rn_aload_n (pc' := 36) rfl rfl rfl ?_
            refine rn_dupA (pc' := 37) rfl rfl ?_
            refine rn_getI (N := 1) (pc' := 40) rfl rfl rfl rfl (by decide) rfl (by first | assumption | decide | omega) ?_
            refine rn_iconst (pc' := 41) (v := 1) rfl rfl (by decide) ?_
            refine rn_iadd (pc' := 42) rfl rfl ?_
            refine rn_putI (N := 1) (pc' := 45) rfl rfl rfl rfl rfl (by first | assumption | decide | omega) ?_
            refine rn_iload_n (pc' := 46) rfl rfl rfl ?_
            refine rn_if_lt (t := 65) (pc' := 49) rfl rfl rfl (fun h3 => ?_) (fun h3 => ?_)
            · refine rn_goto (pc' := 0) rfl rfl ?_
              first | exact absurd h3 (nI_pos (by omega)) | exact ih _ _
            · refine rn_aload_n (pc' := 50) rfl rfl rfl ?_
              refine rn_getF (N := 1) (t' := 28) (pc' := 53) rfl rfl rfl rfl rfl (by first | assumption | decide | omega) ?_
              refine rn_iload_n (pc' := 54) rfl rfl rfl ?_
              refine rn_iald (N := 1) (K := 24) (pc' := 55) rfl rfl ⟨rfl, rfl⟩ rfl (by first | assumption | decide | omega) rfl (by decide) rfl (by first | assumption | decide | omega) ?_
              refine rn_iconst (pc' := 56) (v := 4) rfl rfl (by decide) ?_
              refine rn_ic_eq (t := 65) (pc' := 59) rfl rfl rfl (fun h4 => ?_) (fun h4 => ?_)
              · refine rn_goto (pc' := 0) rfl rfl ?_
                first | exact absurd h3 (nI_pos (by omega)) | exact ih _ _
              · exact absurd hz4 h4
        · rw [if_neg hz4] at ed
          rw [ed, ea] at ih ⊢
          obtain ⟨n', f1, f2⟩ := hf e s he hs2 hz4
          have hcome := r_come (d := d) (M := mI M 20 0 30 (nI (a + 1))) hel hs (fun k hk hp => hG k hk hp) (fun k hk hp => hW k hk hp) (n := n) q2 q3 ⟨n', f1, f2⟩
          refine rn_aload_n (pc' := 1) rfl rfl rfl ?_
          refine rn_getI (N := 1) (pc' := 4) rfl rfl rfl rfl (by decide) rfl (by first | assumption | decide | omega) ?_
          refine rn_aload_n (pc' := 5) rfl rfl rfl ?_
          refine rn_getI (N := 1) (pc' := 8) rfl rfl rfl rfl (by decide) rfl (by first | assumption | decide | omega) ?_
          refine rn_ic_ge (t := 68) (pc' := 11) rfl rfl rfl (fun h1 => ?_) (fun h1 => ?_)
          · exact absurd (hiff.mpr han) h1
          · refine rn_aload_n (pc' := 12) rfl rfl rfl ?_
            refine rn_aload_n (pc' := 13) rfl rfl rfl ?_
            refine rn_getF (N := 1) (t' := 45) (pc' := 16) rfl rfl rfl rfl rfl (by first | assumption | decide | omega) ?_
            refine rn_aload_n (pc' := 17) rfl rfl rfl ?_
            refine rn_getI (N := 1) (pc' := 20) rfl rfl rfl rfl (by decide) rfl (by first | assumption | decide | omega) ?_
            refine rn_iald (k := a) (N := 1) (K := 4000) (pc' := 21) rfl rfl ⟨rfl, rfl⟩ rfl (by first | assumption | decide | omega) rfl (by decide) (q1) (by first | assumption | decide | omega) ?_
            refine rn_callV (pc' := 24) (as := [_]) rfl rfl rfl ⟨Nat.le_of_ble_eq_true rfl, rfl, rfl⟩ rfl (by first | assumption | decide | omega) (Nat.le_of_ble_eq_true rfl) (Nat.le_of_ble_eq_true rfl) rfl (r_entryOf M _) (fun r2 M2 hz => ?_)
            obtain ⟨rfl, hm_⟩ := hz
            refine rn_mem hm_ ?_
            clear hm_
            refine rn_topI hoe ?_
            refine rn_istore_n (pc' := 25) rfl rfl rfl (Nat.le_of_ble_eq_true rfl) rfl ?_
            refine rn_aload_n (pc' := 26) rfl rfl rfl ?_
            refine rn_getF (N := 1) (t' := 46) (pc' := 29) rfl rfl rfl rfl rfl (by first | assumption | decide | omega) ?_
            refine rn_aload_n (pc' := 30) rfl rfl rfl ?_
            refine rn_getI (N := 1) (pc' := 33) rfl rfl rfl rfl (by decide) rfl (by first | assumption | decide | omega) ?_
            refine rn_iald (k := a) (N := 1) (K := 4000) (pc' := 34) rfl rfl ⟨rfl, rfl⟩ rfl (by first | assumption | decide | omega) rfl (by decide) (q1) (by first | assumption | decide | omega) ?_
            refine rn_topI hs2 ?_
            refine rn_istore_n (pc' := 35) rfl rfl rfl (Nat.le_of_ble_eq_true rfl) rfl ?_
            refine rn_aload_n (pc' := 36) rfl rfl rfl ?_
            refine rn_dupA (pc' := 37) rfl rfl ?_
            refine rn_getI (N := 1) (pc' := 40) rfl rfl rfl rfl (by decide) rfl (by first | assumption | decide | omega) ?_
            refine rn_iconst (pc' := 41) (v := 1) rfl rfl (by decide) ?_
            refine rn_iadd (pc' := 42) rfl rfl ?_
            refine rn_topI ea ?_
            refine rn_putI (N := 1) (pc' := 45) rfl rfl rfl rfl rfl (by first | assumption | decide | omega) ?_
            refine rn_iload_n (pc' := 46) rfl rfl rfl ?_
            refine rn_if_lt (t := 65) (pc' := 49) rfl rfl rfl (fun h3 => ?_) (fun h3 => ?_)
            · first | exact absurd h3 (nI_pos (by omega)) | exact absurd h4_ hz4 | (refine rn_goto (pc' := 0) rfl rfl ?_; exact ih _ _)
            · refine rn_aload_n (pc' := 50) rfl rfl rfl ?_
              refine rn_getF (N := 1) (t' := 28) (pc' := 53) rfl rfl rfl rfl rfl (by first | assumption | decide | omega) ?_
              refine rn_iload_n (pc' := 54) rfl rfl rfl ?_
              refine rn_iald (N := 1) (K := 24) (pc' := 55) rfl rfl ⟨rfl, rfl⟩ rfl (by first | assumption | decide | omega) rfl (by decide) rfl (by first | assumption | decide | omega) ?_
              refine rn_iconst (pc' := 56) (v := 4) rfl rfl (by decide) ?_
              refine rn_ic_eq (t := 65) (pc' := 59) rfl rfl rfl (fun h4_ => ?_) (fun h4_ => ?_)
              · first | exact absurd h3 (nI_pos (by omega)) | exact absurd h4_ hz4 | (refine rn_goto (pc' := 0) rfl rfl ?_; exact ih _ _)
              · refine rn_aload_n (pc' := 60) rfl rfl rfl ?_
                refine rn_iload_n (pc' := 61) rfl rfl rfl ?_
                refine rn_iload_n (pc' := 62) rfl rfl rfl ?_
                refine rn_callV (pc' := 65) (as := [_, _]) rfl rfl rfl ⟨Nat.le_of_ble_eq_true rfl, rfl, rfl⟩ rfl (by first | assumption | decide | omega) (Nat.le_of_ble_eq_true rfl) (Nat.le_of_ble_eq_true rfl) rfl hcome (fun r9 M9 hz9 => ?_)
                obtain ⟨rfl, hm9⟩ := hz9
                refine rn_mem hm9 ?_
                first | exact absurd h3 (nI_pos (by omega)) | exact absurd h4_ hz4 | (refine rn_goto (pc' := 0) rfl rfl ?_; exact ih _ _)
    · have ef : f_row (k + 1) M = mI (mI M 20 0 29 0) 20 0 30 0 := by unfold f_row drF; rw [if_neg (fun h => han (hiff.mp h))]
      rw [ef]
      refine rn_aload_n (pc' := 1) rfl rfl rfl ?_
      refine rn_getI (N := 1) (pc' := 4) rfl rfl rfl rfl (by decide) rfl (by first | assumption | decide | omega) ?_
      refine rn_aload_n (pc' := 5) rfl rfl rfl ?_
      refine rn_getI (N := 1) (pc' := 8) rfl rfl rfl rfl (by decide) rfl (by first | assumption | decide | omega) ?_
      refine rn_ic_ge (t := 68) (pc' := 11) rfl rfl rfl (fun h1 => ?_) (fun h1 => ?_)
      · refine rn_aload_n (pc' := 69) rfl rfl rfl ?_
        refine rn_iconst (pc' := 70) (v := 0) rfl rfl (by decide) ?_
        refine rn_putI (N := 1) (pc' := 73) rfl rfl rfl rfl rfl (by first | assumption | decide | omega) ?_
        refine rn_aload_n (pc' := 74) rfl rfl rfl ?_
        refine rn_iconst (pc' := 75) (v := 0) rfl rfl (by decide) ?_
        refine rn_putI (N := 1) (pc' := 78) rfl rfl rfl rfl rfl (by first | assumption | decide | omega) ?_
        refine rn_return rfl rfl ?_
        exact ⟨rfl, rfl⟩
      · exact absurd (hiff.mp h1) han
end
section
/-! THE REFERENCE: means, exec, beginHandler, fork -/
theorem ite01 {c : Prop} [Decidable c] : (if c then (1 : Int32) else 0) = 0 ↔ ¬ c := by by_cases h : c <;> simp [h]
theorem mRow_put_ne (M : xM) {t t' : Nat} (e e' k : Nat) (f : Nat → Int32) (v : Int32) (h : t' ≠ t) : mI (mRow M t e f) t' e' k v = mRow (mI M t' e' k v) t e f := by
  refine xM_ext (fun a b c => ?_) rfl
  simp only [mI, xu, mRow]
  by_cases h1 : a = t ∧ b = e
  · rw [if_neg (fun q => h (q.1.symm.trans h1.1)), if_pos h1, if_pos h1]
  · rw [if_neg h1]
    by_cases h2 : a = t' ∧ b = e' ∧ c = k
    · rw [if_pos h2, if_neg h1]
    · rw [if_neg h2, if_neg h1]
def mns (M : xM) (e : Nat) (v : Int32) (k : Nat) : Bool := if 0 < v then decide (rpid M k = v) else if v = 0 then decide (rgrp M k = rgrp M e) else decide (v = -1 ∨ rgrp M k = -v)
theorem r_means {d e k : Nat} (M : xM) (v : Int32) (he : e < 24) (hk : k < 24) : Rn d 95 (0, xen 95 [vR 20 0, vI (nI e), vI v, vI (nI k)], [], M) (fun r M' => r = some (vI (bI (mns M e v k))) ∧ M' = M) := by
  show Rn _ 95 (0, [some (vR 20 0), some (vI (nI e)), some (vI v), some (vI (nI k))], [], _) _
  refine rn_iload_n (pc' := 1) rfl rfl rfl ?_
  refine rn_if_le (t := 22) (pc' := 4) rfl rfl rfl (fun h1 => ?_) (fun h1 => ?_)
  · refine rn_iload_n (pc' := 23) rfl rfl rfl ?_
    refine rn_if_ne (t := 49) (pc' := 26) rfl rfl rfl (fun h2 => ?_) (fun h2 => ?_)
    · refine rn_iload_n (pc' := 50) rfl rfl rfl ?_
      refine rn_iconst (pc' := 51) (v := (-1)) rfl rfl (by decide) ?_
      refine rn_ic_eq (t := 65) (pc' := 54) rfl rfl rfl (fun h3 => ?_) (fun h3 => ?_)
      · refine rn_iconst (pc' := 66) (v := 1) rfl rfl (by decide) ?_
        refine rn_goto (pc' := 70) rfl rfl ?_
        refine rn_zreturn rfl rfl (by decide) ?_
        refine ⟨?_, rfl⟩
        first | (simp [mns, rpid, rgrp, bI, *]; done) | simp_all [mns, rpid, rgrp, bI]
      · refine rn_aload_n (pc' := 55) rfl rfl rfl ?_
        refine rn_getF (N := 1) (t' := 27) (pc' := 58) rfl rfl rfl rfl rfl (by first | assumption | decide | omega) ?_
        refine rn_iload_n (pc' := 59) rfl rfl rfl ?_
        refine rn_iald (N := 1) (K := 24) (pc' := 60) rfl rfl ⟨rfl, rfl⟩ rfl (by first | assumption | decide | omega) rfl (by decide) rfl (by first | assumption | decide | omega) ?_
        refine rn_iload_n (pc' := 61) rfl rfl rfl ?_
        refine rn_ineg (pc' := 62) rfl rfl ?_
        refine rn_ic_ne (t := 69) (pc' := 65) rfl rfl rfl (fun h4 => ?_) (fun h4 => ?_)
        · refine rn_iconst (pc' := 70) (v := 0) rfl rfl (by decide) ?_
          refine rn_zreturn rfl rfl (by decide) ?_
          refine ⟨?_, rfl⟩
          first | (simp [mns, rpid, rgrp, bI, *]; done) | simp_all [mns, rpid, rgrp, bI]
        · refine rn_iconst (pc' := 66) (v := 1) rfl rfl (by decide) ?_
          refine rn_goto (pc' := 70) rfl rfl ?_
          refine rn_zreturn rfl rfl (by decide) ?_
          refine ⟨?_, rfl⟩
          first | (simp [mns, rpid, rgrp, bI, *]; done) | simp_all [mns, rpid, rgrp, bI]
    · refine rn_aload_n (pc' := 27) rfl rfl rfl ?_
      refine rn_getF (N := 1) (t' := 27) (pc' := 30) rfl rfl rfl rfl rfl (by first | assumption | decide | omega) ?_
      refine rn_iload_n (pc' := 31) rfl rfl rfl ?_
      refine rn_iald (N := 1) (K := 24) (pc' := 32) rfl rfl ⟨rfl, rfl⟩ rfl (by first | assumption | decide | omega) rfl (by decide) rfl (by first | assumption | decide | omega) ?_
      refine rn_aload_n (pc' := 33) rfl rfl rfl ?_
      refine rn_getF (N := 1) (t' := 27) (pc' := 36) rfl rfl rfl rfl rfl (by first | assumption | decide | omega) ?_
      refine rn_iload_n (pc' := 37) rfl rfl rfl ?_
      refine rn_iald (N := 1) (K := 24) (pc' := 38) rfl rfl ⟨rfl, rfl⟩ rfl (by first | assumption | decide | omega) rfl (by decide) rfl (by first | assumption | decide | omega) ?_
      refine rn_ic_ne (t := 45) (pc' := 41) rfl rfl rfl (fun h3 => ?_) (fun h3 => ?_)
      · refine rn_iconst (pc' := 46) (v := 0) rfl rfl (by decide) ?_
        refine rn_goto (pc' := 70) rfl rfl ?_
        refine rn_zreturn rfl rfl (by decide) ?_
        refine ⟨?_, rfl⟩
        first | (simp [mns, rpid, rgrp, bI, *]; done) | simp_all [mns, rpid, rgrp, bI]
      · refine rn_iconst (pc' := 42) (v := 1) rfl rfl (by decide) ?_
        refine rn_goto (pc' := 70) rfl rfl ?_
        refine rn_zreturn rfl rfl (by decide) ?_
        refine ⟨?_, rfl⟩
        first | (simp [mns, rpid, rgrp, bI, *]; done) | simp_all [mns, rpid, rgrp, bI]
  · refine rn_aload_n (pc' := 5) rfl rfl rfl ?_
    refine rn_getF (N := 1) (t' := 25) (pc' := 8) rfl rfl rfl rfl rfl (by first | assumption | decide | omega) ?_
    refine rn_iload_n (pc' := 9) rfl rfl rfl ?_
    refine rn_iald (N := 1) (K := 24) (pc' := 10) rfl rfl ⟨rfl, rfl⟩ rfl (by first | assumption | decide | omega) rfl (by decide) rfl (by first | assumption | decide | omega) ?_
    refine rn_iload_n (pc' := 11) rfl rfl rfl ?_
    refine rn_ic_ne (t := 18) (pc' := 14) rfl rfl rfl (fun h2 => ?_) (fun h2 => ?_)
    · refine rn_iconst (pc' := 19) (v := 0) rfl rfl (by decide) ?_
      refine rn_goto (pc' := 70) rfl rfl ?_
      refine rn_zreturn rfl rfl (by decide) ?_
      refine ⟨?_, rfl⟩
      first | (simp [mns, rpid, rgrp, bI, *]; done) | simp_all [mns, rpid, rgrp, bI]
    · refine rn_iconst (pc' := 15) (v := 1) rfl rfl (by decide) ?_
      refine rn_goto (pc' := 70) rfl rfl ?_
      refine rn_zreturn rfl rfl (by decide) ?_
      refine ⟨?_, rfl⟩
      first | (simp [mns, rpid, rgrp, bI, *]; done) | simp_all [mns, rpid, rgrp, bI]
abbrev rprg (M : xM) (e : Nat) : Int32 := M.1 29 0 e
abbrev rnxt (M : xM) (e : Nat) : Int32 := M.1 30 0 e
abbrev rhnd (M : xM) (e : Nat) : Int32 := M.1 35 0 e
abbrev isPr (b : Int32) : Prop := 0 ≤ b.toInt64 ∧ b.toInt64 ≤ 15
def dxF (M : xM) (e i : Nat) : Nat → Int32 := fun k => if 21 * e ≤ k ∧ k < 21 * e + i ∧ 1 < M.1 32 0 k then 0 else M.1 32 0 k
def f_exec1 (M : xM) (e : Nat) (b : Int32) : xM := mI (mI (mI (mI M 29 0 e b) 30 0 e 0) 35 0 e 0) 42 0 e 1
def f_execY (M : xM) (e : Nat) (b : Int32) : xM := mRow (f_exec1 M e b) 32 0 (dxF M e 21)
theorem lt21 {i : Nat} (h : i < 2 ^ 31) : (nI i < 21) ↔ i < 21 := nI_ltI h (by decide)
theorem r_execY {d e a : Nat} (M : xM) (b : Int32) (he : e < 24) (hb : isPr b) : Rn (d + 1) 94 (0, xen 94 [vR 20 0, vI (nI e), vI b, vI (nI (8 * e + a))], [], M) (fun r M' => r = none ∧ M' = f_execY M e b) := by
  have loop : ∀ m i : Nat, i + m = 21 → Rn (d + 1) 94 (52, [some (vR 20 0), some (vI (nI e)), some (vI b), some (vI (nI (8 * e + a))), some (vI (nI i))], [], mRow (f_exec1 M e b) 32 0 (dxF M e i)) (fun r M' => r = none ∧ M' = f_execY M e b) := by
    intro m
    induction m with
    | zero =>
      intro i hi
      obtain rfl : i = 21 := by omega
      refine rn_iload (pc' := 54) rfl rfl rfl ?_
      refine rn_bipush (pc' := 56) (v := 21) rfl rfl (by decide) ?_
      refine rn_ic_ge (t := 109) (pc' := 59) rfl rfl rfl (fun h1 => ?_) (fun h1 => ?_)
      · refine rn_return rfl rfl ?_
        exact ⟨rfl, rfl⟩
      · exact absurd ((lt21 (by omega)).mp h1) (by omega)
    | succ m ih =>
      intro i hi
      have hi21 : i < 21 := by omega
      have ih := ih (i + 1) (by omega)
      have hv : dxF M e i (21 * e + i) = M.1 32 0 (21 * e + i) := by unfold dxF; rw [if_neg (by omega)]
      have hu : upd (dxF M e i) (21 * e + i) (if 1 < M.1 32 0 (21 * e + i) then 0 else M.1 32 0 (21 * e + i)) = dxF M e (i + 1) := by
        funext k
        unfold upd dxF
        by_cases hk : k = 21 * e + i
        · subst hk
          by_cases h9 : 1 < M.1 32 0 (21 * e + i)
          · rw [if_pos rfl, if_pos h9, if_pos ⟨by omega, by omega, h9⟩]
          · rw [if_pos rfl, if_neg h9, if_neg (fun q => h9 q.2.2)]
        · by_cases h9 : 21 * e ≤ k ∧ k < 21 * e + i ∧ 1 < M.1 32 0 k
          · rw [if_neg hk, if_pos h9, if_pos ⟨h9.1, by omega, h9.2.2⟩]
          · rw [if_neg hk, if_neg h9, if_neg (fun q => h9 ⟨q.1, by omega, q.2.2⟩)]
      have k1 : ∀ x, x = (if 1 < M.1 32 0 (21 * e + i) then 0 else M.1 32 0 (21 * e + i)) → Rn (d + 1) 94 (102, [some (vR 20 0), some (vI (nI e)), some (vI b), some (vI (nI (8 * e + a))), some (vI (nI i))], [vI x, vI (nI (21 * e + i)), vR 32 0], mRow (f_exec1 M e b) 32 0 (dxF M e i)) (fun r M' => r = none ∧ M' = f_execY M e b) := by
        intro x hx
        subst hx
        refine rn_iast (k := 21 * e + i) (N := 1) (K := 504) (pc' := 103) rfl rfl ⟨rfl, rfl⟩ rfl (by first | assumption | decide | omega) rfl (by decide) (rfl) (by first | assumption | decide | omega) ?_
        rw [mRow_put, hu]
        refine rn_iinc (pc' := 106) rfl rfl rfl (nI_inc _) rfl (Nat.le_of_ble_eq_true rfl) rfl ?_
        refine rn_goto (pc' := 52) rfl rfl ?_
        exact ih
      refine rn_iload (pc' := 54) rfl rfl rfl ?_
      refine rn_bipush (pc' := 56) (v := 21) rfl rfl (by decide) ?_
      refine rn_ic_ge (t := 109) (pc' := 59) rfl rfl rfl (fun h1 => ?_) (fun h1 => ?_)
      · exact absurd ((lt21 (by omega)).mpr hi21) h1
      · refine rn_aload_n (pc' := 60) rfl rfl rfl ?_
        refine rn_getF (N := 1) (t' := 32) (pc' := 63) rfl rfl rfl rfl rfl (by first | assumption | decide | omega) ?_
        refine rn_bipush (pc' := 65) (v := 21) rfl rfl (by decide) ?_
        refine rn_iload_n (pc' := 66) rfl rfl rfl ?_
        refine rn_imul (pc' := 67) rfl rfl ?_
        refine rn_iload (pc' := 69) rfl rfl rfl ?_
        refine rn_iadd (pc' := 70) rfl rfl ?_
        refine rn_topI (ix21 e i) ?_
        refine rn_aload_n (pc' := 71) rfl rfl rfl ?_
        refine rn_getF (N := 1) (t' := 32) (pc' := 74) rfl rfl rfl rfl rfl (by first | assumption | decide | omega) ?_
        refine rn_bipush (pc' := 76) (v := 21) rfl rfl (by decide) ?_
        refine rn_iload_n (pc' := 77) rfl rfl rfl ?_
        refine rn_imul (pc' := 78) rfl rfl ?_
        refine rn_iload (pc' := 80) rfl rfl rfl ?_
        refine rn_iadd (pc' := 81) rfl rfl ?_
        refine rn_iald (k := 21 * e + i) (N := 1) (K := 504) (pc' := 82) rfl rfl ⟨rfl, rfl⟩ rfl (by first | assumption | decide | omega) rfl (by decide) (ix21 e i) (by first | assumption | decide | omega) ?_
        refine rn_topI hv ?_
        refine rn_iconst (pc' := 83) (v := 1) rfl rfl (by decide) ?_
        refine rn_ic_le (t := 90) (pc' := 86) rfl rfl rfl (fun h2 => ?_) (fun h2 => ?_)
        · refine rn_aload_n (pc' := 91) rfl rfl rfl ?_
          refine rn_getF (N := 1) (t' := 32) (pc' := 94) rfl rfl rfl rfl rfl (by first | assumption | decide | omega) ?_
          refine rn_bipush (pc' := 96) (v := 21) rfl rfl (by decide) ?_
          refine rn_iload_n (pc' := 97) rfl rfl rfl ?_
          refine rn_imul (pc' := 98) rfl rfl ?_
          refine rn_iload (pc' := 100) rfl rfl rfl ?_
          refine rn_iadd (pc' := 101) rfl rfl ?_
          refine rn_iald (k := 21 * e + i) (N := 1) (K := 504) (pc' := 102) rfl rfl ⟨rfl, rfl⟩ rfl (by first | assumption | decide | omega) rfl (by decide) (ix21 e i) (by first | assumption | decide | omega) ?_
          first | exact k1 _ (by rw [if_pos h2]) | (refine rn_topI hv ?_; exact k1 _ (by rw [if_neg h2]))
        · refine rn_iconst (pc' := 87) (v := 0) rfl rfl (by decide) ?_
          refine rn_goto (pc' := 102) rfl rfl ?_
          first | exact k1 _ (by rw [if_pos h2]) | (refine rn_topI hv ?_; exact k1 _ (by rw [if_neg h2]))
  have e0 : mRow (f_exec1 M e b) 32 0 (dxF M e 0) = f_exec1 M e b := by
    have e2 : dxF M e 0 = (f_exec1 M e b).1 32 0 := by
      funext k; unfold dxF; rw [if_neg (by omega)]; rfl
    rw [e2, mRow_id]
  have l0 := loop 21 0 rfl
  rw [e0] at l0
  show Rn _ 94 (0, [some (vR 20 0), some (vI (nI e)), some (vI b), some (vI (nI (8 * e + a))), none], [], _) _
  refine rn_iload_n (pc' := 1) rfl rfl rfl ?_
  refine rn_i2l (pc' := 2) rfl rfl ?_
  refine rn_lconst (pc' := 3) (v := 0) rfl rfl rfl ?_
  refine rn_ldc2_w (pc' := 6) (v := 15) rfl rfl rfl ?_
  refine rn_callS (pc' := 9) (as := [_, _, _]) rfl rfl rfl ⟨rfl, rfl, rfl⟩ (Nat.le_of_ble_eq_true rfl) (Nat.le_of_ble_eq_true rfl) rfl (r_in M _ 0 15) (fun r1 M1 hz => ?_)
  obtain ⟨rfl, hm_⟩ := hz
  refine rn_mem hm_ ?_
  clear hm_
  refine rn_if_ne (t := 21) (pc' := 12) rfl rfl rfl (fun h2 => ?_) (fun h2 => ?_)
  · refine rn_aload_n (pc' := 22) rfl rfl rfl ?_
    refine rn_getF (N := 1) (t' := 29) (pc' := 25) rfl rfl rfl rfl rfl (by first | assumption | decide | omega) ?_
    refine rn_iload_n (pc' := 26) rfl rfl rfl ?_
    refine rn_iload_n (pc' := 27) rfl rfl rfl ?_
    refine rn_iast (N := 1) (K := 24) (pc' := 28) rfl rfl ⟨rfl, rfl⟩ rfl (by first | assumption | decide | omega) rfl (by decide) rfl (by first | assumption | decide | omega) ?_
    refine rn_aload_n (pc' := 29) rfl rfl rfl ?_
    refine rn_getF (N := 1) (t' := 30) (pc' := 32) rfl rfl rfl rfl rfl (by first | assumption | decide | omega) ?_
    refine rn_iload_n (pc' := 33) rfl rfl rfl ?_
    refine rn_iconst (pc' := 34) (v := 0) rfl rfl (by decide) ?_
    refine rn_iast (N := 1) (K := 24) (pc' := 35) rfl rfl ⟨rfl, rfl⟩ rfl (by first | assumption | decide | omega) rfl (by decide) rfl (by first | assumption | decide | omega) ?_
    refine rn_aload_n (pc' := 36) rfl rfl rfl ?_
    refine rn_getF (N := 1) (t' := 35) (pc' := 39) rfl rfl rfl rfl rfl (by first | assumption | decide | omega) ?_
    refine rn_iload_n (pc' := 40) rfl rfl rfl ?_
    refine rn_iconst (pc' := 41) (v := 0) rfl rfl (by decide) ?_
    refine rn_iast (N := 1) (K := 24) (pc' := 42) rfl rfl ⟨rfl, rfl⟩ rfl (by first | assumption | decide | omega) rfl (by decide) rfl (by first | assumption | decide | omega) ?_
    refine rn_aload_n (pc' := 43) rfl rfl rfl ?_
    refine rn_getF (N := 1) (t' := 42) (pc' := 46) rfl rfl rfl rfl rfl (by first | assumption | decide | omega) ?_
    refine rn_iload_n (pc' := 47) rfl rfl rfl ?_
    refine rn_iconst (pc' := 48) (v := 1) rfl rfl (by decide) ?_
    refine rn_bast (N := 1) (K := 24) (pc' := 49) rfl rfl ⟨rfl, rfl⟩ rfl (by first | assumption | decide | omega) rfl (by decide) rfl (by first | assumption | decide | omega) (by decide) ?_
    refine rn_iconst (pc' := 50) (v := 0) rfl rfl (by decide) ?_
    refine rn_istore (pc' := 52) rfl rfl rfl (Nat.le_of_ble_eq_true rfl) rfl ?_
    exact l0
  · exact absurd hb (ite01.mp h2)
theorem r_execN {d e a : Nat} (M : xM) (b : Int32) (he : e < 24) (ha : a < 8) (hb : ¬ isPr b) : Rn (d + 1) 94 (0, xen 94 [vR 20 0, vI (nI e), vI b, vI (nI (8 * e + a))], [], M) (fun r M' => r = none ∧ M' = mI M 31 0 (8 * e + a) (-2)) := by
  show Rn _ 94 (0, [some (vR 20 0), some (vI (nI e)), some (vI b), some (vI (nI (8 * e + a))), none], [], _) _
  refine rn_iload_n (pc' := 1) rfl rfl rfl ?_
  refine rn_i2l (pc' := 2) rfl rfl ?_
  refine rn_lconst (pc' := 3) (v := 0) rfl rfl rfl ?_
  refine rn_ldc2_w (pc' := 6) (v := 15) rfl rfl rfl ?_
  refine rn_callS (pc' := 9) (as := [_, _, _]) rfl rfl rfl ⟨rfl, rfl, rfl⟩ (Nat.le_of_ble_eq_true rfl) (Nat.le_of_ble_eq_true rfl) rfl (r_in M _ 0 15) (fun r1 M1 hz => ?_)
  obtain ⟨rfl, hm_⟩ := hz
  refine rn_mem hm_ ?_
  clear hm_
  refine rn_if_ne (t := 21) (pc' := 12) rfl rfl rfl (fun h2 => ?_) (fun h2 => ?_)
  · exact absurd (ite01.mpr hb) h2
  · refine rn_aload_n (pc' := 13) rfl rfl rfl ?_
    refine rn_getF (N := 1) (t' := 31) (pc' := 16) rfl rfl rfl rfl rfl (by first | assumption | decide | omega) ?_
    refine rn_iload_n (pc' := 17) rfl rfl rfl ?_
    refine rn_bipush (pc' := 19) (v := (-2)) rfl rfl (by decide) ?_
    refine rn_iast (N := 1) (K := 192) (pc' := 20) rfl rfl ⟨rfl, rfl⟩ rfl (by first | assumption | decide | omega) rfl (by decide) rfl (by first | assumption | decide | omega) ?_
    refine rn_return rfl rfl ?_
    exact ⟨rfl, rfl⟩
/-! a handler begins -/
def f_beg (M : xM) (e s h : Nat) : xM :=
  let A := mI M 36 0 (4 * e + h) (rnxt M e)
  let B := mI A 37 0 (4 * e + h) (A.1 34 0 e)
  let C := mI B 35 0 e (B.1 35 0 e + 1)
  let D := mI C 33 0 e (C.1 33 0 e &&& (((1 : Int32) <<< (nI s &&& 31)) ^^^ (-1)))
  let E := mI D 34 0 e (D.1 34 0 e ||| ((1 : Int32) <<< (nI s &&& 31)))
  let F := mI E 30 0 e (E.1 32 0 (21 * e + s) - 2)
  mI F 20 0 38 (F.1 20 0 38 + 1)
def bitR (x : Int32) (i : Nat) : Int32 := (x >>> (nI i &&& 31)) &&& 1
theorem ix4 (u s : Nat) : (4 : Int32) * nI u + nI s = nI (4 * u + s) := by
  show nI 4 * nI u + nI s = _
  rw [pk_mul, nI_add]
theorem r_begin {d e s h n : Nat} (M : xM) (rd : Int32) (he : e < 24) (hs1 : 1 ≤ s) (hs : s < 21) (hz : ∀ i, 1 ≤ i → i < s → bitR rd i = 0) (hb : ¬ bitR rd s = 0) (hh : rhnd M e = nI h) (hh4 : h ≤ 4) (hG : gOk M) (hn : rok M n) (hn4 : n < 4000) (hf : h = 4 → ¬ rpid M e = 1 → ∃ n', rok (f_end M e 11) n' ∧ n' ≤ 4000) : Rn (d + 3) 89 (0, xen 89 [vR 20 0, vI (nI e), vI rd], [], M) (fun r M' => r = none ∧ M' = if h = 4 then f_end M e 11 else f_beg M e s h) := by
  have fin : Rn (d + 3) 89 (16, [some (vR 20 0), some (vI (nI e)), some (vI rd), some (vI (nI s))], [], M) (fun r M' => r = none ∧ M' = if h = 4 then f_end M e 11 else f_beg M e s h) := by
    have h4i : rhnd M e = 4 ↔ h = 4 := by rw [hh]; exact nI_eq (a := h) (b := 4) (by omega) (by decide)
    by_cases h4 : h = 4
    · rw [if_pos h4]
      refine rn_aload_n (pc' := 17) rfl rfl rfl ?_
      refine rn_getF (N := 1) (t' := 35) (pc' := 20) rfl rfl rfl rfl rfl (by first | assumption | decide | omega) ?_
      refine rn_iload_n (pc' := 21) rfl rfl rfl ?_
      refine rn_iald (N := 1) (K := 24) (pc' := 22) rfl rfl ⟨rfl, rfl⟩ rfl (by first | assumption | decide | omega) rfl (by decide) rfl (by first | assumption | decide | omega) ?_
      refine rn_iconst (pc' := 23) (v := 4) rfl rfl (by decide) ?_
      refine rn_ic_ne (t := 34) (pc' := 26) rfl rfl rfl (fun h1 => ?_) (fun h1 => ?_)
      · exact absurd (h4i.mpr h4) h1
      · refine rn_aload_n (pc' := 27) rfl rfl rfl ?_
        refine rn_iload_n (pc' := 28) rfl rfl rfl ?_
        refine rn_bipush (pc' := 30) (v := 11) rfl rfl (by decide) ?_
        refine rn_callV (pc' := 33) (as := [_, _]) rfl rfl rfl ⟨Nat.le_of_ble_eq_true rfl, rfl, rfl⟩ rfl (by first | assumption | decide | omega) (Nat.le_of_ble_eq_true rfl) (Nat.le_of_ble_eq_true rfl) rfl (r_end M 11 he hG hn hn4 (hf h4)) (fun r2 M2 hz => ?_)
        obtain ⟨rfl, hm_⟩ := hz
        refine rn_mem hm_ ?_
        clear hm_
        refine rn_return rfl rfl ?_
        exact ⟨rfl, rfl⟩
    · rw [if_neg h4]
      refine rn_aload_n (pc' := 17) rfl rfl rfl ?_
      refine rn_getF (N := 1) (t' := 35) (pc' := 20) rfl rfl rfl rfl rfl (by first | assumption | decide | omega) ?_
      refine rn_iload_n (pc' := 21) rfl rfl rfl ?_
      refine rn_iald (N := 1) (K := 24) (pc' := 22) rfl rfl ⟨rfl, rfl⟩ rfl (by first | assumption | decide | omega) rfl (by decide) rfl (by first | assumption | decide | omega) ?_
      refine rn_iconst (pc' := 23) (v := 4) rfl rfl (by decide) ?_
      refine rn_ic_ne (t := 34) (pc' := 26) rfl rfl rfl (fun h1 => ?_) (fun h1 => ?_)
      · refine rn_aload_n (pc' := 35) rfl rfl rfl ?_
        refine rn_getF (N := 1) (t' := 36) (pc' := 38) rfl rfl rfl rfl rfl (by first | assumption | decide | omega) ?_
        refine rn_iconst (pc' := 39) (v := 4) rfl rfl (by decide) ?_
        refine rn_iload_n (pc' := 40) rfl rfl rfl ?_
        refine rn_imul (pc' := 41) rfl rfl ?_
        refine rn_aload_n (pc' := 42) rfl rfl rfl ?_
        refine rn_getF (N := 1) (t' := 35) (pc' := 45) rfl rfl rfl rfl rfl (by first | assumption | decide | omega) ?_
        refine rn_iload_n (pc' := 46) rfl rfl rfl ?_
        refine rn_iald (N := 1) (K := 24) (pc' := 47) rfl rfl ⟨rfl, rfl⟩ rfl (by first | assumption | decide | omega) rfl (by decide) rfl (by first | assumption | decide | omega) ?_
        refine rn_topI (y := nI h) hh ?_
        refine rn_iadd (pc' := 48) rfl rfl ?_
        refine rn_aload_n (pc' := 49) rfl rfl rfl ?_
        refine rn_getF (N := 1) (t' := 30) (pc' := 52) rfl rfl rfl rfl rfl (by first | assumption | decide | omega) ?_
        refine rn_iload_n (pc' := 53) rfl rfl rfl ?_
        refine rn_iald (N := 1) (K := 24) (pc' := 54) rfl rfl ⟨rfl, rfl⟩ rfl (by first | assumption | decide | omega) rfl (by decide) rfl (by first | assumption | decide | omega) ?_
        refine rn_iast (k := 4 * e + h) (N := 1) (K := 96) (pc' := 55) rfl rfl ⟨rfl, rfl⟩ rfl (by first | assumption | decide | omega) rfl (by decide) (ix4 e h) (by first | assumption | decide | omega) ?_
        refine rn_aload_n (pc' := 56) rfl rfl rfl ?_
        refine rn_getF (N := 1) (t' := 37) (pc' := 59) rfl rfl rfl rfl rfl (by first | assumption | decide | omega) ?_
        refine rn_iconst (pc' := 60) (v := 4) rfl rfl (by decide) ?_
        refine rn_iload_n (pc' := 61) rfl rfl rfl ?_
        refine rn_imul (pc' := 62) rfl rfl ?_
        refine rn_aload_n (pc' := 63) rfl rfl rfl ?_
        refine rn_getF (N := 1) (t' := 35) (pc' := 66) rfl rfl rfl rfl rfl (by first | assumption | decide | omega) ?_
        refine rn_iload_n (pc' := 67) rfl rfl rfl ?_
        refine rn_iald (N := 1) (K := 24) (pc' := 68) rfl rfl ⟨rfl, rfl⟩ rfl (by first | assumption | decide | omega) rfl (by decide) rfl (by first | assumption | decide | omega) ?_
        refine rn_topI (y := nI h) hh ?_
        refine rn_iadd (pc' := 69) rfl rfl ?_
        refine rn_aload_n (pc' := 70) rfl rfl rfl ?_
        refine rn_getF (N := 1) (t' := 34) (pc' := 73) rfl rfl rfl rfl rfl (by first | assumption | decide | omega) ?_
        refine rn_iload_n (pc' := 74) rfl rfl rfl ?_
        refine rn_iald (N := 1) (K := 24) (pc' := 75) rfl rfl ⟨rfl, rfl⟩ rfl (by first | assumption | decide | omega) rfl (by decide) rfl (by first | assumption | decide | omega) ?_
        refine rn_iast (k := 4 * e + h) (N := 1) (K := 96) (pc' := 76) rfl rfl ⟨rfl, rfl⟩ rfl (by first | assumption | decide | omega) rfl (by decide) (ix4 e h) (by first | assumption | decide | omega) ?_
        refine rn_aload_n (pc' := 77) rfl rfl rfl ?_
        refine rn_getF (N := 1) (t' := 35) (pc' := 80) rfl rfl rfl rfl rfl (by first | assumption | decide | omega) ?_
        refine rn_iload_n (pc' := 81) rfl rfl rfl ?_
        refine rn_dup2 (pc' := 82) rfl rfl ?_
        refine rn_iald (N := 1) (K := 24) (pc' := 83) rfl rfl ⟨rfl, rfl⟩ rfl (by first | assumption | decide | omega) rfl (by decide) rfl (by first | assumption | decide | omega) ?_
        refine rn_iconst (pc' := 84) (v := 1) rfl rfl (by decide) ?_
        refine rn_iadd (pc' := 85) rfl rfl ?_
        refine rn_iast (N := 1) (K := 24) (pc' := 86) rfl rfl ⟨rfl, rfl⟩ rfl (by first | assumption | decide | omega) rfl (by decide) rfl (by first | assumption | decide | omega) ?_
        refine rn_aload_n (pc' := 87) rfl rfl rfl ?_
        refine rn_getF (N := 1) (t' := 33) (pc' := 90) rfl rfl rfl rfl rfl (by first | assumption | decide | omega) ?_
        refine rn_iload_n (pc' := 91) rfl rfl rfl ?_
        refine rn_dup2 (pc' := 92) rfl rfl ?_
        refine rn_iald (N := 1) (K := 24) (pc' := 93) rfl rfl ⟨rfl, rfl⟩ rfl (by first | assumption | decide | omega) rfl (by decide) rfl (by first | assumption | decide | omega) ?_
        refine rn_iconst (pc' := 94) (v := 1) rfl rfl (by decide) ?_
        refine rn_iload_n (pc' := 95) rfl rfl rfl ?_
        refine rn_ishl (pc' := 96) rfl rfl ?_
        refine rn_iconst (pc' := 97) (v := (-1)) rfl rfl (by decide) ?_
        refine rn_ixor (pc' := 98) rfl rfl ?_
        refine rn_iand (pc' := 99) rfl rfl ?_
        refine rn_iast (N := 1) (K := 24) (pc' := 100) rfl rfl ⟨rfl, rfl⟩ rfl (by first | assumption | decide | omega) rfl (by decide) rfl (by first | assumption | decide | omega) ?_
        refine rn_aload_n (pc' := 101) rfl rfl rfl ?_
        refine rn_getF (N := 1) (t' := 34) (pc' := 104) rfl rfl rfl rfl rfl (by first | assumption | decide | omega) ?_
        refine rn_iload_n (pc' := 105) rfl rfl rfl ?_
        refine rn_dup2 (pc' := 106) rfl rfl ?_
        refine rn_iald (N := 1) (K := 24) (pc' := 107) rfl rfl ⟨rfl, rfl⟩ rfl (by first | assumption | decide | omega) rfl (by decide) rfl (by first | assumption | decide | omega) ?_
        refine rn_iconst (pc' := 108) (v := 1) rfl rfl (by decide) ?_
        refine rn_iload_n (pc' := 109) rfl rfl rfl ?_
        refine rn_ishl (pc' := 110) rfl rfl ?_
        refine rn_ior (pc' := 111) rfl rfl ?_
        refine rn_iast (N := 1) (K := 24) (pc' := 112) rfl rfl ⟨rfl, rfl⟩ rfl (by first | assumption | decide | omega) rfl (by decide) rfl (by first | assumption | decide | omega) ?_
        refine rn_aload_n (pc' := 113) rfl rfl rfl ?_
        refine rn_getF (N := 1) (t' := 30) (pc' := 116) rfl rfl rfl rfl rfl (by first | assumption | decide | omega) ?_
        refine rn_iload_n (pc' := 117) rfl rfl rfl ?_
        refine rn_aload_n (pc' := 118) rfl rfl rfl ?_
        refine rn_getF (N := 1) (t' := 32) (pc' := 121) rfl rfl rfl rfl rfl (by first | assumption | decide | omega) ?_
        refine rn_bipush (pc' := 123) (v := 21) rfl rfl (by decide) ?_
        refine rn_iload_n (pc' := 124) rfl rfl rfl ?_
        refine rn_imul (pc' := 125) rfl rfl ?_
        refine rn_iload_n (pc' := 126) rfl rfl rfl ?_
        refine rn_iadd (pc' := 127) rfl rfl ?_
        refine rn_iald (k := 21 * e + s) (N := 1) (K := 504) (pc' := 128) rfl rfl ⟨rfl, rfl⟩ rfl (by first | assumption | decide | omega) rfl (by decide) (ix21 e s) (by first | assumption | decide | omega) ?_
        refine rn_iconst (pc' := 129) (v := 2) rfl rfl (by decide) ?_
        refine rn_isub (pc' := 130) rfl rfl ?_
        refine rn_iast (N := 1) (K := 24) (pc' := 131) rfl rfl ⟨rfl, rfl⟩ rfl (by first | assumption | decide | omega) rfl (by decide) rfl (by first | assumption | decide | omega) ?_
        refine rn_aload_n (pc' := 132) rfl rfl rfl ?_
        refine rn_dupA (pc' := 133) rfl rfl ?_
        refine rn_getI (N := 1) (pc' := 136) rfl rfl rfl rfl (by decide) rfl (by first | assumption | decide | omega) ?_
        refine rn_iconst (pc' := 137) (v := 1) rfl rfl (by decide) ?_
        refine rn_iadd (pc' := 138) rfl rfl ?_
        refine rn_putI (N := 1) (pc' := 141) rfl rfl rfl rfl rfl (by first | assumption | decide | omega) ?_
        refine rn_return rfl rfl ?_
        exact ⟨rfl, rfl⟩
      · exact absurd (h4i.mp h1) h4
  have loop : ∀ m i : Nat, i + m = s → 1 ≤ i → Rn (d + 3) 89 (2, [some (vR 20 0), some (vI (nI e)), some (vI rd), some (vI (nI i))], [], M) (fun r M' => r = none ∧ M' = if h = 4 then f_end M e 11 else f_beg M e s h) := by
    intro m
    induction m with
    | zero =>
      intro i hi hi1
      obtain rfl : i = s := by omega
      refine rn_iload_n (pc' := 3) rfl rfl rfl ?_
      refine rn_iload_n (pc' := 4) rfl rfl rfl ?_
      refine rn_ishr (pc' := 5) rfl rfl ?_
      refine rn_iconst (pc' := 6) (v := 1) rfl rfl (by decide) ?_
      refine rn_iand (pc' := 7) rfl rfl ?_
      refine rn_if_ne (t := 16) (pc' := 10) rfl rfl rfl (fun h1 => ?_) (fun h1 => ?_)
      · exact fin
      · exact absurd h1 hb
    | succ m ih =>
      intro i hi hi1
      refine rn_iload_n (pc' := 3) rfl rfl rfl ?_
      refine rn_iload_n (pc' := 4) rfl rfl rfl ?_
      refine rn_ishr (pc' := 5) rfl rfl ?_
      refine rn_iconst (pc' := 6) (v := 1) rfl rfl (by decide) ?_
      refine rn_iand (pc' := 7) rfl rfl ?_
      refine rn_if_ne (t := 16) (pc' := 10) rfl rfl rfl (fun h1 => ?_) (fun h1 => ?_)
      · exact absurd (hz i hi1 (by omega)) h1
      · refine rn_iinc (pc' := 13) rfl rfl rfl (nI_inc _) rfl (Nat.le_of_ble_eq_true rfl) rfl ?_
        refine rn_goto (pc' := 2) rfl rfl ?_
        exact ih (i + 1) (by omega) (by omega)
  show Rn _ 89 (0, [some (vR 20 0), some (vI (nI e)), some (vI rd), none], [], _) _
  refine rn_iconst (pc' := 1) (v := 1) rfl rfl (by decide) ?_
  refine rn_istore_n (pc' := 2) rfl rfl rfl (Nat.le_of_ble_eq_true rfl) rfl ?_
  exact loop (s - 1) 1 (by omega) (by omega)
end
section
/-! THE REFERENCE: fork, the waits, kill, join -/
def fk1 (M : xM) (e f : Nat) (p : Int32) : xM :=
  let A := mI M 25 0 f p
  let B := mI A 26 0 f (A.1 25 0 e)
  let C := mI B 27 0 f (B.1 27 0 e)
  let D := mI C 28 0 f 0
  let E := mI D 29 0 f (D.1 29 0 e)
  mI E 30 0 f (E.1 30 0 e)
def fk2 (N : xM) (e f i : Nat) : xM := mRow N 31 0 (va_cpy (N.1 31 0) (N.1 31 0) (8 * e) (8 * f) i)
def fk3 (N : xM) (e f i : Nat) : xM := mRow N 32 0 (va_cpy (N.1 32 0) (N.1 32 0) (21 * e) (21 * f) i)
def fk4 (N : xM) (e f : Nat) : xM :=
  let A := mI N 33 0 f 0
  let B := mI A 34 0 f (A.1 34 0 e)
  mI B 35 0 f (B.1 35 0 e)
def fk5 (N : xM) (e f i : Nat) : xM := mRow (mRow N 36 0 (va_cpy (N.1 36 0) (N.1 36 0) (4 * e) (4 * f) i)) 37 0 (va_cpy (N.1 37 0) (N.1 37 0) (4 * e) (4 * f) i)
def fk6 (N : xM) (f : Nat) : xM := mI (mI (mI (mJ N 38 0 f 0) 39 0 f 0) 41 0 f 0) 42 0 f 0
def fk7 (N : xM) (e f a : Nat) (p : Int32) : xM :=
  let A := mI N 31 0 (8 * f + a) 0
  let B := mI A 31 0 (8 * e + a) p
  mI B 20 0 34 (B.1 20 0 34 + 1)
def f_forkY (M : xM) (e f a : Nat) (p : Int32) : xM := fk7 (fk6 (fk5 (fk4 (fk3 (fk2 (fk1 (mI M 20 0 24 p) e f p) e f 8) e f 21) e f) e f 4) f) e f a p
def f_forkN (M : xM) (e a : Nat) : xM :=
  let A := mI M 31 0 (8 * e + a) (-11)
  mI A 20 0 35 (A.1 20 0 35 + 1)
theorem cpy0 (r : Nat → Int32) (sp dp : Nat) : va_cpy r r sp dp 0 = r := by
  funext k; unfold va_cpy; rw [if_neg (by omega)]
theorem cpyS (r : Nat → Int32) (sp dp i : Nat) : upd (va_cpy r r sp dp i) (dp + i) (r (sp + i)) = va_cpy r r sp dp (i + 1) := by
  funext k
  unfold upd va_cpy
  by_cases h : k = dp + i
  · subst h
    rw [if_pos rfl, if_pos ⟨by omega, by omega⟩, show dp + i - dp = i by omega]
  · by_cases h2 : dp ≤ k ∧ k < dp + i
    · rw [if_neg h, if_pos h2, if_pos (by omega)]
    · rw [if_neg h, if_neg h2, if_neg (by omega)]
theorem cpyR (r : Nat → Int32) (sp dp i : Nat) (h : sp + i < dp ∨ dp + i ≤ sp + i) : va_cpy r r sp dp i (sp + i) = r (sp + i) := by
  unfold va_cpy
  rw [if_neg (by omega)]
theorem lt8 {i : Nat} (h : i < 2 ^ 31) : (nI i < 8) ↔ i < 8 := nI_ltI h (by decide)
theorem lt4 {i : Nat} (h : i < 2 ^ 31) : (nI i < 4) ↔ i < 4 := nI_ltI h (by decide)
theorem r_forkN {d e a : Nat} (M : xM) (he : e < 24) (ha : a < 8) (hfe : fe M = 24) : Rn (d + 2) 93 (0, xen 93 [vR 20 0, vI (nI e), vI (nI (8 * e + a))], [], M) (fun r M' => r = none ∧ M' = f_forkN M e a) := by
  show Rn _ 93 (0, [some (vR 20 0), some (vI (nI e)), some (vI (nI (8 * e + a))), none, none, none], [], _) _
  refine rn_aload_n (pc' := 1) rfl rfl rfl ?_
  refine rn_callV (pc' := 4) (as := []) rfl rfl rfl ⟨Nat.le_of_ble_eq_true rfl, rfl, rfl⟩ rfl (by first | assumption | decide | omega) (Nat.le_of_ble_eq_true rfl) (Nat.le_of_ble_eq_true rfl) rfl (r_freeEntry M) (fun r1 M1 hz => ?_)
  obtain ⟨rfl, hm_⟩ := hz
  refine rn_mem hm_ ?_
  clear hm_
  refine rn_istore_n (pc' := 5) rfl rfl rfl (Nat.le_of_ble_eq_true rfl) rfl ?_
  refine rn_iload_n (pc' := 6) rfl rfl rfl ?_
  refine rn_bipush (pc' := 8) (v := 24) rfl rfl (by decide) ?_
  refine rn_ic_ne (t := 30) (pc' := 11) rfl rfl rfl (fun h2 => ?_) (fun h2 => ?_)
  · exact absurd (show nI (fe M) = 24 by rw [hfe]; rfl) h2
  · refine rn_aload_n (pc' := 12) rfl rfl rfl ?_
    refine rn_getF (N := 1) (t' := 31) (pc' := 15) rfl rfl rfl rfl rfl (by first | assumption | decide | omega) ?_
    refine rn_iload_n (pc' := 16) rfl rfl rfl ?_
    refine rn_bipush (pc' := 18) (v := (-11)) rfl rfl (by decide) ?_
    refine rn_iast (N := 1) (K := 192) (pc' := 19) rfl rfl ⟨rfl, rfl⟩ rfl (by first | assumption | decide | omega) rfl (by decide) rfl (by first | assumption | decide | omega) ?_
    refine rn_aload_n (pc' := 20) rfl rfl rfl ?_
    refine rn_dupA (pc' := 21) rfl rfl ?_
    refine rn_getI (N := 1) (pc' := 24) rfl rfl rfl rfl (by decide) rfl (by first | assumption | decide | omega) ?_
    refine rn_iconst (pc' := 25) (v := 1) rfl rfl (by decide) ?_
    refine rn_iadd (pc' := 26) rfl rfl ?_
    refine rn_putI (N := 1) (pc' := 29) rfl rfl rfl rfl rfl (by first | assumption | decide | omega) ?_
    refine rn_return rfl rfl ?_
    exact ⟨rfl, rfl⟩
theorem r_forkY {d e f a l m : Nat} (M : xM) (he : e < 24) (ha : a < 8) (hfe : fe M = f) (hf : f < 24) (hne : ¬ e = f) (hl : M.1 20 0 24 = nI l) (hl2 : l ≤ 999) (hb : ∀ i, i < m → tk M (nI (nxi (i + 1) l)) = true) (hfr : tk M (nI (nxi (m + 1) l)) = false) : Rn (d + 2) 93 (0, xen 93 [vR 20 0, vI (nI e), vI (nI (8 * e + a))], [], M) (fun r M' => r = none ∧ M' = f_forkY M e f a (nI (nxi (m + 1) l))) := by
  generalize hp : nI (nxi (m + 1) l) = p
  unfold f_forkY
  have hew : ∀ w i : Nat, i < w → w * e + i < w * f ∨ w * f + i ≤ w * e + i := fun w i hi => by
    rcases Nat.lt_or_gt_of_ne hne with h | h
    · left
      have : w * (e + 1) ≤ w * f := Nat.mul_le_mul_left w h
      rw [Nat.mul_add] at this
      omega
    · right
      have : w * f ≤ w * e := Nat.mul_le_mul_left w (by omega)
      omega
  generalize h6 : fk6 (fk5 (fk4 (fk3 (fk2 (fk1 (mI M 20 0 24 p) e f p) e f 8) e f 21) e f) e f 4) f = N6
  have s6 : ∀ x5 : Option xV, Rn (d + 2) 93 (297, [some (vR 20 0), some (vI (nI e)), some (vI (nI (8 * e + a))), some (vI (nI f)), some (vI p), x5], [], N6) (fun r M' => r = none ∧ M' = fk7 N6 e f a p) := by
    intro x5
    have ei : (8 : Int32) * nI f + nI (8 * e + a) - 8 * nI e = nI (8 * f + a) := by
      rw [ix8, show (8 : Int32) * nI e = nI (8 * e) from pk_mul 8 e, pk_sub (by omega)]
      congr 1
      omega
    refine rn_aload_n (pc' := 298) rfl rfl rfl ?_
    refine rn_getF (N := 1) (t' := 31) (pc' := 301) rfl rfl rfl rfl rfl (by first | assumption | decide | omega) ?_
    refine rn_bipush (pc' := 303) (v := 8) rfl rfl (by decide) ?_
    refine rn_iload_n (pc' := 304) rfl rfl rfl ?_
    refine rn_imul (pc' := 305) rfl rfl ?_
    refine rn_iload_n (pc' := 306) rfl rfl rfl ?_
    refine rn_iadd (pc' := 307) rfl rfl ?_
    refine rn_bipush (pc' := 309) (v := 8) rfl rfl (by decide) ?_
    refine rn_iload_n (pc' := 310) rfl rfl rfl ?_
    refine rn_imul (pc' := 311) rfl rfl ?_
    refine rn_isub (pc' := 312) rfl rfl ?_
    refine rn_iconst (pc' := 313) (v := 0) rfl rfl (by decide) ?_
    refine rn_iast (k := 8 * f + a) (N := 1) (K := 192) (pc' := 314) rfl rfl ⟨rfl, rfl⟩ rfl (by first | assumption | decide | omega) rfl (by decide) (ei) (by first | assumption | decide | omega) ?_
    refine rn_aload_n (pc' := 315) rfl rfl rfl ?_
    refine rn_getF (N := 1) (t' := 31) (pc' := 318) rfl rfl rfl rfl rfl (by first | assumption | decide | omega) ?_
    refine rn_iload_n (pc' := 319) rfl rfl rfl ?_
    refine rn_iload (pc' := 321) rfl rfl rfl ?_
    refine rn_iast (N := 1) (K := 192) (pc' := 322) rfl rfl ⟨rfl, rfl⟩ rfl (by first | assumption | decide | omega) rfl (by decide) rfl (by first | assumption | decide | omega) ?_
    refine rn_aload_n (pc' := 323) rfl rfl rfl ?_
    refine rn_dupA (pc' := 324) rfl rfl ?_
    refine rn_getI (N := 1) (pc' := 327) rfl rfl rfl rfl (by decide) rfl (by first | assumption | decide | omega) ?_
    refine rn_iconst (pc' := 328) (v := 1) rfl rfl (by decide) ?_
    refine rn_iadd (pc' := 329) rfl rfl ?_
    refine rn_putI (N := 1) (pc' := 332) rfl rfl rfl rfl rfl (by first | assumption | decide | omega) ?_
    refine rn_return rfl rfl ?_
    exact ⟨rfl, rfl⟩
  generalize h4 : fk4 (fk3 (fk2 (fk1 (mI M 20 0 24 p) e f p) e f 8) e f 21) e f = N4 at h6
  have s5 : ∀ m i : Nat, i + m = 4 → Rn (d + 2) 93 (213, [some (vR 20 0), some (vI (nI e)), some (vI (nI (8 * e + a))), some (vI (nI f)), some (vI p), some (vI (nI i))], [], fk5 N4 e f i) (fun r M' => r = none ∧ M' = fk7 N6 e f a p) := by
    intro m
    induction m with
    | zero =>
      intro i hi
      obtain rfl : i = 4 := by omega
      have s6 := s6 (some (vI (nI 4)))
      rw [← h6] at s6
      rw [← h6]
      refine rn_iload (pc' := 215) rfl rfl rfl ?_
      refine rn_iconst (pc' := 216) (v := 4) rfl rfl (by decide) ?_
      refine rn_ic_ge (t := 269) (pc' := 219) rfl rfl rfl (fun h1 => ?_) (fun h1 => ?_)
      · refine rn_aload_n (pc' := 270) rfl rfl rfl ?_
        refine rn_getF (N := 1) (t' := 38) (pc' := 273) rfl rfl rfl rfl rfl (by first | assumption | decide | omega) ?_
        refine rn_iload_n (pc' := 274) rfl rfl rfl ?_
        refine rn_lconst (pc' := 275) (v := 0) rfl rfl rfl ?_
        refine rn_last (N := 1) (K := 24) (pc' := 276) rfl rfl ⟨rfl, rfl⟩ rfl (by first | assumption | decide | omega) rfl (by decide) rfl (by first | assumption | decide | omega) ?_
        refine rn_aload_n (pc' := 277) rfl rfl rfl ?_
        refine rn_getF (N := 1) (t' := 39) (pc' := 280) rfl rfl rfl rfl rfl (by first | assumption | decide | omega) ?_
        refine rn_iload_n (pc' := 281) rfl rfl rfl ?_
        refine rn_iconst (pc' := 282) (v := 0) rfl rfl (by decide) ?_
        refine rn_iast (N := 1) (K := 24) (pc' := 283) rfl rfl ⟨rfl, rfl⟩ rfl (by first | assumption | decide | omega) rfl (by decide) rfl (by first | assumption | decide | omega) ?_
        refine rn_aload_n (pc' := 284) rfl rfl rfl ?_
        refine rn_getF (N := 1) (t' := 41) (pc' := 287) rfl rfl rfl rfl rfl (by first | assumption | decide | omega) ?_
        refine rn_iload_n (pc' := 288) rfl rfl rfl ?_
        refine rn_iconst (pc' := 289) (v := 0) rfl rfl (by decide) ?_
        refine rn_bast (N := 1) (K := 24) (pc' := 290) rfl rfl ⟨rfl, rfl⟩ rfl (by first | assumption | decide | omega) rfl (by decide) rfl (by first | assumption | decide | omega) (by decide) ?_
        refine rn_aload_n (pc' := 291) rfl rfl rfl ?_
        refine rn_getF (N := 1) (t' := 42) (pc' := 294) rfl rfl rfl rfl rfl (by first | assumption | decide | omega) ?_
        refine rn_iload_n (pc' := 295) rfl rfl rfl ?_
        refine rn_iconst (pc' := 296) (v := 0) rfl rfl (by decide) ?_
        refine rn_bast (N := 1) (K := 24) (pc' := 297) rfl rfl ⟨rfl, rfl⟩ rfl (by first | assumption | decide | omega) rfl (by decide) rfl (by first | assumption | decide | omega) (by decide) ?_
        exact s6
      · exact absurd ((lt4 (by omega)).mp h1) (by omega)
    | succ m ih =>
      intro i hi
      have hi4 : i < 4 := by omega
      have ih := ih (i + 1) (by omega)
      have v1 : (fk5 N4 e f i).1 36 0 (4 * e + i) = N4.1 36 0 (4 * e + i) := cpyR _ _ _ _ (hew 4 i hi4)
      have u1 : mI (fk5 N4 e f i) 36 0 (4 * f + i) (N4.1 36 0 (4 * e + i)) = mRow (mRow N4 36 0 (va_cpy (N4.1 36 0) (N4.1 36 0) (4 * e) (4 * f) (i + 1))) 37 0 (va_cpy (N4.1 37 0) (N4.1 37 0) (4 * e) (4 * f) i) := by
        unfold fk5
        rw [mRow_put_ne _ _ _ _ _ _ (by decide), mRow_put, cpyS]
      have u2 : mI (mRow (mRow N4 36 0 (va_cpy (N4.1 36 0) (N4.1 36 0) (4 * e) (4 * f) (i + 1))) 37 0 (va_cpy (N4.1 37 0) (N4.1 37 0) (4 * e) (4 * f) i)) 37 0 (4 * f + i) (N4.1 37 0 (4 * e + i)) = fk5 N4 e f (i + 1) := by
        rw [mRow_put, cpyS]
        rfl
      have v2 : (mRow (mRow N4 36 0 (va_cpy (N4.1 36 0) (N4.1 36 0) (4 * e) (4 * f) (i + 1))) 37 0 (va_cpy (N4.1 37 0) (N4.1 37 0) (4 * e) (4 * f) i)).1 37 0 (4 * e + i) = N4.1 37 0 (4 * e + i) := cpyR _ _ _ _ (hew 4 i hi4)
      refine rn_iload (pc' := 215) rfl rfl rfl ?_
      refine rn_iconst (pc' := 216) (v := 4) rfl rfl (by decide) ?_
      refine rn_ic_ge (t := 269) (pc' := 219) rfl rfl rfl (fun h1 => ?_) (fun h1 => ?_)
      · exact absurd ((lt4 (by omega)).mpr hi4) h1
      · refine rn_aload_n (pc' := 220) rfl rfl rfl ?_
        refine rn_getF (N := 1) (t' := 36) (pc' := 223) rfl rfl rfl rfl rfl (by first | assumption | decide | omega) ?_
        refine rn_iconst (pc' := 224) (v := 4) rfl rfl (by decide) ?_
        refine rn_iload_n (pc' := 225) rfl rfl rfl ?_
        refine rn_imul (pc' := 226) rfl rfl ?_
        refine rn_iload (pc' := 228) rfl rfl rfl ?_
        refine rn_iadd (pc' := 229) rfl rfl ?_
        refine rn_aload_n (pc' := 230) rfl rfl rfl ?_
        refine rn_getF (N := 1) (t' := 36) (pc' := 233) rfl rfl rfl rfl rfl (by first | assumption | decide | omega) ?_
        refine rn_iconst (pc' := 234) (v := 4) rfl rfl (by decide) ?_
        refine rn_iload_n (pc' := 235) rfl rfl rfl ?_
        refine rn_imul (pc' := 236) rfl rfl ?_
        refine rn_iload (pc' := 238) rfl rfl rfl ?_
        refine rn_iadd (pc' := 239) rfl rfl ?_
        refine rn_iald (k := 4 * e + i) (N := 1) (K := 96) (pc' := 240) rfl rfl ⟨rfl, rfl⟩ rfl (by first | assumption | decide | omega) rfl (by decide) (ix4 e i) (by first | assumption | decide | omega) ?_
        refine rn_topI v1 ?_
        refine rn_iast (k := 4 * f + i) (N := 1) (K := 96) (pc' := 241) rfl rfl ⟨rfl, rfl⟩ rfl (by first | assumption | decide | omega) rfl (by decide) (ix4 f i) (by first | assumption | decide | omega) ?_
        rw [u1]
        refine rn_aload_n (pc' := 242) rfl rfl rfl ?_
        refine rn_getF (N := 1) (t' := 37) (pc' := 245) rfl rfl rfl rfl rfl (by first | assumption | decide | omega) ?_
        refine rn_iconst (pc' := 246) (v := 4) rfl rfl (by decide) ?_
        refine rn_iload_n (pc' := 247) rfl rfl rfl ?_
        refine rn_imul (pc' := 248) rfl rfl ?_
        refine rn_iload (pc' := 250) rfl rfl rfl ?_
        refine rn_iadd (pc' := 251) rfl rfl ?_
        refine rn_aload_n (pc' := 252) rfl rfl rfl ?_
        refine rn_getF (N := 1) (t' := 37) (pc' := 255) rfl rfl rfl rfl rfl (by first | assumption | decide | omega) ?_
        refine rn_iconst (pc' := 256) (v := 4) rfl rfl (by decide) ?_
        refine rn_iload_n (pc' := 257) rfl rfl rfl ?_
        refine rn_imul (pc' := 258) rfl rfl ?_
        refine rn_iload (pc' := 260) rfl rfl rfl ?_
        refine rn_iadd (pc' := 261) rfl rfl ?_
        refine rn_iald (k := 4 * e + i) (N := 1) (K := 96) (pc' := 262) rfl rfl ⟨rfl, rfl⟩ rfl (by first | assumption | decide | omega) rfl (by decide) (ix4 e i) (by first | assumption | decide | omega) ?_
        refine rn_topI v2 ?_
        refine rn_iast (k := 4 * f + i) (N := 1) (K := 96) (pc' := 263) rfl rfl ⟨rfl, rfl⟩ rfl (by first | assumption | decide | omega) rfl (by decide) (ix4 f i) (by first | assumption | decide | omega) ?_
        rw [u2]
        refine rn_iinc (pc' := 266) rfl rfl rfl (nI_inc _) rfl (Nat.le_of_ble_eq_true rfl) rfl ?_
        refine rn_goto (pc' := 213) rfl rfl ?_
        exact ih
  generalize h2 : fk2 (fk1 (mI M 20 0 24 p) e f p) e f 8 = N2 at h4
  have s3 : ∀ m i : Nat, i + m = 21 → Rn (d + 2) 93 (142, [some (vR 20 0), some (vI (nI e)), some (vI (nI (8 * e + a))), some (vI (nI f)), some (vI p), some (vI (nI i))], [], fk3 N2 e f i) (fun r M' => r = none ∧ M' = fk7 N6 e f a p) := by
    intro m
    induction m with
    | zero =>
      intro i hi
      obtain rfl : i = 21 := by omega
      have s5 := s5 4 0 rfl
      have e0 : fk5 N4 e f 0 = N4 := by unfold fk5; rw [cpy0, cpy0, mRow_id]; exact mRow_id N4 37 0
      rw [e0, ← h4] at s5
      refine rn_iload (pc' := 144) rfl rfl rfl ?_
      refine rn_bipush (pc' := 146) (v := 21) rfl rfl (by decide) ?_
      refine rn_ic_ge (t := 179) (pc' := 149) rfl rfl rfl (fun h1 => ?_) (fun h1 => ?_)
      · refine rn_aload_n (pc' := 180) rfl rfl rfl ?_
        refine rn_getF (N := 1) (t' := 33) (pc' := 183) rfl rfl rfl rfl rfl (by first | assumption | decide | omega) ?_
        refine rn_iload_n (pc' := 184) rfl rfl rfl ?_
        refine rn_iconst (pc' := 185) (v := 0) rfl rfl (by decide) ?_
        refine rn_iast (N := 1) (K := 24) (pc' := 186) rfl rfl ⟨rfl, rfl⟩ rfl (by first | assumption | decide | omega) rfl (by decide) rfl (by first | assumption | decide | omega) ?_
        refine rn_aload_n (pc' := 187) rfl rfl rfl ?_
        refine rn_getF (N := 1) (t' := 34) (pc' := 190) rfl rfl rfl rfl rfl (by first | assumption | decide | omega) ?_
        refine rn_iload_n (pc' := 191) rfl rfl rfl ?_
        refine rn_aload_n (pc' := 192) rfl rfl rfl ?_
        refine rn_getF (N := 1) (t' := 34) (pc' := 195) rfl rfl rfl rfl rfl (by first | assumption | decide | omega) ?_
        refine rn_iload_n (pc' := 196) rfl rfl rfl ?_
        refine rn_iald (N := 1) (K := 24) (pc' := 197) rfl rfl ⟨rfl, rfl⟩ rfl (by first | assumption | decide | omega) rfl (by decide) rfl (by first | assumption | decide | omega) ?_
        refine rn_iast (N := 1) (K := 24) (pc' := 198) rfl rfl ⟨rfl, rfl⟩ rfl (by first | assumption | decide | omega) rfl (by decide) rfl (by first | assumption | decide | omega) ?_
        refine rn_aload_n (pc' := 199) rfl rfl rfl ?_
        refine rn_getF (N := 1) (t' := 35) (pc' := 202) rfl rfl rfl rfl rfl (by first | assumption | decide | omega) ?_
        refine rn_iload_n (pc' := 203) rfl rfl rfl ?_
        refine rn_aload_n (pc' := 204) rfl rfl rfl ?_
        refine rn_getF (N := 1) (t' := 35) (pc' := 207) rfl rfl rfl rfl rfl (by first | assumption | decide | omega) ?_
        refine rn_iload_n (pc' := 208) rfl rfl rfl ?_
        refine rn_iald (N := 1) (K := 24) (pc' := 209) rfl rfl ⟨rfl, rfl⟩ rfl (by first | assumption | decide | omega) rfl (by decide) rfl (by first | assumption | decide | omega) ?_
        refine rn_iast (N := 1) (K := 24) (pc' := 210) rfl rfl ⟨rfl, rfl⟩ rfl (by first | assumption | decide | omega) rfl (by decide) rfl (by first | assumption | decide | omega) ?_
        refine rn_iconst (pc' := 211) (v := 0) rfl rfl (by decide) ?_
        refine rn_istore (pc' := 213) rfl rfl rfl (Nat.le_of_ble_eq_true rfl) rfl ?_
        exact s5
      · exact absurd ((lt21 (by omega)).mp h1) (by omega)
    | succ m ih =>
      intro i hi
      have hi4 : i < 21 := by omega
      have ih := ih (i + 1) (by omega)
      have v1 : (fk3 N2 e f i).1 32 0 (21 * e + i) = N2.1 32 0 (21 * e + i) := cpyR _ _ _ _ (hew 21 i hi4)
      have u1 : mI (fk3 N2 e f i) 32 0 (21 * f + i) (N2.1 32 0 (21 * e + i)) = fk3 N2 e f (i + 1) := by
        unfold fk3
        rw [mRow_put, cpyS]
      refine rn_iload (pc' := 144) rfl rfl rfl ?_
      refine rn_bipush (pc' := 146) (v := 21) rfl rfl (by decide) ?_
      refine rn_ic_ge (t := 179) (pc' := 149) rfl rfl rfl (fun h1 => ?_) (fun h1 => ?_)
      · exact absurd ((lt21 (by omega)).mpr hi4) h1
      · refine rn_aload_n (pc' := 150) rfl rfl rfl ?_
        refine rn_getF (N := 1) (t' := 32) (pc' := 153) rfl rfl rfl rfl rfl (by first | assumption | decide | omega) ?_
        refine rn_bipush (pc' := 155) (v := 21) rfl rfl (by decide) ?_
        refine rn_iload_n (pc' := 156) rfl rfl rfl ?_
        refine rn_imul (pc' := 157) rfl rfl ?_
        refine rn_iload (pc' := 159) rfl rfl rfl ?_
        refine rn_iadd (pc' := 160) rfl rfl ?_
        refine rn_aload_n (pc' := 161) rfl rfl rfl ?_
        refine rn_getF (N := 1) (t' := 32) (pc' := 164) rfl rfl rfl rfl rfl (by first | assumption | decide | omega) ?_
        refine rn_bipush (pc' := 166) (v := 21) rfl rfl (by decide) ?_
        refine rn_iload_n (pc' := 167) rfl rfl rfl ?_
        refine rn_imul (pc' := 168) rfl rfl ?_
        refine rn_iload (pc' := 170) rfl rfl rfl ?_
        refine rn_iadd (pc' := 171) rfl rfl ?_
        refine rn_iald (k := 21 * e + i) (N := 1) (K := 504) (pc' := 172) rfl rfl ⟨rfl, rfl⟩ rfl (by first | assumption | decide | omega) rfl (by decide) (ix21 e i) (by first | assumption | decide | omega) ?_
        refine rn_topI v1 ?_
        refine rn_iast (k := 21 * f + i) (N := 1) (K := 504) (pc' := 173) rfl rfl ⟨rfl, rfl⟩ rfl (by first | assumption | decide | omega) rfl (by decide) (ix21 f i) (by first | assumption | decide | omega) ?_
        rw [u1]
        refine rn_iinc (pc' := 176) rfl rfl rfl (nI_inc _) rfl (Nat.le_of_ble_eq_true rfl) rfl ?_
        refine rn_goto (pc' := 142) rfl rfl ?_
        exact ih
  generalize h1_ : fk1 (mI M 20 0 24 p) e f p = N1 at h2
  have s2 : ∀ m i : Nat, i + m = 8 → Rn (d + 2) 93 (102, [some (vR 20 0), some (vI (nI e)), some (vI (nI (8 * e + a))), some (vI (nI f)), some (vI p), some (vI (nI i))], [], fk2 N1 e f i) (fun r M' => r = none ∧ M' = fk7 N6 e f a p) := by
    intro m
    induction m with
    | zero =>
      intro i hi
      obtain rfl : i = 8 := by omega
      have s3 := s3 21 0 rfl
      have e0 : fk3 N2 e f 0 = N2 := by unfold fk3; rw [cpy0]; exact mRow_id N2 32 0
      rw [e0, ← h2] at s3
      refine rn_iload (pc' := 104) rfl rfl rfl ?_
      refine rn_bipush (pc' := 106) (v := 8) rfl rfl (by decide) ?_
      refine rn_ic_ge (t := 139) (pc' := 109) rfl rfl rfl (fun h1 => ?_) (fun h1 => ?_)
      · refine rn_iconst (pc' := 140) (v := 0) rfl rfl (by decide) ?_
        refine rn_istore (pc' := 142) rfl rfl rfl (Nat.le_of_ble_eq_true rfl) rfl ?_
        exact s3
      · exact absurd ((lt8 (by omega)).mp h1) (by omega)
    | succ m ih =>
      intro i hi
      have hi4 : i < 8 := by omega
      have ih := ih (i + 1) (by omega)
      have v1 : (fk2 N1 e f i).1 31 0 (8 * e + i) = N1.1 31 0 (8 * e + i) := cpyR _ _ _ _ (hew 8 i hi4)
      have u1 : mI (fk2 N1 e f i) 31 0 (8 * f + i) (N1.1 31 0 (8 * e + i)) = fk2 N1 e f (i + 1) := by
        unfold fk2
        rw [mRow_put, cpyS]
      refine rn_iload (pc' := 104) rfl rfl rfl ?_
      refine rn_bipush (pc' := 106) (v := 8) rfl rfl (by decide) ?_
      refine rn_ic_ge (t := 139) (pc' := 109) rfl rfl rfl (fun h1 => ?_) (fun h1 => ?_)
      · exact absurd ((lt8 (by omega)).mpr hi4) h1
      · refine rn_aload_n (pc' := 110) rfl rfl rfl ?_
        refine rn_getF (N := 1) (t' := 31) (pc' := 113) rfl rfl rfl rfl rfl (by first | assumption | decide | omega) ?_
        refine rn_bipush (pc' := 115) (v := 8) rfl rfl (by decide) ?_
        refine rn_iload_n (pc' := 116) rfl rfl rfl ?_
        refine rn_imul (pc' := 117) rfl rfl ?_
        refine rn_iload (pc' := 119) rfl rfl rfl ?_
        refine rn_iadd (pc' := 120) rfl rfl ?_
        refine rn_aload_n (pc' := 121) rfl rfl rfl ?_
        refine rn_getF (N := 1) (t' := 31) (pc' := 124) rfl rfl rfl rfl rfl (by first | assumption | decide | omega) ?_
        refine rn_bipush (pc' := 126) (v := 8) rfl rfl (by decide) ?_
        refine rn_iload_n (pc' := 127) rfl rfl rfl ?_
        refine rn_imul (pc' := 128) rfl rfl ?_
        refine rn_iload (pc' := 130) rfl rfl rfl ?_
        refine rn_iadd (pc' := 131) rfl rfl ?_
        refine rn_iald (k := 8 * e + i) (N := 1) (K := 192) (pc' := 132) rfl rfl ⟨rfl, rfl⟩ rfl (by first | assumption | decide | omega) rfl (by decide) (ix8 e i) (by first | assumption | decide | omega) ?_
        refine rn_topI v1 ?_
        refine rn_iast (k := 8 * f + i) (N := 1) (K := 192) (pc' := 133) rfl rfl ⟨rfl, rfl⟩ rfl (by first | assumption | decide | omega) rfl (by decide) (ix8 f i) (by first | assumption | decide | omega) ?_
        rw [u1]
        refine rn_iinc (pc' := 136) rfl rfl rfl (nI_inc _) rfl (Nat.le_of_ble_eq_true rfl) rfl ?_
        refine rn_goto (pc' := 102) rfl rfl ?_
        exact ih
  have s2 := s2 8 0 rfl
  have e0 : fk2 N1 e f 0 = N1 := by unfold fk2; rw [cpy0]; exact mRow_id N1 31 0
  rw [e0, ← h1_] at s2
  show Rn _ 93 (0, [some (vR 20 0), some (vI (nI e)), some (vI (nI (8 * e + a))), none, none, none], [], _) _
  refine rn_aload_n (pc' := 1) rfl rfl rfl ?_
  refine rn_callV (pc' := 4) (as := []) rfl rfl rfl ⟨Nat.le_of_ble_eq_true rfl, rfl, rfl⟩ rfl (by first | assumption | decide | omega) (Nat.le_of_ble_eq_true rfl) (Nat.le_of_ble_eq_true rfl) rfl (r_freeEntry M) (fun r1 M1 hz => ?_)
  obtain ⟨rfl, hm_⟩ := hz
  refine rn_mem hm_ ?_
  clear hm_
  rw [hfe]
  refine rn_istore_n (pc' := 5) rfl rfl rfl (Nat.le_of_ble_eq_true rfl) rfl ?_
  refine rn_iload_n (pc' := 6) rfl rfl rfl ?_
  refine rn_bipush (pc' := 8) (v := 24) rfl rfl (by decide) ?_
  refine rn_ic_ne (t := 30) (pc' := 11) rfl rfl rfl (fun h2 => ?_) (fun h2 => ?_)
  · refine rn_aload_n (pc' := 31) rfl rfl rfl ?_
    refine rn_callV (pc' := 34) (as := []) rfl rfl rfl ⟨Nat.le_of_ble_eq_true rfl, rfl, rfl⟩ rfl (by first | assumption | decide | omega) (Nat.le_of_ble_eq_true rfl) (Nat.le_of_ble_eq_true rfl) rfl (r_newPid M hl hl2 hb hfr) (fun r3 M3 hz => ?_)
    obtain ⟨rfl, hm_⟩ := hz
    refine rn_mem hm_ ?_
    clear hm_
    rw [hp]
    refine rn_istore (pc' := 36) rfl rfl rfl (Nat.le_of_ble_eq_true rfl) rfl ?_
    refine rn_aload_n (pc' := 37) rfl rfl rfl ?_
    refine rn_getF (N := 1) (t' := 25) (pc' := 40) rfl rfl rfl rfl rfl (by first | assumption | decide | omega) ?_
    refine rn_iload_n (pc' := 41) rfl rfl rfl ?_
    refine rn_iload (pc' := 43) rfl rfl rfl ?_
    refine rn_iast (N := 1) (K := 24) (pc' := 44) rfl rfl ⟨rfl, rfl⟩ rfl (by first | assumption | decide | omega) rfl (by decide) rfl (by first | assumption | decide | omega) ?_
    refine rn_aload_n (pc' := 45) rfl rfl rfl ?_
    refine rn_getF (N := 1) (t' := 26) (pc' := 48) rfl rfl rfl rfl rfl (by first | assumption | decide | omega) ?_
    refine rn_iload_n (pc' := 49) rfl rfl rfl ?_
    refine rn_aload_n (pc' := 50) rfl rfl rfl ?_
    refine rn_getF (N := 1) (t' := 25) (pc' := 53) rfl rfl rfl rfl rfl (by first | assumption | decide | omega) ?_
    refine rn_iload_n (pc' := 54) rfl rfl rfl ?_
    refine rn_iald (N := 1) (K := 24) (pc' := 55) rfl rfl ⟨rfl, rfl⟩ rfl (by first | assumption | decide | omega) rfl (by decide) rfl (by first | assumption | decide | omega) ?_
    refine rn_iast (N := 1) (K := 24) (pc' := 56) rfl rfl ⟨rfl, rfl⟩ rfl (by first | assumption | decide | omega) rfl (by decide) rfl (by first | assumption | decide | omega) ?_
    refine rn_aload_n (pc' := 57) rfl rfl rfl ?_
    refine rn_getF (N := 1) (t' := 27) (pc' := 60) rfl rfl rfl rfl rfl (by first | assumption | decide | omega) ?_
    refine rn_iload_n (pc' := 61) rfl rfl rfl ?_
    refine rn_aload_n (pc' := 62) rfl rfl rfl ?_
    refine rn_getF (N := 1) (t' := 27) (pc' := 65) rfl rfl rfl rfl rfl (by first | assumption | decide | omega) ?_
    refine rn_iload_n (pc' := 66) rfl rfl rfl ?_
    refine rn_iald (N := 1) (K := 24) (pc' := 67) rfl rfl ⟨rfl, rfl⟩ rfl (by first | assumption | decide | omega) rfl (by decide) rfl (by first | assumption | decide | omega) ?_
    refine rn_iast (N := 1) (K := 24) (pc' := 68) rfl rfl ⟨rfl, rfl⟩ rfl (by first | assumption | decide | omega) rfl (by decide) rfl (by first | assumption | decide | omega) ?_
    refine rn_aload_n (pc' := 69) rfl rfl rfl ?_
    refine rn_getF (N := 1) (t' := 28) (pc' := 72) rfl rfl rfl rfl rfl (by first | assumption | decide | omega) ?_
    refine rn_iload_n (pc' := 73) rfl rfl rfl ?_
    refine rn_iconst (pc' := 74) (v := 0) rfl rfl (by decide) ?_
    refine rn_iast (N := 1) (K := 24) (pc' := 75) rfl rfl ⟨rfl, rfl⟩ rfl (by first | assumption | decide | omega) rfl (by decide) rfl (by first | assumption | decide | omega) ?_
    refine rn_aload_n (pc' := 76) rfl rfl rfl ?_
    refine rn_getF (N := 1) (t' := 29) (pc' := 79) rfl rfl rfl rfl rfl (by first | assumption | decide | omega) ?_
    refine rn_iload_n (pc' := 80) rfl rfl rfl ?_
    refine rn_aload_n (pc' := 81) rfl rfl rfl ?_
    refine rn_getF (N := 1) (t' := 29) (pc' := 84) rfl rfl rfl rfl rfl (by first | assumption | decide | omega) ?_
    refine rn_iload_n (pc' := 85) rfl rfl rfl ?_
    refine rn_iald (N := 1) (K := 24) (pc' := 86) rfl rfl ⟨rfl, rfl⟩ rfl (by first | assumption | decide | omega) rfl (by decide) rfl (by first | assumption | decide | omega) ?_
    refine rn_iast (N := 1) (K := 24) (pc' := 87) rfl rfl ⟨rfl, rfl⟩ rfl (by first | assumption | decide | omega) rfl (by decide) rfl (by first | assumption | decide | omega) ?_
    refine rn_aload_n (pc' := 88) rfl rfl rfl ?_
    refine rn_getF (N := 1) (t' := 30) (pc' := 91) rfl rfl rfl rfl rfl (by first | assumption | decide | omega) ?_
    refine rn_iload_n (pc' := 92) rfl rfl rfl ?_
    refine rn_aload_n (pc' := 93) rfl rfl rfl ?_
    refine rn_getF (N := 1) (t' := 30) (pc' := 96) rfl rfl rfl rfl rfl (by first | assumption | decide | omega) ?_
    refine rn_iload_n (pc' := 97) rfl rfl rfl ?_
    refine rn_iald (N := 1) (K := 24) (pc' := 98) rfl rfl ⟨rfl, rfl⟩ rfl (by first | assumption | decide | omega) rfl (by decide) rfl (by first | assumption | decide | omega) ?_
    refine rn_iast (N := 1) (K := 24) (pc' := 99) rfl rfl ⟨rfl, rfl⟩ rfl (by first | assumption | decide | omega) rfl (by decide) rfl (by first | assumption | decide | omega) ?_
    refine rn_iconst (pc' := 100) (v := 0) rfl rfl (by decide) ?_
    refine rn_istore (pc' := 102) rfl rfl rfl (Nat.le_of_ble_eq_true rfl) rfl ?_
    exact s2
  · exact absurd ((nI_eq (a := f) (b := 24) (by omega) (by decide)).mp h2) (by omega)
end
section
/-! THE REFERENCE: await, kill, join -/
def lsF (p : Nat → Bool) : Nat → Nat → Option Nat
  | 0, _ => none
  | m + 1, i => if p i = true then some i else lsF p m (i + 1)
theorem lsF_some {p : Nat → Bool} {j : Nat} : ∀ {m i : Nat}, lsF p m i = some j → i ≤ j ∧ j < i + m ∧ p j = true := by
  intro m
  induction m with
  | zero => intro i h; cases h
  | succ m ih =>
    intro i h
    unfold lsF at h
    split at h
    · cases h; exact ⟨Nat.le_refl _, by omega, ‹_›⟩
    · have := ih h
      exact ⟨by omega, by omega, this.2.2⟩
def chB (M : xM) (e : Nat) (v : Int32) (k : Nat) : Bool := decide (0 < rpid M k) && (decide (rpar M k = rpid M e) && mns M e v k)
def zoB (M : xM) (e : Nat) (v : Int32) (k : Nat) : Bool := chB M e v k && decide (rste M k = 4)
def spB (M : xM) (e : Nat) (v : Int32) (k : Nat) : Bool := chB M e v k && (decide (rste M k = 3) && decide (M.1 41 0 k = 0))
def f_sleep (M : xM) (e a : Nat) (st : Int32) : xM :=
  let A := mI M 28 0 e st
  let B := mI A 43 0 e (nI a)
  let C := mI B 44 0 e (B.1 30 0 e)
  mI C 30 0 e (C.1 30 0 e - 1)
def f_reap (M : xM) (e a b z : Nat) : xM :=
  let A := mI M 31 0 (8 * e + a) (M.1 25 0 z)
  let B := mI A 31 0 (8 * e + b) (A.1 39 0 z)
  mI B 25 0 z 0
def f_stold (M : xM) (e a b z : Nat) : xM :=
  let A := mI M 31 0 (8 * e + a) (M.1 25 0 z)
  let B := mI A 31 0 (8 * e + b) (256 * A.1 40 0 z + 127)
  mI B 41 0 z 1
def f_await (M : xM) (e a b : Nat) (op : Int32) : xM :=
  match lsF (chB M e (M.1 31 0 (8 * e + a))) 24 0 with
  | none => mI M 31 0 (8 * e + a) (-10)
  | some _ => match lsF (zoB M e (M.1 31 0 (8 * e + a))) 24 0 with
    | some z => f_reap M e a b z
    | none => match (if op = 13 then lsF (spB M e (M.1 31 0 (8 * e + a))) 24 0 else none) with
      | some z => f_stold M e a b z
      | none => if op = 12 then mI M 31 0 (8 * e + a) 0 else f_sleep M e a 1
theorem lsF_lt {p : Nat → Bool} {i : Nat} (hi : i ≤ 24) : ∀ e, lsF p (24 - i) i = some e → e < 24 := fun e h => by
  have := lsF_some h
  omega
theorem dn_1 (i : Nat) : nI i + Int32.ofInt (-1) = nI i - 1 := by
  show nI i + (-1) = nI i - 1
  rw [Int32.sub_eq_add_neg]
theorem r_await {d e a b : Nat} (M : xM) (op : Int32) (he : e < 24) (ha : a < 8) (hb : b < 8) : Rn (d + 1) 96 (0, xen 96 [vR 20 0, vI (nI e), vI op, vI (nI (8 * e + a)), vI (nI (8 * e + b))], [], M) (fun r M' => r = none ∧ M' = f_await M e a b op) := by
  generalize hv : M.1 31 0 (8 * e + a) = v
  have ef : f_await M e a b op = match lsF (chB M e v) 24 0 with
      | none => mI M 31 0 (8 * e + a) (-10)
      | some _ => match lsF (zoB M e v) 24 0 with
        | some z => f_reap M e a b z
        | none => match (if op = 13 then lsF (spB M e v) 24 0 else none) with
          | some z => f_stold M e a b z
          | none => if op = 12 then mI M 31 0 (8 * e + a) 0 else f_sleep M e a 1 := by unfold f_await; rw [hv]
  have fin : Rn (d + 1) 96 (124, [some (vR 20 0), some (vI (nI e)), some (vI op), some (vI (nI (8 * e + a))), some (vI (nI (8 * e + b))), some (vI v), some (vI (oI (lsF (chB M e v) 24 0))), some (vI (oI (lsF (zoB M e v) 24 0))), some (vI (oI (lsF (spB M e v) 24 0))), some (vI (nI 0 - 1))], [], M) (fun r M' => r = none ∧ M' = f_await M e a b op) := by
    rw [ef]
    have o1 := oI_neg (lsF_lt (p := chB M e v) (i := 0) (by omega))
    have o2 := oI_neg (lsF_lt (p := zoB M e v) (i := 0) (by omega))
    have o3 := oI_neg (lsF_lt (p := spB M e v) (i := 0) (by omega))
    have es : nI (8 * e + a) - 8 * nI e = nI a := by
      rw [show (8 : Int32) * nI e = nI (8 * e) from pk_mul 8 e, pk_sub (by omega)]
      congr 1
      omega
    simp only [Nat.sub_zero] at o1 o2 o3
    cases c1 : lsF (chB M e v) 24 0 with
    | none =>
      rw [c1] at o1
      refine rn_iload (pc' := 126) rfl rfl rfl ?_
      refine rn_if_ge (t := 140) (pc' := 129) rfl rfl rfl (fun h1 => ?_) (fun h1 => ?_)
      · exact absurd (o1.mpr rfl) h1
      · refine rn_aload_n (pc' := 130) rfl rfl rfl ?_
        refine rn_getF (N := 1) (t' := 31) (pc' := 133) rfl rfl rfl rfl rfl (by first | assumption | decide | omega) ?_
        refine rn_iload_n (pc' := 134) rfl rfl rfl ?_
        refine rn_bipush (pc' := 136) (v := (-10)) rfl rfl (by decide) ?_
        refine rn_iast (N := 1) (K := 192) (pc' := 137) rfl rfl ⟨rfl, rfl⟩ rfl (by first | assumption | decide | omega) rfl (by decide) rfl (by first | assumption | decide | omega) ?_
        refine rn_goto (pc' := 296) rfl rfl ?_
        refine rn_return rfl rfl ?_
        exact ⟨rfl, rfl⟩
    | some q =>
      rw [c1] at o1
      have hq : ¬ oI (some q) < 0 := fun h => by cases o1.mp h
      cases c2 : lsF (zoB M e v) 24 0 with
      | some z =>
        have hz : z < 24 := lsF_lt (i := 0) (by omega) z c2
        have hz0 : ¬ oI (some z) < 0 := nI_pos (by omega)
        refine rn_iload (pc' := 126) rfl rfl rfl ?_
        refine rn_if_ge (t := 140) (pc' := 129) rfl rfl rfl (fun h1 => ?_) (fun h1 => ?_)
        · refine rn_iload (pc' := 142) rfl rfl rfl ?_
          refine rn_if_lt (t := 183) (pc' := 145) rfl rfl rfl (fun h2 => ?_) (fun h2 => ?_)
          · exact absurd h2 hz0
          · refine rn_aload_n (pc' := 146) rfl rfl rfl ?_
            refine rn_getF (N := 1) (t' := 31) (pc' := 149) rfl rfl rfl rfl rfl (by first | assumption | decide | omega) ?_
            refine rn_iload_n (pc' := 150) rfl rfl rfl ?_
            refine rn_aload_n (pc' := 151) rfl rfl rfl ?_
            refine rn_getF (N := 1) (t' := 25) (pc' := 154) rfl rfl rfl rfl rfl (by first | assumption | decide | omega) ?_
            refine rn_iload (pc' := 156) rfl rfl rfl ?_
            refine rn_iald (k := z) (N := 1) (K := 24) (pc' := 157) rfl rfl ⟨rfl, rfl⟩ rfl (by first | assumption | decide | omega) rfl (by decide) (rfl) (by first | assumption | decide | omega) ?_
            refine rn_iast (N := 1) (K := 192) (pc' := 158) rfl rfl ⟨rfl, rfl⟩ rfl (by first | assumption | decide | omega) rfl (by decide) rfl (by first | assumption | decide | omega) ?_
            refine rn_aload_n (pc' := 159) rfl rfl rfl ?_
            refine rn_getF (N := 1) (t' := 31) (pc' := 162) rfl rfl rfl rfl rfl (by first | assumption | decide | omega) ?_
            refine rn_iload (pc' := 164) rfl rfl rfl ?_
            refine rn_aload_n (pc' := 165) rfl rfl rfl ?_
            refine rn_getF (N := 1) (t' := 39) (pc' := 168) rfl rfl rfl rfl rfl (by first | assumption | decide | omega) ?_
            refine rn_iload (pc' := 170) rfl rfl rfl ?_
            refine rn_iald (k := z) (N := 1) (K := 24) (pc' := 171) rfl rfl ⟨rfl, rfl⟩ rfl (by first | assumption | decide | omega) rfl (by decide) (rfl) (by first | assumption | decide | omega) ?_
            refine rn_iast (N := 1) (K := 192) (pc' := 172) rfl rfl ⟨rfl, rfl⟩ rfl (by first | assumption | decide | omega) rfl (by decide) rfl (by first | assumption | decide | omega) ?_
            refine rn_aload_n (pc' := 173) rfl rfl rfl ?_
            refine rn_getF (N := 1) (t' := 25) (pc' := 176) rfl rfl rfl rfl rfl (by first | assumption | decide | omega) ?_
            refine rn_iload (pc' := 178) rfl rfl rfl ?_
            refine rn_iconst (pc' := 179) (v := 0) rfl rfl (by decide) ?_
            refine rn_iast (k := z) (N := 1) (K := 24) (pc' := 180) rfl rfl ⟨rfl, rfl⟩ rfl (by first | assumption | decide | omega) rfl (by decide) (rfl) (by first | assumption | decide | omega) ?_
            refine rn_goto (pc' := 296) rfl rfl ?_
            refine rn_return rfl rfl ?_
            exact ⟨rfl, rfl⟩
        · exact absurd h1 hq
      | none =>
        rw [c2] at o2
        have sl : ¬ op = 12 → Rn (d + 1) 96 (255, [some (vR 20 0), some (vI (nI e)), some (vI op), some (vI (nI (8 * e + a))), some (vI (nI (8 * e + b))), some (vI v), some (vI (oI (some q))), some (vI (oI none)), some (vI (oI (lsF (spB M e v) 24 0))), some (vI (nI 0 - 1))], [], M) (fun r M' => r = none ∧ M' = f_sleep M e a 1) := by
          intro _
          refine rn_aload_n (pc' := 256) rfl rfl rfl ?_
          refine rn_getF (N := 1) (t' := 28) (pc' := 259) rfl rfl rfl rfl rfl (by first | assumption | decide | omega) ?_
          refine rn_iload_n (pc' := 260) rfl rfl rfl ?_
          refine rn_iconst (pc' := 261) (v := 1) rfl rfl (by decide) ?_
          refine rn_iast (N := 1) (K := 24) (pc' := 262) rfl rfl ⟨rfl, rfl⟩ rfl (by first | assumption | decide | omega) rfl (by decide) rfl (by first | assumption | decide | omega) ?_
          refine rn_aload_n (pc' := 263) rfl rfl rfl ?_
          refine rn_getF (N := 1) (t' := 43) (pc' := 266) rfl rfl rfl rfl rfl (by first | assumption | decide | omega) ?_
          refine rn_iload_n (pc' := 267) rfl rfl rfl ?_
          refine rn_iload_n (pc' := 268) rfl rfl rfl ?_
          refine rn_bipush (pc' := 270) (v := 8) rfl rfl (by decide) ?_
          refine rn_iload_n (pc' := 271) rfl rfl rfl ?_
          refine rn_imul (pc' := 272) rfl rfl ?_
          refine rn_isub (pc' := 273) rfl rfl ?_
          refine rn_topI es ?_
          refine rn_iast (N := 1) (K := 24) (pc' := 274) rfl rfl ⟨rfl, rfl⟩ rfl (by first | assumption | decide | omega) rfl (by decide) rfl (by first | assumption | decide | omega) ?_
          refine rn_aload_n (pc' := 275) rfl rfl rfl ?_
          refine rn_getF (N := 1) (t' := 44) (pc' := 278) rfl rfl rfl rfl rfl (by first | assumption | decide | omega) ?_
          refine rn_iload_n (pc' := 279) rfl rfl rfl ?_
          refine rn_aload_n (pc' := 280) rfl rfl rfl ?_
          refine rn_getF (N := 1) (t' := 30) (pc' := 283) rfl rfl rfl rfl rfl (by first | assumption | decide | omega) ?_
          refine rn_iload_n (pc' := 284) rfl rfl rfl ?_
          refine rn_iald (N := 1) (K := 24) (pc' := 285) rfl rfl ⟨rfl, rfl⟩ rfl (by first | assumption | decide | omega) rfl (by decide) rfl (by first | assumption | decide | omega) ?_
          refine rn_iast (N := 1) (K := 24) (pc' := 286) rfl rfl ⟨rfl, rfl⟩ rfl (by first | assumption | decide | omega) rfl (by decide) rfl (by first | assumption | decide | omega) ?_
          refine rn_aload_n (pc' := 287) rfl rfl rfl ?_
          refine rn_getF (N := 1) (t' := 30) (pc' := 290) rfl rfl rfl rfl rfl (by first | assumption | decide | omega) ?_
          refine rn_iload_n (pc' := 291) rfl rfl rfl ?_
          refine rn_dup2 (pc' := 292) rfl rfl ?_
          refine rn_iald (N := 1) (K := 24) (pc' := 293) rfl rfl ⟨rfl, rfl⟩ rfl (by first | assumption | decide | omega) rfl (by decide) rfl (by first | assumption | decide | omega) ?_
          refine rn_iconst (pc' := 294) (v := 1) rfl rfl (by decide) ?_
          refine rn_isub (pc' := 295) rfl rfl ?_
          refine rn_iast (N := 1) (K := 24) (pc' := 296) rfl rfl ⟨rfl, rfl⟩ rfl (by first | assumption | decide | omega) rfl (by decide) rfl (by first | assumption | decide | omega) ?_
          refine rn_return rfl rfl ?_
          exact ⟨rfl, rfl⟩
        have lo : Rn (d + 1) 96 (239, [some (vR 20 0), some (vI (nI e)), some (vI op), some (vI (nI (8 * e + a))), some (vI (nI (8 * e + b))), some (vI v), some (vI (oI (some q))), some (vI (oI none)), some (vI (oI (lsF (spB M e v) 24 0))), some (vI (nI 0 - 1))], [], M) (fun r M' => r = none ∧ M' = if op = 12 then mI M 31 0 (8 * e + a) 0 else f_sleep M e a 1) := by
          by_cases h12 : op = 12
          · rw [if_pos h12]
            refine rn_iload_n (pc' := 240) rfl rfl rfl ?_
            refine rn_bipush (pc' := 242) (v := 12) rfl rfl (by decide) ?_
            refine rn_ic_ne (t := 255) (pc' := 245) rfl rfl rfl (fun h1 => ?_) (fun h1 => ?_)
            · exact absurd h12 h1
            · refine rn_aload_n (pc' := 246) rfl rfl rfl ?_
              refine rn_getF (N := 1) (t' := 31) (pc' := 249) rfl rfl rfl rfl rfl (by first | assumption | decide | omega) ?_
              refine rn_iload_n (pc' := 250) rfl rfl rfl ?_
              refine rn_iconst (pc' := 251) (v := 0) rfl rfl (by decide) ?_
              refine rn_iast (N := 1) (K := 192) (pc' := 252) rfl rfl ⟨rfl, rfl⟩ rfl (by first | assumption | decide | omega) rfl (by decide) rfl (by first | assumption | decide | omega) ?_
              refine rn_goto (pc' := 296) rfl rfl ?_
              refine rn_return rfl rfl ?_
              exact ⟨rfl, rfl⟩
          · rw [if_neg h12]
            refine rn_iload_n (pc' := 240) rfl rfl rfl ?_
            refine rn_bipush (pc' := 242) (v := 12) rfl rfl (by decide) ?_
            refine rn_ic_ne (t := 255) (pc' := 245) rfl rfl rfl (fun h1 => ?_) (fun h1 => ?_)
            · exact sl h12
            · exact absurd h1 h12
        by_cases h13 : op = 13
        · rw [if_pos h13]
          cases c3 : lsF (spB M e v) 24 0 with
          | some z =>
            have hz : z < 24 := lsF_lt (i := 0) (by omega) z c3
            have hz0 : ¬ oI (some z) < 0 := nI_pos (by omega)
            refine rn_iload (pc' := 126) rfl rfl rfl ?_
            refine rn_if_ge (t := 140) (pc' := 129) rfl rfl rfl (fun h1 => ?_) (fun h1 => ?_)
            · refine rn_iload (pc' := 142) rfl rfl rfl ?_
              refine rn_if_lt (t := 183) (pc' := 145) rfl rfl rfl (fun h2 => ?_) (fun h2 => ?_)
              · refine rn_iload_n (pc' := 184) rfl rfl rfl ?_
                refine rn_bipush (pc' := 186) (v := 13) rfl rfl (by decide) ?_
                refine rn_ic_ne (t := 239) (pc' := 189) rfl rfl rfl (fun h3 => ?_) (fun h3 => ?_)
                · first | exact absurd h13 h3 | exact absurd h4 hz0
                · refine rn_iload (pc' := 191) rfl rfl rfl ?_
                  refine rn_if_lt (t := 239) (pc' := 194) rfl rfl rfl (fun h4 => ?_) (fun h4 => ?_)
                  · first | exact absurd h13 h3 | exact absurd h4 hz0
                  · refine rn_aload_n (pc' := 195) rfl rfl rfl ?_
                    refine rn_getF (N := 1) (t' := 31) (pc' := 198) rfl rfl rfl rfl rfl (by first | assumption | decide | omega) ?_
                    refine rn_iload_n (pc' := 199) rfl rfl rfl ?_
                    refine rn_aload_n (pc' := 200) rfl rfl rfl ?_
                    refine rn_getF (N := 1) (t' := 25) (pc' := 203) rfl rfl rfl rfl rfl (by first | assumption | decide | omega) ?_
                    refine rn_iload (pc' := 205) rfl rfl rfl ?_
                    refine rn_iald (k := z) (N := 1) (K := 24) (pc' := 206) rfl rfl ⟨rfl, rfl⟩ rfl (by first | assumption | decide | omega) rfl (by decide) (rfl) (by first | assumption | decide | omega) ?_
                    refine rn_iast (N := 1) (K := 192) (pc' := 207) rfl rfl ⟨rfl, rfl⟩ rfl (by first | assumption | decide | omega) rfl (by decide) rfl (by first | assumption | decide | omega) ?_
                    refine rn_aload_n (pc' := 208) rfl rfl rfl ?_
                    refine rn_getF (N := 1) (t' := 31) (pc' := 211) rfl rfl rfl rfl rfl (by first | assumption | decide | omega) ?_
                    refine rn_iload (pc' := 213) rfl rfl rfl ?_
                    refine rn_sipush (pc' := 216) (v := 256) rfl rfl (by decide) ?_
                    refine rn_aload_n (pc' := 217) rfl rfl rfl ?_
                    refine rn_getF (N := 1) (t' := 40) (pc' := 220) rfl rfl rfl rfl rfl (by first | assumption | decide | omega) ?_
                    refine rn_iload (pc' := 222) rfl rfl rfl ?_
                    refine rn_iald (k := z) (N := 1) (K := 24) (pc' := 223) rfl rfl ⟨rfl, rfl⟩ rfl (by first | assumption | decide | omega) rfl (by decide) (rfl) (by first | assumption | decide | omega) ?_
                    refine rn_imul (pc' := 224) rfl rfl ?_
                    refine rn_bipush (pc' := 226) (v := 127) rfl rfl (by decide) ?_
                    refine rn_iadd (pc' := 227) rfl rfl ?_
                    refine rn_iast (N := 1) (K := 192) (pc' := 228) rfl rfl ⟨rfl, rfl⟩ rfl (by first | assumption | decide | omega) rfl (by decide) rfl (by first | assumption | decide | omega) ?_
                    refine rn_aload_n (pc' := 229) rfl rfl rfl ?_
                    refine rn_getF (N := 1) (t' := 41) (pc' := 232) rfl rfl rfl rfl rfl (by first | assumption | decide | omega) ?_
                    refine rn_iload (pc' := 234) rfl rfl rfl ?_
                    refine rn_iconst (pc' := 235) (v := 1) rfl rfl (by decide) ?_
                    refine rn_bast (k := z) (N := 1) (K := 24) (pc' := 236) rfl rfl ⟨rfl, rfl⟩ rfl (by first | assumption | decide | omega) rfl (by decide) (rfl) (by first | assumption | decide | omega) (by decide) ?_
                    refine rn_goto (pc' := 296) rfl rfl ?_
                    refine rn_return rfl rfl ?_
                    exact ⟨rfl, rfl⟩
              · exact absurd (o2.mpr rfl) h2
            · exact absurd h1 hq
          | none =>
            rw [c3] at o3 lo
            refine rn_iload (pc' := 126) rfl rfl rfl ?_
            refine rn_if_ge (t := 140) (pc' := 129) rfl rfl rfl (fun h1 => ?_) (fun h1 => ?_)
            · refine rn_iload (pc' := 142) rfl rfl rfl ?_
              refine rn_if_lt (t := 183) (pc' := 145) rfl rfl rfl (fun h2 => ?_) (fun h2 => ?_)
              · refine rn_iload_n (pc' := 184) rfl rfl rfl ?_
                refine rn_bipush (pc' := 186) (v := 13) rfl rfl (by decide) ?_
                refine rn_ic_ne (t := 239) (pc' := 189) rfl rfl rfl (fun h3 => ?_) (fun h3 => ?_)
                · exact lo
                · refine rn_iload (pc' := 191) rfl rfl rfl ?_
                  refine rn_if_lt (t := 239) (pc' := 194) rfl rfl rfl (fun h4 => ?_) (fun h4 => ?_)
                  · exact lo
                  · exact absurd (o3.mpr rfl) h4
              · exact absurd (o2.mpr rfl) h2
            · exact absurd h1 hq
        · rw [if_neg h13]
          refine rn_iload (pc' := 126) rfl rfl rfl ?_
          refine rn_if_ge (t := 140) (pc' := 129) rfl rfl rfl (fun h1 => ?_) (fun h1 => ?_)
          · refine rn_iload (pc' := 142) rfl rfl rfl ?_
            refine rn_if_lt (t := 183) (pc' := 145) rfl rfl rfl (fun h2 => ?_) (fun h2 => ?_)
            · refine rn_iload_n (pc' := 184) rfl rfl rfl ?_
              refine rn_bipush (pc' := 186) (v := 13) rfl rfl (by decide) ?_
              refine rn_ic_ne (t := 239) (pc' := 189) rfl rfl rfl (fun h3 => ?_) (fun h3 => ?_)
              · exact lo
              · exact absurd h3 h13
            · exact absurd (o2.mpr rfl) h2
          · exact absurd h1 hq
  have loop : ∀ i : Nat, i ≤ 24 → Rn (d + 1) 96 (21, [some (vR 20 0), some (vI (nI e)), some (vI op), some (vI (nI (8 * e + a))), some (vI (nI (8 * e + b))), some (vI v), some (vI (oI (lsF (chB M e v) (24 - i) i))), some (vI (oI (lsF (zoB M e v) (24 - i) i))), some (vI (oI (lsF (spB M e v) (24 - i) i))), some (vI (nI i - 1))], [], M) (fun r M' => r = none ∧ M' = f_await M e a b op) := by
    intro i
    induction i with
    | zero =>
      intro _
      refine rn_iload (pc' := 23) rfl rfl rfl ?_
      refine rn_if_lt (t := 124) (pc' := 26) rfl rfl rfl (fun h1 => ?_) (fun h1 => ?_)
      · exact fin
      · exact absurd (by decide) h1
    | succ i ih =>
      intro hi
      have hi24 : i < 24 := by omega
      have ih := ih (by omega)
      rw [show nI (i + 1) - 1 = nI i from nI_pred i]
      have un : ∀ p : Nat → Bool, lsF p (24 - i) i = if p i = true then some i else lsF p (24 - (i + 1)) (i + 1) := fun p => by
        rw [show 24 - i = 24 - (i + 1) + 1 by omega]
        rfl
      rw [un, un, un] at ih
      have no : chB M e v i = false → Rn (d + 1) 96 (118, [some (vR 20 0), some (vI (nI e)), some (vI op), some (vI (nI (8 * e + a))), some (vI (nI (8 * e + b))), some (vI v), some (vI (oI (lsF (chB M e v) (24 - (i + 1)) (i + 1)))), some (vI (oI (lsF (zoB M e v) (24 - (i + 1)) (i + 1)))), some (vI (oI (lsF (spB M e v) (24 - (i + 1)) (i + 1)))), some (vI (nI i))], [], M) (fun r M' => r = none ∧ M' = f_await M e a b op) := by
        intro hc
        have h1 : zoB M e v i = false := by unfold zoB; rw [hc]; rfl
        have h2 : spB M e v i = false := by unfold spB; rw [hc]; rfl
        rw [if_neg (by rw [hc]; simp), if_neg (by rw [h1]; simp), if_neg (by rw [h2]; simp)] at ih
        refine rn_iinc (pc' := 121) rfl rfl rfl (dn_1 i) rfl (Nat.le_of_ble_eq_true rfl) rfl ?_
        refine rn_goto (pc' := 21) rfl rfl ?_
        exact ih
      have yes : chB M e v i = true → Rn (d + 1) 96 (64, [some (vR 20 0), some (vI (nI e)), some (vI op), some (vI (nI (8 * e + a))), some (vI (nI (8 * e + b))), some (vI v), some (vI (oI (lsF (chB M e v) (24 - (i + 1)) (i + 1)))), some (vI (oI (lsF (zoB M e v) (24 - (i + 1)) (i + 1)))), some (vI (oI (lsF (spB M e v) (24 - (i + 1)) (i + 1)))), some (vI (nI i))], [], M) (fun r M' => r = none ∧ M' = f_await M e a b op) := by
        intro hc
        rw [if_pos hc] at ih
        have k2 : ∀ x, x = oI (if spB M e v i = true then some i else lsF (spB M e v) (24 - (i + 1)) (i + 1)) → Rn (d + 1) 96 (116, [some (vR 20 0), some (vI (nI e)), some (vI op), some (vI (nI (8 * e + a))), some (vI (nI (8 * e + b))), some (vI v), some (vI (nI i)), some (vI (oI (if zoB M e v i = true then some i else lsF (zoB M e v) (24 - (i + 1)) (i + 1)))), some (vI (oI (lsF (spB M e v) (24 - (i + 1)) (i + 1)))), some (vI (nI i))], [vI x], M) (fun r M' => r = none ∧ M' = f_await M e a b op) := by
          intro x hx
          subst hx
          refine rn_istore (pc' := 118) rfl rfl rfl (Nat.le_of_ble_eq_true rfl) rfl ?_
          refine rn_iinc (pc' := 121) rfl rfl rfl (dn_1 i) rfl (Nat.le_of_ble_eq_true rfl) rfl ?_
          refine rn_goto (pc' := 21) rfl rfl ?_
          exact ih
        have k1 : ∀ x, x = oI (if zoB M e v i = true then some i else lsF (zoB M e v) (24 - (i + 1)) (i + 1)) → Rn (d + 1) 96 (86, [some (vR 20 0), some (vI (nI e)), some (vI op), some (vI (nI (8 * e + a))), some (vI (nI (8 * e + b))), some (vI v), some (vI (nI i)), some (vI (oI (lsF (zoB M e v) (24 - (i + 1)) (i + 1)))), some (vI (oI (lsF (spB M e v) (24 - (i + 1)) (i + 1)))), some (vI (nI i))], [vI x], M) (fun r M' => r = none ∧ M' = f_await M e a b op) := by
          intro x hx
          subst hx
          refine rn_istore (pc' := 88) rfl rfl rfl (Nat.le_of_ble_eq_true rfl) rfl ?_
          refine rn_aload_n (pc' := 89) rfl rfl rfl ?_
          refine rn_getF (N := 1) (t' := 28) (pc' := 92) rfl rfl rfl rfl rfl (by first | assumption | decide | omega) ?_
          refine rn_iload (pc' := 94) rfl rfl rfl ?_
          refine rn_iald (N := 1) (K := 24) (pc' := 95) rfl rfl ⟨rfl, rfl⟩ rfl (by first | assumption | decide | omega) rfl (by decide) rfl (by first | assumption | decide | omega) ?_
          refine rn_iconst (pc' := 96) (v := 3) rfl rfl (by decide) ?_
          refine rn_ic_ne (t := 114) (pc' := 99) rfl rfl rfl (fun h1 => ?_) (fun h1 => ?_)
          · refine rn_iload (pc' := 116) rfl rfl rfl ?_
            refine k2 _ ?_
            simp [spB, hc, rste, oI, *]
          · refine rn_aload_n (pc' := 100) rfl rfl rfl ?_
            refine rn_getF (N := 1) (t' := 41) (pc' := 103) rfl rfl rfl rfl rfl (by first | assumption | decide | omega) ?_
            refine rn_iload (pc' := 105) rfl rfl rfl ?_
            refine rn_bald (N := 1) (K := 24) (pc' := 106) rfl rfl ⟨rfl, rfl⟩ rfl (by first | assumption | decide | omega) rfl (by decide) rfl (by first | assumption | decide | omega) ?_
            refine rn_if_ne (t := 114) (pc' := 109) rfl rfl rfl (fun h2 => ?_) (fun h2 => ?_)
            · refine rn_iload (pc' := 116) rfl rfl rfl ?_
              refine k2 _ ?_
              simp [spB, hc, rste, oI, *]
            · refine rn_iload (pc' := 111) rfl rfl rfl ?_
              refine rn_goto (pc' := 116) rfl rfl ?_
              refine k2 _ ?_
              simp [spB, hc, rste, oI, *]
        refine rn_iload (pc' := 66) rfl rfl rfl ?_
        refine rn_istore (pc' := 68) rfl rfl rfl (Nat.le_of_ble_eq_true rfl) rfl ?_
        refine rn_aload_n (pc' := 69) rfl rfl rfl ?_
        refine rn_getF (N := 1) (t' := 28) (pc' := 72) rfl rfl rfl rfl rfl (by first | assumption | decide | omega) ?_
        refine rn_iload (pc' := 74) rfl rfl rfl ?_
        refine rn_iald (N := 1) (K := 24) (pc' := 75) rfl rfl ⟨rfl, rfl⟩ rfl (by first | assumption | decide | omega) rfl (by decide) rfl (by first | assumption | decide | omega) ?_
        refine rn_iconst (pc' := 76) (v := 4) rfl rfl (by decide) ?_
        refine rn_ic_ne (t := 84) (pc' := 79) rfl rfl rfl (fun h1 => ?_) (fun h1 => ?_)
        · refine rn_iload (pc' := 86) rfl rfl rfl ?_
          refine k1 _ ?_
          simp [zoB, hc, rste, oI, *]
        · refine rn_iload (pc' := 81) rfl rfl rfl ?_
          refine rn_goto (pc' := 86) rfl rfl ?_
          refine k1 _ ?_
          simp [zoB, hc, rste, oI, *]
      refine rn_iload (pc' := 23) rfl rfl rfl ?_
      refine rn_if_lt (t := 124) (pc' := 26) rfl rfl rfl (fun h1 => ?_) (fun h1 => ?_)
      · exact absurd h1 (nI_pos (by omega))
      · refine rn_aload_n (pc' := 27) rfl rfl rfl ?_
        refine rn_getF (N := 1) (t' := 25) (pc' := 30) rfl rfl rfl rfl rfl (by first | assumption | decide | omega) ?_
        refine rn_iload (pc' := 32) rfl rfl rfl ?_
        refine rn_iald (N := 1) (K := 24) (pc' := 33) rfl rfl ⟨rfl, rfl⟩ rfl (by first | assumption | decide | omega) rfl (by decide) rfl (by first | assumption | decide | omega) ?_
        refine rn_if_le (t := 118) (pc' := 36) rfl rfl rfl (fun h2 => ?_) (fun h2 => ?_)
        · refine no ?_
          first | (simp [chB, rpid, rpar, *]; done) | (have := (bI_0 _).mp h5; simp [chB, this])
        · refine rn_aload_n (pc' := 37) rfl rfl rfl ?_
          refine rn_getF (N := 1) (t' := 26) (pc' := 40) rfl rfl rfl rfl rfl (by first | assumption | decide | omega) ?_
          refine rn_iload (pc' := 42) rfl rfl rfl ?_
          refine rn_iald (N := 1) (K := 24) (pc' := 43) rfl rfl ⟨rfl, rfl⟩ rfl (by first | assumption | decide | omega) rfl (by decide) rfl (by first | assumption | decide | omega) ?_
          refine rn_aload_n (pc' := 44) rfl rfl rfl ?_
          refine rn_getF (N := 1) (t' := 25) (pc' := 47) rfl rfl rfl rfl rfl (by first | assumption | decide | omega) ?_
          refine rn_iload_n (pc' := 48) rfl rfl rfl ?_
          refine rn_iald (N := 1) (K := 24) (pc' := 49) rfl rfl ⟨rfl, rfl⟩ rfl (by first | assumption | decide | omega) rfl (by decide) rfl (by first | assumption | decide | omega) ?_
          refine rn_ic_ne (t := 118) (pc' := 52) rfl rfl rfl (fun h3 => ?_) (fun h3 => ?_)
          · refine no ?_
            first | (simp [chB, rpid, rpar, *]; done) | (have := (bI_0 _).mp h5; simp [chB, this])
          · refine rn_aload_n (pc' := 53) rfl rfl rfl ?_
            refine rn_iload_n (pc' := 54) rfl rfl rfl ?_
            refine rn_iload (pc' := 56) rfl rfl rfl ?_
            refine rn_iload (pc' := 58) rfl rfl rfl ?_
            refine rn_callV (pc' := 61) (as := [_, _, _]) rfl rfl rfl ⟨Nat.le_of_ble_eq_true rfl, rfl, rfl⟩ rfl (by first | assumption | decide | omega) (Nat.le_of_ble_eq_true rfl) (Nat.le_of_ble_eq_true rfl) rfl (r_means M v he hi24) (fun r4 M4 hz => ?_)
            obtain ⟨rfl, hm_⟩ := hz
            refine rn_mem hm_ ?_
            clear hm_
            refine rn_if_eq (t := 118) (pc' := 64) rfl rfl rfl (fun h5 => ?_) (fun h5 => ?_)
            · refine no ?_
              first | (simp [chB, rpid, rpar, *]; done) | (have := (bI_0 _).mp h5; simp [chB, this])
            · refine yes ?_
              have hm5 : mns M e v i = true := by have := h5; simp only [bI_0, Bool.not_eq_false] at this; exact this
              simp [chB, rpid, rpar, hm5, *]
  have l0 := loop 24 (Nat.le_refl _)
  show Rn _ 96 (0, [some (vR 20 0), some (vI (nI e)), some (vI op), some (vI (nI (8 * e + a))), some (vI (nI (8 * e + b))), none, none, none, none, none], [], _) _
  refine rn_aload_n (pc' := 1) rfl rfl rfl ?_
  refine rn_getF (N := 1) (t' := 31) (pc' := 4) rfl rfl rfl rfl rfl (by first | assumption | decide | omega) ?_
  refine rn_iload_n (pc' := 5) rfl rfl rfl ?_
  refine rn_iald (N := 1) (K := 192) (pc' := 6) rfl rfl ⟨rfl, rfl⟩ rfl (by first | assumption | decide | omega) rfl (by decide) rfl (by first | assumption | decide | omega) ?_
  refine rn_topI hv ?_
  refine rn_istore (pc' := 8) rfl rfl rfl (Nat.le_of_ble_eq_true rfl) rfl ?_
  refine rn_iconst (pc' := 9) (v := (-1)) rfl rfl (by decide) ?_
  refine rn_istore (pc' := 11) rfl rfl rfl (Nat.le_of_ble_eq_true rfl) rfl ?_
  refine rn_iconst (pc' := 12) (v := (-1)) rfl rfl (by decide) ?_
  refine rn_istore (pc' := 14) rfl rfl rfl (Nat.le_of_ble_eq_true rfl) rfl ?_
  refine rn_iconst (pc' := 15) (v := (-1)) rfl rfl (by decide) ?_
  refine rn_istore (pc' := 17) rfl rfl rfl (Nat.le_of_ble_eq_true rfl) rfl ?_
  refine rn_bipush (pc' := 19) (v := 23) rfl rfl (by decide) ?_
  refine rn_istore (pc' := 21) rfl rfl rfl (Nat.le_of_ble_eq_true rfl) rfl ?_
  exact l0
end
section
/-! THE REFERENCE: kill (the act), join -/
def kpB (M : xM) (e : Nat) (v : Int32) (k : Nat) : Bool := decide (0 < rpid M k) && (if v = -1 then (!decide (k = e) && !decide (rpid M k = 1)) else mns M e v k)
def ksF (e : Nat) (v s : Int32) : Nat → Nat → xM × Nat → xM × Nat
  | 0, _, q => q
  | m + 1, i, q => ksF e v s m (i + 1) (if kpB q.1 e v i = true ∧ 0 < s then f_send q.1 i s else q.1, if kpB q.1 e v i = true then q.2 + 1 else q.2)
abbrev isSg (s : Int32) : Prop := 0 ≤ s.toInt64 ∧ s.toInt64 ≤ 20
def f_killY (M : xM) (e a : Nat) (v s : Int32) : xM := mI (ksF e v s 24 0 (M, 0)).1 31 0 (8 * e + a) (if 0 < nI (ksF e v s 24 0 (M, 0)).2 then 0 else -3)
theorem ksF_rok (e : Nat) (v s : Int32) : ∀ (m i n c : Nat) (M : xM), rok M n → ∃ n', n ≤ n' ∧ n' ≤ n + m ∧ rok (ksF e v s m i (M, c)).1 n' := by
  intro m
  induction m with
  | zero => intro i n c M h; exact ⟨n, Nat.le_refl _, by omega, h⟩
  | succ m ih =>
    intro i n c M h
    unfold ksF
    by_cases hk : kpB M e v i = true ∧ 0 < s
    · simp only [if_pos hk]
      obtain ⟨n', h1, h2, h3⟩ := ih (i + 1) (n + 1) _ _ (rok_send h i s)
      exact ⟨n', by omega, by omega, h3⟩
    · simp only [if_neg hk]
      obtain ⟨n', h1, h2, h3⟩ := ih (i + 1) n _ _ h
      exact ⟨n', by omega, by omega, h3⟩
theorem r_killN {d e a b : Nat} (M : xM) (he : e < 24) (ha : a < 8) (hb : b < 8) (hs : ¬ isSg (M.1 31 0 (8 * e + b))) : Rn (d + 1) 97 (0, xen 97 [vR 20 0, vI (nI e), vI (nI (8 * e + a)), vI (nI (8 * e + b))], [], M) (fun r M' => r = none ∧ M' = mI M 31 0 (8 * e + a) (-22)) := by
  show Rn _ 97 (0, [some (vR 20 0), some (vI (nI e)), some (vI (nI (8 * e + a))), some (vI (nI (8 * e + b))), none, none, none, none, none], [], _) _
  refine rn_aload_n (pc' := 1) rfl rfl rfl ?_
  refine rn_getF (N := 1) (t' := 31) (pc' := 4) rfl rfl rfl rfl rfl (by first | assumption | decide | omega) ?_
  refine rn_iload_n (pc' := 5) rfl rfl rfl ?_
  refine rn_iald (N := 1) (K := 192) (pc' := 6) rfl rfl ⟨rfl, rfl⟩ rfl (by first | assumption | decide | omega) rfl (by decide) rfl (by first | assumption | decide | omega) ?_
  refine rn_istore (pc' := 8) rfl rfl rfl (Nat.le_of_ble_eq_true rfl) rfl ?_
  refine rn_aload_n (pc' := 9) rfl rfl rfl ?_
  refine rn_getF (N := 1) (t' := 31) (pc' := 12) rfl rfl rfl rfl rfl (by first | assumption | decide | omega) ?_
  refine rn_iload_n (pc' := 13) rfl rfl rfl ?_
  refine rn_iald (N := 1) (K := 192) (pc' := 14) rfl rfl ⟨rfl, rfl⟩ rfl (by first | assumption | decide | omega) rfl (by decide) rfl (by first | assumption | decide | omega) ?_
  refine rn_istore (pc' := 16) rfl rfl rfl (Nat.le_of_ble_eq_true rfl) rfl ?_
  refine rn_iload (pc' := 18) rfl rfl rfl ?_
  refine rn_i2l (pc' := 19) rfl rfl ?_
  refine rn_lconst (pc' := 20) (v := 0) rfl rfl rfl ?_
  refine rn_ldc2_w (pc' := 23) (v := 20) rfl rfl rfl ?_
  refine rn_callS (pc' := 26) (as := [_, _, _]) rfl rfl rfl ⟨rfl, rfl, rfl⟩ (Nat.le_of_ble_eq_true rfl) (Nat.le_of_ble_eq_true rfl) rfl (r_in M _ 0 20) (fun r1 M1 hz => ?_)
  obtain ⟨rfl, hm_⟩ := hz
  refine rn_mem hm_ ?_
  clear hm_
  refine rn_if_ne (t := 38) (pc' := 29) rfl rfl rfl (fun h2 => ?_) (fun h2 => ?_)
  · exact absurd (ite01.mpr hs) h2
  · refine rn_aload_n (pc' := 30) rfl rfl rfl ?_
    refine rn_getF (N := 1) (t' := 31) (pc' := 33) rfl rfl rfl rfl rfl (by first | assumption | decide | omega) ?_
    refine rn_iload_n (pc' := 34) rfl rfl rfl ?_
    refine rn_bipush (pc' := 36) (v := (-22)) rfl rfl (by decide) ?_
    refine rn_iast (N := 1) (K := 192) (pc' := 37) rfl rfl ⟨rfl, rfl⟩ rfl (by first | assumption | decide | omega) rfl (by decide) rfl (by first | assumption | decide | omega) ?_
    refine rn_return rfl rfl ?_
    exact ⟨rfl, rfl⟩
theorem r_killY {d e a b n : Nat} (M : xM) (he : e < 24) (ha : a < 8) (hb : b < 8) (hs : isSg (M.1 31 0 (8 * e + b))) (hn : rok M n) (hn4 : n + 24 ≤ 4000) : Rn (d + 1) 97 (0, xen 97 [vR 20 0, vI (nI e), vI (nI (8 * e + a)), vI (nI (8 * e + b))], [], M) (fun r M' => r = none ∧ M' = f_killY M e a (M.1 31 0 (8 * e + a)) (M.1 31 0 (8 * e + b))) := by
  generalize hv : M.1 31 0 (8 * e + a) = v
  generalize hsg : M.1 31 0 (8 * e + b) = s at hs
  have loop : ∀ (m i n c : Nat) (N : xM) (x8 : Option xV), i + m = 24 → c ≤ i → rok N n → n + m ≤ 4000 → ksF e v s m i (N, c) = ksF e v s 24 0 (M, 0) → Rn (d + 1) 97 (44, [some (vR 20 0), some (vI (nI e)), some (vI (nI (8 * e + a))), some (vI (nI (8 * e + b))), some (vI v), some (vI s), some (vI (nI c)), some (vI (nI i)), x8], [], N) (fun r M' => r = none ∧ M' = f_killY M e a v s) := by
    intro m
    induction m with
    | zero =>
      intro i n c N x8 hi hc hn hn4 hq
      obtain rfl : i = 24 := by omega
      have ef : f_killY M e a v s = mI N 31 0 (8 * e + a) (if 0 < nI c then 0 else -3) := by unfold f_killY; rw [← hq]; rfl
      rw [ef]
      refine rn_iload (pc' := 46) rfl rfl rfl ?_
      refine rn_bipush (pc' := 48) (v := 24) rfl rfl (by decide) ?_
      refine rn_ic_ge (t := 145) (pc' := 51) rfl rfl rfl (fun h1 => ?_) (fun h1 => ?_)
      · refine rn_aload_n (pc' := 146) rfl rfl rfl ?_
        refine rn_getF (N := 1) (t' := 31) (pc' := 149) rfl rfl rfl rfl rfl (by first | assumption | decide | omega) ?_
        refine rn_iload_n (pc' := 150) rfl rfl rfl ?_
        refine rn_iload (pc' := 152) rfl rfl rfl ?_
        refine rn_if_le (t := 159) (pc' := 155) rfl rfl rfl (fun h2 => ?_) (fun h2 => ?_)
        · refine rn_bipush (pc' := 161) (v := (-3)) rfl rfl (by decide) ?_
          refine rn_iast (N := 1) (K := 192) (pc' := 162) rfl rfl ⟨rfl, rfl⟩ rfl (by first | assumption | decide | omega) rfl (by decide) rfl (by first | assumption | decide | omega) ?_
          refine rn_return rfl rfl ?_
          first | exact ⟨rfl, by rw [if_pos h2]⟩ | exact ⟨rfl, by rw [if_neg h2]⟩
        · refine rn_iconst (pc' := 156) (v := 0) rfl rfl (by decide) ?_
          refine rn_goto (pc' := 161) rfl rfl ?_
          refine rn_iast (N := 1) (K := 192) (pc' := 162) rfl rfl ⟨rfl, rfl⟩ rfl (by first | assumption | decide | omega) rfl (by decide) rfl (by first | assumption | decide | omega) ?_
          refine rn_return rfl rfl ?_
          first | exact ⟨rfl, by rw [if_pos h2]⟩ | exact ⟨rfl, by rw [if_neg h2]⟩
      · exact absurd ((lt24 (by omega)).mp h1) (by omega)
    | succ m ih =>
      intro i n c N x8 hi hc hn hn4 hq
      have hi24 : i < 24 := by omega
      unfold ksF at hq
      have hie : nI i = nI e ↔ i = e := nI_eq (by omega) (by omega)
      have tl : ∀ x, Rn (d + 1) 97 (139, [some (vR 20 0), some (vI (nI e)), some (vI (nI (8 * e + a))), some (vI (nI (8 * e + b))), some (vI v), some (vI s), some (vI (nI (if kpB N e v i = true then c + 1 else c))), some (vI (nI i)), some x], [], if kpB N e v i = true ∧ 0 < s then f_send N i s else N) (fun r M' => r = none ∧ M' = f_killY M e a v s) := by
        intro x
        obtain ⟨n1, q1, q2⟩ : ∃ n1, rok (if kpB N e v i = true ∧ 0 < s then f_send N i s else N) n1 ∧ n1 ≤ n + 1 := by
          split
          · exact ⟨n + 1, rok_send hn i s, by omega⟩
          · exact ⟨n, hn, by omega⟩
        have hc' : (if kpB N e v i = true then c + 1 else c) ≤ i + 1 := by split <;> omega
        refine rn_iinc (pc' := 142) rfl rfl rfl (nI_inc _) rfl (Nat.le_of_ble_eq_true rfl) rfl ?_
        refine rn_goto (pc' := 44) rfl rfl ?_
        exact ih (i + 1) n1 _ _ (some x) (by omega) hc' q1 (by omega) hq
      have k1 : ∀ x, x = bI (kpB N e v i) → Rn (d + 1) 97 (104, [some (vR 20 0), some (vI (nI e)), some (vI (nI (8 * e + a))), some (vI (nI (8 * e + b))), some (vI v), some (vI s), some (vI (nI c)), some (vI (nI i)), x8], [vI x], N) (fun r M' => r = none ∧ M' = f_killY M e a v s) := by
        intro x hx
        subst hx
        cases hkp : kpB N e v i with
        | true =>
          have tl := tl (vI (bI (kpB N e v i)))
          rw [hkp] at tl
          simp only [if_true, true_and] at tl
          by_cases h0 : 0 < s
          · rw [if_pos h0] at tl
            refine rn_istore (pc' := 106) rfl rfl rfl (Nat.le_of_ble_eq_true rfl) rfl ?_
            refine rn_iload (pc' := 108) rfl rfl rfl ?_
            refine rn_iload (pc' := 110) rfl rfl rfl ?_
            refine rn_if_eq (t := 117) (pc' := 113) rfl rfl rfl (fun h1 => ?_) (fun h1 => ?_)
            · exact absurd h1 (by decide)
            · refine rn_iconst (pc' := 114) (v := 1) rfl rfl (by decide) ?_
              refine rn_goto (pc' := 118) rfl rfl ?_
              refine rn_iadd (pc' := 119) rfl rfl ?_
              refine rn_topI (nI_1 c) ?_
              refine rn_istore (pc' := 121) rfl rfl rfl (Nat.le_of_ble_eq_true rfl) rfl ?_
              refine rn_iload (pc' := 123) rfl rfl rfl ?_
              refine rn_if_eq (t := 139) (pc' := 126) rfl rfl rfl (fun h2 => ?_) (fun h2 => ?_)
              · first | exact absurd h2 (by decide) | exact absurd h0 h3 | exact tl
              · refine rn_iload (pc' := 128) rfl rfl rfl ?_
                refine rn_if_le (t := 139) (pc' := 131) rfl rfl rfl (fun h3 => ?_) (fun h3 => ?_)
                · first | exact absurd h2 (by decide) | exact absurd h0 h3 | exact tl
                · refine rn_aload_n (pc' := 132) rfl rfl rfl ?_
                  refine rn_iload (pc' := 134) rfl rfl rfl ?_
                  refine rn_iload (pc' := 136) rfl rfl rfl ?_
                  refine rn_callV (pc' := 139) (as := [_, _]) rfl rfl rfl ⟨Nat.le_of_ble_eq_true rfl, rfl, rfl⟩ rfl (by first | assumption | decide | omega) (Nat.le_of_ble_eq_true rfl) (Nat.le_of_ble_eq_true rfl) rfl (r_send N s hi24 hn (by omega)) (fun r4 M4 hz => ?_)
                  obtain ⟨rfl, hm_⟩ := hz
                  refine rn_mem hm_ ?_
                  clear hm_
                  first | exact absurd h2 (by decide) | exact absurd h0 h3 | exact tl
          · rw [if_neg h0] at tl
            refine rn_istore (pc' := 106) rfl rfl rfl (Nat.le_of_ble_eq_true rfl) rfl ?_
            refine rn_iload (pc' := 108) rfl rfl rfl ?_
            refine rn_iload (pc' := 110) rfl rfl rfl ?_
            refine rn_if_eq (t := 117) (pc' := 113) rfl rfl rfl (fun h1 => ?_) (fun h1 => ?_)
            · exact absurd h1 (by decide)
            · refine rn_iconst (pc' := 114) (v := 1) rfl rfl (by decide) ?_
              refine rn_goto (pc' := 118) rfl rfl ?_
              refine rn_iadd (pc' := 119) rfl rfl ?_
              refine rn_topI (nI_1 c) ?_
              refine rn_istore (pc' := 121) rfl rfl rfl (Nat.le_of_ble_eq_true rfl) rfl ?_
              refine rn_iload (pc' := 123) rfl rfl rfl ?_
              refine rn_if_eq (t := 139) (pc' := 126) rfl rfl rfl (fun h2 => ?_) (fun h2 => ?_)
              · first | exact absurd h2 (by decide) | exact tl
              · refine rn_iload (pc' := 128) rfl rfl rfl ?_
                refine rn_if_le (t := 139) (pc' := 131) rfl rfl rfl (fun h3 => ?_) (fun h3 => ?_)
                · first | exact absurd h2 (by decide) | exact tl
                · exact absurd h3 h0
        | false =>
          have tl := tl (vI (bI (kpB N e v i)))
          rw [hkp] at tl
          simp only [Bool.false_eq_true, if_false, false_and] at tl
          refine rn_istore (pc' := 106) rfl rfl rfl (Nat.le_of_ble_eq_true rfl) rfl ?_
          refine rn_iload (pc' := 108) rfl rfl rfl ?_
          refine rn_iload (pc' := 110) rfl rfl rfl ?_
          refine rn_if_eq (t := 117) (pc' := 113) rfl rfl rfl (fun h1 => ?_) (fun h1 => ?_)
          · refine rn_iconst (pc' := 118) (v := 0) rfl rfl (by decide) ?_
            refine rn_iadd (pc' := 119) rfl rfl ?_
            refine rn_topI (show nI c + 0 = nI c from Int32.add_zero _) ?_
            refine rn_istore (pc' := 121) rfl rfl rfl (Nat.le_of_ble_eq_true rfl) rfl ?_
            refine rn_iload (pc' := 123) rfl rfl rfl ?_
            refine rn_if_eq (t := 139) (pc' := 126) rfl rfl rfl (fun h2 => ?_) (fun h2 => ?_)
            · exact tl
            · exact absurd rfl h2
          · exact absurd rfl h1
      have hb5 : ∀ bb : Bool, ¬ bI bb = 0 → bb = true := fun bb h => by cases bb <;> simp [bI] at h ⊢
      refine rn_iload (pc' := 46) rfl rfl rfl ?_
      refine rn_bipush (pc' := 48) (v := 24) rfl rfl (by decide) ?_
      refine rn_ic_ge (t := 145) (pc' := 51) rfl rfl rfl (fun h1 => ?_) (fun h1 => ?_)
      · exact absurd ((lt24 (by omega)).mpr hi24) h1
      · refine rn_aload_n (pc' := 52) rfl rfl rfl ?_
        refine rn_getF (N := 1) (t' := 25) (pc' := 55) rfl rfl rfl rfl rfl (by first | assumption | decide | omega) ?_
        refine rn_iload (pc' := 57) rfl rfl rfl ?_
        refine rn_iald (N := 1) (K := 24) (pc' := 58) rfl rfl ⟨rfl, rfl⟩ rfl (by first | assumption | decide | omega) rfl (by decide) rfl (by first | assumption | decide | omega) ?_
        refine rn_if_le (t := 103) (pc' := 61) rfl rfl rfl (fun h2 => ?_) (fun h2 => ?_)
        · refine rn_iconst (pc' := 104) (v := 0) rfl rfl (by decide) ?_
          refine k1 _ ?_
          first | (simp [kpB, rpid, bI, *]; done) | (have h9 := (bI_0 _).mp h5; simp [kpB, rpid, bI, h9, *]; done) | (have h9 := hb5 _ h5; simp [kpB, rpid, bI, h9, *]; done) | (rw [hie] at h4; simp [kpB, rpid, bI, *]; done) | (rw [hie] at h4; simp_all [kpB, rpid, bI])
        · refine rn_iload (pc' := 63) rfl rfl rfl ?_
          refine rn_iconst (pc' := 64) (v := (-1)) rfl rfl (by decide) ?_
          refine rn_ic_ne (t := 87) (pc' := 67) rfl rfl rfl (fun h3 => ?_) (fun h3 => ?_)
          · refine rn_aload_n (pc' := 88) rfl rfl rfl ?_
            refine rn_iload_n (pc' := 89) rfl rfl rfl ?_
            refine rn_iload (pc' := 91) rfl rfl rfl ?_
            refine rn_iload (pc' := 93) rfl rfl rfl ?_
            refine rn_callV (pc' := 96) (as := [_, _, _]) rfl rfl rfl ⟨Nat.le_of_ble_eq_true rfl, rfl, rfl⟩ rfl (by first | assumption | decide | omega) (Nat.le_of_ble_eq_true rfl) (Nat.le_of_ble_eq_true rfl) rfl (r_means N v he hi24) (fun r4 M4 hz => ?_)
            obtain ⟨rfl, hm_⟩ := hz
            refine rn_mem hm_ ?_
            clear hm_
            refine rn_if_eq (t := 103) (pc' := 99) rfl rfl rfl (fun h5 => ?_) (fun h5 => ?_)
            · refine rn_iconst (pc' := 104) (v := 0) rfl rfl (by decide) ?_
              refine k1 _ ?_
              first | (simp [kpB, rpid, bI, *]; done) | (have h9 := (bI_0 _).mp h5; simp [kpB, rpid, bI, h9, *]; done) | (have h9 := hb5 _ h5; simp [kpB, rpid, bI, h9, *]; done) | (rw [hie] at h4; simp [kpB, rpid, bI, *]; done) | (rw [hie] at h4; simp_all [kpB, rpid, bI])
            · refine rn_iconst (pc' := 100) (v := 1) rfl rfl (by decide) ?_
              refine rn_goto (pc' := 104) rfl rfl ?_
              refine k1 _ ?_
              first | (simp [kpB, rpid, bI, *]; done) | (have h9 := (bI_0 _).mp h5; simp [kpB, rpid, bI, h9, *]; done) | (have h9 := hb5 _ h5; simp [kpB, rpid, bI, h9, *]; done) | (rw [hie] at h4; simp [kpB, rpid, bI, *]; done) | (rw [hie] at h4; simp_all [kpB, rpid, bI])
          · refine rn_iload (pc' := 69) rfl rfl rfl ?_
            refine rn_iload_n (pc' := 70) rfl rfl rfl ?_
            refine rn_ic_eq (t := 103) (pc' := 73) rfl rfl rfl (fun h4 => ?_) (fun h4 => ?_)
            · refine rn_iconst (pc' := 104) (v := 0) rfl rfl (by decide) ?_
              refine k1 _ ?_
              first | (simp [kpB, rpid, bI, *]; done) | (have h9 := (bI_0 _).mp h5; simp [kpB, rpid, bI, h9, *]; done) | (have h9 := hb5 _ h5; simp [kpB, rpid, bI, h9, *]; done) | (rw [hie] at h4; simp [kpB, rpid, bI, *]; done) | (rw [hie] at h4; simp_all [kpB, rpid, bI])
            · refine rn_aload_n (pc' := 74) rfl rfl rfl ?_
              refine rn_getF (N := 1) (t' := 25) (pc' := 77) rfl rfl rfl rfl rfl (by first | assumption | decide | omega) ?_
              refine rn_iload (pc' := 79) rfl rfl rfl ?_
              refine rn_iald (N := 1) (K := 24) (pc' := 80) rfl rfl ⟨rfl, rfl⟩ rfl (by first | assumption | decide | omega) rfl (by decide) rfl (by first | assumption | decide | omega) ?_
              refine rn_iconst (pc' := 81) (v := 1) rfl rfl (by decide) ?_
              refine rn_ic_eq (t := 103) (pc' := 84) rfl rfl rfl (fun h5 => ?_) (fun h5 => ?_)
              · refine rn_iconst (pc' := 104) (v := 0) rfl rfl (by decide) ?_
                refine k1 _ ?_
                first | (simp [kpB, rpid, bI, *]; done) | (have h9 := (bI_0 _).mp h5; simp [kpB, rpid, bI, h9, *]; done) | (have h9 := hb5 _ h5; simp [kpB, rpid, bI, h9, *]; done) | (rw [hie] at h4; simp [kpB, rpid, bI, *]; done) | (rw [hie] at h4; simp_all [kpB, rpid, bI])
              · refine rn_goto (pc' := 99) rfl rfl ?_
                refine rn_iconst (pc' := 100) (v := 1) rfl rfl (by decide) ?_
                refine rn_goto (pc' := 104) rfl rfl ?_
                refine k1 _ ?_
                first | (simp [kpB, rpid, bI, *]; done) | (have h9 := (bI_0 _).mp h5; simp [kpB, rpid, bI, h9, *]; done) | (have h9 := hb5 _ h5; simp [kpB, rpid, bI, h9, *]; done) | (rw [hie] at h4; simp [kpB, rpid, bI, *]; done) | (rw [hie] at h4; simp_all [kpB, rpid, bI])
  show Rn _ 97 (0, [some (vR 20 0), some (vI (nI e)), some (vI (nI (8 * e + a))), some (vI (nI (8 * e + b))), none, none, none, none, none], [], _) _
  refine rn_aload_n (pc' := 1) rfl rfl rfl ?_
  refine rn_getF (N := 1) (t' := 31) (pc' := 4) rfl rfl rfl rfl rfl (by first | assumption | decide | omega) ?_
  refine rn_iload_n (pc' := 5) rfl rfl rfl ?_
  refine rn_iald (N := 1) (K := 192) (pc' := 6) rfl rfl ⟨rfl, rfl⟩ rfl (by first | assumption | decide | omega) rfl (by decide) rfl (by first | assumption | decide | omega) ?_
  refine rn_topI hv ?_
  refine rn_istore (pc' := 8) rfl rfl rfl (Nat.le_of_ble_eq_true rfl) rfl ?_
  refine rn_aload_n (pc' := 9) rfl rfl rfl ?_
  refine rn_getF (N := 1) (t' := 31) (pc' := 12) rfl rfl rfl rfl rfl (by first | assumption | decide | omega) ?_
  refine rn_iload_n (pc' := 13) rfl rfl rfl ?_
  refine rn_iald (N := 1) (K := 192) (pc' := 14) rfl rfl ⟨rfl, rfl⟩ rfl (by first | assumption | decide | omega) rfl (by decide) rfl (by first | assumption | decide | omega) ?_
  refine rn_topI hsg ?_
  refine rn_istore (pc' := 16) rfl rfl rfl (Nat.le_of_ble_eq_true rfl) rfl ?_
  refine rn_iload (pc' := 18) rfl rfl rfl ?_
  refine rn_i2l (pc' := 19) rfl rfl ?_
  refine rn_lconst (pc' := 20) (v := 0) rfl rfl rfl ?_
  refine rn_ldc2_w (pc' := 23) (v := 20) rfl rfl rfl ?_
  refine rn_callS (pc' := 26) (as := [_, _, _]) rfl rfl rfl ⟨rfl, rfl, rfl⟩ (Nat.le_of_ble_eq_true rfl) (Nat.le_of_ble_eq_true rfl) rfl (r_in M _ 0 20) (fun r1 M1 hz => ?_)
  obtain ⟨rfl, hm_⟩ := hz
  refine rn_mem hm_ ?_
  clear hm_
  refine rn_if_ne (t := 38) (pc' := 29) rfl rfl rfl (fun h2 => ?_) (fun h2 => ?_)
  · refine rn_iconst (pc' := 39) (v := 0) rfl rfl (by decide) ?_
    refine rn_istore (pc' := 41) rfl rfl rfl (Nat.le_of_ble_eq_true rfl) rfl ?_
    refine rn_iconst (pc' := 42) (v := 0) rfl rfl (by decide) ?_
    refine rn_istore (pc' := 44) rfl rfl rfl (Nat.le_of_ble_eq_true rfl) rfl ?_
    exact loop 24 0 n 0 M none (by omega) (by omega) hn (by omega) rfl
  · exact absurd hs (ite01.mp h2)
/-! join -/
def gmF (M : xM) (g : Int32) : Nat → Bool
  | 0 => false
  | k + 1 => gmF M g k || (decide (0 < rpid M k) && decide (rgrp M k = g))
def f_join2 (M : xM) (e a : Nat) (k : Nat) (g : Int32) : xM := if (decide (g = rpid M k) || gmF M g 24) = true then mI (mI M 27 0 k g) 31 0 (8 * e + a) 0 else mI M 31 0 (8 * e + a) (-1)
def f_joinK (M : xM) (e a b : Nat) (ko : Option Nat) : xM := match ko with
  | none => mI M 31 0 (8 * e + a) (-3)
  | some k => if ¬ k = e ∧ (¬ rpar M k = rpid M e ∨ rste M k = 4) then mI M 31 0 (8 * e + a) (-3) else if ¬ k = e ∧ ¬ M.1 42 0 k = 0 then mI M 31 0 (8 * e + a) (-13) else f_join2 M e a k (if M.1 31 0 (8 * e + b) = 0 then rpid M k else M.1 31 0 (8 * e + b))
def f_join (M : xM) (e a b : Nat) : xM := f_joinK M e a b (if M.1 31 0 (8 * e + a) = 0 then some e else eo M (M.1 31 0 (8 * e + a)))
theorem r_join {d e a b : Nat} (M : xM) (he : e < 24) (ha : a < 8) (hb : b < 8) : Rn (d + 1) 98 (0, xen 98 [vR 20 0, vI (nI e), vI (nI (8 * e + a)), vI (nI (8 * e + b))], [], M) (fun r M' => r = none ∧ M' = f_join M e a b) := by
  unfold f_join
  generalize hv : M.1 31 0 (8 * e + a) = v
  generalize hko : (if v = 0 then some e else eo M v) = ko
  have hkl : ∀ k, ko = some k → k < 24 := fun k hk => by
    rw [← hko] at hk
    split at hk
    · cases hk; exact he
    · exact eo_lt hk
  have ho := oI_neg hkl
  have s2 : Rn (d + 1) 98 (25, [some (vR 20 0), some (vI (nI e)), some (vI (nI (8 * e + a))), some (vI (nI (8 * e + b))), some (vI v), some (vI (oI ko)), none, none, none], [], M) (fun r M' => r = none ∧ M' = f_joinK M e a b ko) := by
    cases hk0 : ko with
    | none =>
      rw [hk0] at ho
      unfold f_joinK
      refine rn_iload (pc' := 27) rfl rfl rfl ?_
      refine rn_if_lt (t := 63) (pc' := 30) rfl rfl rfl (fun h1 => ?_) (fun h1 => ?_)
      · refine rn_aload_n (pc' := 64) rfl rfl rfl ?_
        refine rn_getF (N := 1) (t' := 31) (pc' := 67) rfl rfl rfl rfl rfl (by first | assumption | decide | omega) ?_
        refine rn_iload_n (pc' := 68) rfl rfl rfl ?_
        refine rn_bipush (pc' := 70) (v := (-3)) rfl rfl (by decide) ?_
        refine rn_iast (N := 1) (K := 192) (pc' := 71) rfl rfl ⟨rfl, rfl⟩ rfl (by first | assumption | decide | omega) rfl (by decide) rfl (by first | assumption | decide | omega) ?_
        refine rn_return rfl rfl ?_
        exact ⟨rfl, rfl⟩
      · exact absurd (ho.mpr rfl) h1
    | some k =>
      have hk := hkl k hk0
      unfold f_joinK
      have hk0' : ¬ oI (some k) < 0 := nI_pos (by omega)
      have hke : oI (some k) = nI e ↔ k = e := nI_eq (a := k) (b := e) (by omega) (by omega)
      have last : ∀ g : Int32, Rn (d + 1) 98 (122, [some (vR 20 0), some (vI (nI e)), some (vI (nI (8 * e + a))), some (vI (nI (8 * e + b))), some (vI v), some (vI (oI (some k))), none, none, none], [vI g], M) (fun r M' => r = none ∧ M' = f_join2 M e a k g) := by
        intro g
        have fin : ∀ x8, Rn (d + 1) 98 (193, [some (vR 20 0), some (vI (nI e)), some (vI (nI (8 * e + a))), some (vI (nI (8 * e + b))), some (vI v), some (vI (oI (some k))), some (vI g), some (vI (bI (decide (g = rpid M k) || gmF M g 24))), x8], [], M) (fun r M' => r = none ∧ M' = f_join2 M e a k g) := by
          intro x8
          unfold f_join2
          cases hc : (decide (g = rpid M k) || gmF M g 24) with
          | true =>
            simp only [if_true]
            have h207 : Rn (d + 1) 98 (207, [some (vR 20 0), some (vI (nI e)), some (vI (nI (8 * e + a))), some (vI (nI (8 * e + b))), some (vI v), some (vI (oI (some k))), some (vI g), some (vI (bI true)), x8], [], mI M 27 0 k g) (fun r M' => r = none ∧ M' = mI (mI M 27 0 k g) 31 0 (8 * e + a) 0) := by
              refine rn_aload_n (pc' := 208) rfl rfl rfl ?_
              refine rn_getF (N := 1) (t' := 31) (pc' := 211) rfl rfl rfl rfl rfl (by first | assumption | decide | omega) ?_
              refine rn_iload_n (pc' := 212) rfl rfl rfl ?_
              refine rn_iload (pc' := 214) rfl rfl rfl ?_
              refine rn_if_eq (t := 221) (pc' := 217) rfl rfl rfl (fun h1 => ?_) (fun h1 => ?_)
              · exact absurd h1 (by decide)
              · refine rn_iconst (pc' := 218) (v := 0) rfl rfl (by decide) ?_
                refine rn_goto (pc' := 222) rfl rfl ?_
                refine rn_iast (N := 1) (K := 192) (pc' := 223) rfl rfl ⟨rfl, rfl⟩ rfl (by first | assumption | decide | omega) rfl (by decide) rfl (by first | assumption | decide | omega) ?_
                refine rn_return rfl rfl ?_
                exact ⟨rfl, rfl⟩
            refine rn_iload (pc' := 195) rfl rfl rfl ?_
            refine rn_if_eq (t := 207) (pc' := 198) rfl rfl rfl (fun h1 => ?_) (fun h1 => ?_)
            · first | exact absurd h1 (by decide) | exact h207
            · refine rn_aload_n (pc' := 199) rfl rfl rfl ?_
              refine rn_getF (N := 1) (t' := 27) (pc' := 202) rfl rfl rfl rfl rfl (by first | assumption | decide | omega) ?_
              refine rn_iload (pc' := 204) rfl rfl rfl ?_
              refine rn_iload (pc' := 206) rfl rfl rfl ?_
              refine rn_iast (k := k) (N := 1) (K := 24) (pc' := 207) rfl rfl ⟨rfl, rfl⟩ rfl (by first | assumption | decide | omega) rfl (by decide) (rfl) (by first | assumption | decide | omega) ?_
              first | exact absurd h1 (by decide) | exact h207
          | false =>
            simp only [Bool.false_eq_true, if_false]
            refine rn_iload (pc' := 195) rfl rfl rfl ?_
            refine rn_if_eq (t := 207) (pc' := 198) rfl rfl rfl (fun h1 => ?_) (fun h1 => ?_)
            · refine rn_aload_n (pc' := 208) rfl rfl rfl ?_
              refine rn_getF (N := 1) (t' := 31) (pc' := 211) rfl rfl rfl rfl rfl (by first | assumption | decide | omega) ?_
              refine rn_iload_n (pc' := 212) rfl rfl rfl ?_
              refine rn_iload (pc' := 214) rfl rfl rfl ?_
              refine rn_if_eq (t := 221) (pc' := 217) rfl rfl rfl (fun h2 => ?_) (fun h2 => ?_)
              · refine rn_iconst (pc' := 222) (v := (-1)) rfl rfl (by decide) ?_
                refine rn_iast (N := 1) (K := 192) (pc' := 223) rfl rfl ⟨rfl, rfl⟩ rfl (by first | assumption | decide | omega) rfl (by decide) rfl (by first | assumption | decide | omega) ?_
                refine rn_return rfl rfl ?_
                exact ⟨rfl, rfl⟩
              · exact absurd rfl h2
            · exact absurd rfl h1
        have lp : ∀ m i : Nat, i + m = 24 → Rn (d + 1) 98 (146, [some (vR 20 0), some (vI (nI e)), some (vI (nI (8 * e + a))), some (vI (nI (8 * e + b))), some (vI v), some (vI (oI (some k))), some (vI g), some (vI (bI (decide (g = rpid M k) || gmF M g i))), some (vI (nI i))], [], M) (fun r M' => r = none ∧ M' = f_join2 M e a k g) := by
          intro m
          induction m with
          | zero =>
            intro i hi
            obtain rfl : i = 24 := by omega
            refine rn_iload (pc' := 148) rfl rfl rfl ?_
            refine rn_bipush (pc' := 150) (v := 24) rfl rfl (by decide) ?_
            refine rn_ic_ge (t := 193) (pc' := 153) rfl rfl rfl (fun h1 => ?_) (fun h1 => ?_)
            · exact fin _
            · exact absurd ((lt24 (by omega)).mp h1) (by omega)
          | succ m ih =>
            intro i hi
            have hi24 : i < 24 := by omega
            have key : ∀ x, x = bI (decide (g = rpid M k) || gmF M g (i + 1)) → Rn (d + 1) 98 (185, [some (vR 20 0), some (vI (nI e)), some (vI (nI (8 * e + a))), some (vI (nI (8 * e + b))), some (vI v), some (vI (oI (some k))), some (vI g), some (vI (bI (decide (g = rpid M k) || gmF M g i))), some (vI (nI i))], [vI x], M) (fun r M' => r = none ∧ M' = f_join2 M e a k g) := by
              intro x hx
              subst hx
              refine rn_istore (pc' := 187) rfl rfl rfl (Nat.le_of_ble_eq_true rfl) rfl ?_
              refine rn_iinc (pc' := 190) rfl rfl rfl (nI_inc _) rfl (Nat.le_of_ble_eq_true rfl) rfl ?_
              refine rn_goto (pc' := 146) rfl rfl ?_
              exact ih (i + 1) (by omega)
            refine rn_iload (pc' := 148) rfl rfl rfl ?_
            refine rn_bipush (pc' := 150) (v := 24) rfl rfl (by decide) ?_
            refine rn_ic_ge (t := 193) (pc' := 153) rfl rfl rfl (fun h1 => ?_) (fun h1 => ?_)
            · exact absurd ((lt24 (by omega)).mpr hi24) h1
            · refine rn_iload (pc' := 155) rfl rfl rfl ?_
              refine rn_if_ne (t := 180) (pc' := 158) rfl rfl rfl (fun h2 => ?_) (fun h2 => ?_)
              · refine rn_iconst (pc' := 181) (v := 1) rfl rfl (by decide) ?_
                refine rn_goto (pc' := 185) rfl rfl ?_
                refine key _ ?_
                simp only [bI_0, Bool.not_eq_false, Bool.or_eq_false_iff, Bool.or_eq_true] at h2
                first | (simp [gmF, rpid, rgrp, bI, *]; done) | (rcases h2 with h2 | h2 <;> simp [gmF, rpid, rgrp, bI, h2]; done) | simp_all [gmF, rpid, rgrp, bI]
              · refine rn_aload_n (pc' := 159) rfl rfl rfl ?_
                refine rn_getF (N := 1) (t' := 25) (pc' := 162) rfl rfl rfl rfl rfl (by first | assumption | decide | omega) ?_
                refine rn_iload (pc' := 164) rfl rfl rfl ?_
                refine rn_iald (N := 1) (K := 24) (pc' := 165) rfl rfl ⟨rfl, rfl⟩ rfl (by first | assumption | decide | omega) rfl (by decide) rfl (by first | assumption | decide | omega) ?_
                refine rn_if_le (t := 184) (pc' := 168) rfl rfl rfl (fun h3 => ?_) (fun h3 => ?_)
                · refine rn_iconst (pc' := 185) (v := 0) rfl rfl (by decide) ?_
                  refine key _ ?_
                  simp only [bI_0, Bool.not_eq_false, Bool.or_eq_false_iff, Bool.or_eq_true] at h2
                  first | (simp [gmF, rpid, rgrp, bI, *]; done) | (rcases h2 with h2 | h2 <;> simp [gmF, rpid, rgrp, bI, h2]; done) | simp_all [gmF, rpid, rgrp, bI]
                · refine rn_aload_n (pc' := 169) rfl rfl rfl ?_
                  refine rn_getF (N := 1) (t' := 27) (pc' := 172) rfl rfl rfl rfl rfl (by first | assumption | decide | omega) ?_
                  refine rn_iload (pc' := 174) rfl rfl rfl ?_
                  refine rn_iald (N := 1) (K := 24) (pc' := 175) rfl rfl ⟨rfl, rfl⟩ rfl (by first | assumption | decide | omega) rfl (by decide) rfl (by first | assumption | decide | omega) ?_
                  refine rn_iload (pc' := 177) rfl rfl rfl ?_
                  refine rn_ic_ne (t := 184) (pc' := 180) rfl rfl rfl (fun h4 => ?_) (fun h4 => ?_)
                  · refine rn_iconst (pc' := 185) (v := 0) rfl rfl (by decide) ?_
                    refine key _ ?_
                    simp only [bI_0, Bool.not_eq_false, Bool.or_eq_false_iff, Bool.or_eq_true] at h2
                    first | (simp [gmF, rpid, rgrp, bI, *]; done) | (rcases h2 with h2 | h2 <;> simp [gmF, rpid, rgrp, bI, h2]; done) | simp_all [gmF, rpid, rgrp, bI]
                  · refine rn_iconst (pc' := 181) (v := 1) rfl rfl (by decide) ?_
                    refine rn_goto (pc' := 185) rfl rfl ?_
                    refine key _ ?_
                    simp only [bI_0, Bool.not_eq_false, Bool.or_eq_false_iff, Bool.or_eq_true] at h2
                    first | (simp [gmF, rpid, rgrp, bI, *]; done) | (rcases h2 with h2 | h2 <;> simp [gmF, rpid, rgrp, bI, h2]; done) | simp_all [gmF, rpid, rgrp, bI]
        have k0 : ∀ x, x = bI (decide (g = rpid M k) || gmF M g 0) → Rn (d + 1) 98 (141, [some (vR 20 0), some (vI (nI e)), some (vI (nI (8 * e + a))), some (vI (nI (8 * e + b))), some (vI v), some (vI (oI (some k))), some (vI g), none, none], [vI x], M) (fun r M' => r = none ∧ M' = f_join2 M e a k g) := by
          intro x hx
          subst hx
          refine rn_istore (pc' := 143) rfl rfl rfl (Nat.le_of_ble_eq_true rfl) rfl ?_
          refine rn_iconst (pc' := 144) (v := 0) rfl rfl (by decide) ?_
          refine rn_istore (pc' := 146) rfl rfl rfl (Nat.le_of_ble_eq_true rfl) rfl ?_
          exact lp 24 0 rfl
        refine rn_istore (pc' := 124) rfl rfl rfl (Nat.le_of_ble_eq_true rfl) rfl ?_
        refine rn_iload (pc' := 126) rfl rfl rfl ?_
        refine rn_aload_n (pc' := 127) rfl rfl rfl ?_
        refine rn_getF (N := 1) (t' := 25) (pc' := 130) rfl rfl rfl rfl rfl (by first | assumption | decide | omega) ?_
        refine rn_iload (pc' := 132) rfl rfl rfl ?_
        refine rn_iald (k := k) (N := 1) (K := 24) (pc' := 133) rfl rfl ⟨rfl, rfl⟩ rfl (by first | assumption | decide | omega) rfl (by decide) (rfl) (by first | assumption | decide | omega) ?_
        refine rn_ic_ne (t := 140) (pc' := 136) rfl rfl rfl (fun h1 => ?_) (fun h1 => ?_)
        · refine rn_iconst (pc' := 141) (v := 0) rfl rfl (by decide) ?_
          refine k0 _ ?_
          simp [gmF, rpid, bI, *]
        · refine rn_iconst (pc' := 137) (v := 1) rfl rfl (by decide) ?_
          refine rn_goto (pc' := 141) rfl rfl ?_
          refine k0 _ ?_
          simp [gmF, rpid, bI, *]
      have g97 : Rn (d + 1) 98 (97, [some (vR 20 0), some (vI (nI e)), some (vI (nI (8 * e + a))), some (vI (nI (8 * e + b))), some (vI v), some (vI (oI (some k))), none, none, none], [], M) (fun r M' => r = none ∧ M' = f_join2 M e a k (if M.1 31 0 (8 * e + b) = 0 then rpid M k else M.1 31 0 (8 * e + b))) := by
        by_cases hz : M.1 31 0 (8 * e + b) = 0
        · rw [if_pos hz]
          refine rn_aload_n (pc' := 98) rfl rfl rfl ?_
          refine rn_getF (N := 1) (t' := 31) (pc' := 101) rfl rfl rfl rfl rfl (by first | assumption | decide | omega) ?_
          refine rn_iload_n (pc' := 102) rfl rfl rfl ?_
          refine rn_iald (N := 1) (K := 192) (pc' := 103) rfl rfl ⟨rfl, rfl⟩ rfl (by first | assumption | decide | omega) rfl (by decide) rfl (by first | assumption | decide | omega) ?_
          refine rn_if_ne (t := 116) (pc' := 106) rfl rfl rfl (fun h1 => ?_) (fun h1 => ?_)
          · exact absurd hz h1
          · refine rn_aload_n (pc' := 107) rfl rfl rfl ?_
            refine rn_getF (N := 1) (t' := 25) (pc' := 110) rfl rfl rfl rfl rfl (by first | assumption | decide | omega) ?_
            refine rn_iload (pc' := 112) rfl rfl rfl ?_
            refine rn_iald (k := k) (N := 1) (K := 24) (pc' := 113) rfl rfl ⟨rfl, rfl⟩ rfl (by first | assumption | decide | omega) rfl (by decide) (rfl) (by first | assumption | decide | omega) ?_
            refine rn_goto (pc' := 122) rfl rfl ?_
            exact last _
        · rw [if_neg hz]
          refine rn_aload_n (pc' := 98) rfl rfl rfl ?_
          refine rn_getF (N := 1) (t' := 31) (pc' := 101) rfl rfl rfl rfl rfl (by first | assumption | decide | omega) ?_
          refine rn_iload_n (pc' := 102) rfl rfl rfl ?_
          refine rn_iald (N := 1) (K := 192) (pc' := 103) rfl rfl ⟨rfl, rfl⟩ rfl (by first | assumption | decide | omega) rfl (by decide) rfl (by first | assumption | decide | omega) ?_
          refine rn_if_ne (t := 116) (pc' := 106) rfl rfl rfl (fun h1 => ?_) (fun h1 => ?_)
          · refine rn_aload_n (pc' := 117) rfl rfl rfl ?_
            refine rn_getF (N := 1) (t' := 31) (pc' := 120) rfl rfl rfl rfl rfl (by first | assumption | decide | omega) ?_
            refine rn_iload_n (pc' := 121) rfl rfl rfl ?_
            refine rn_iald (N := 1) (K := 192) (pc' := 122) rfl rfl ⟨rfl, rfl⟩ rfl (by first | assumption | decide | omega) rfl (by decide) rfl (by first | assumption | decide | omega) ?_
            exact last _
          · exact absurd h1 hz
      by_cases c1 : ¬ k = e ∧ (¬ rpar M k = rpid M e ∨ rste M k = 4)
      · simp only [if_pos c1]
        refine rn_iload (pc' := 27) rfl rfl rfl ?_
        refine rn_if_lt (t := 63) (pc' := 30) rfl rfl rfl (fun h1 => ?_) (fun h1 => ?_)
        · refine rn_aload_n (pc' := 64) rfl rfl rfl ?_
          refine rn_getF (N := 1) (t' := 31) (pc' := 67) rfl rfl rfl rfl rfl (by first | assumption | decide | omega) ?_
          refine rn_iload_n (pc' := 68) rfl rfl rfl ?_
          refine rn_bipush (pc' := 70) (v := (-3)) rfl rfl (by decide) ?_
          refine rn_iast (N := 1) (K := 192) (pc' := 71) rfl rfl ⟨rfl, rfl⟩ rfl (by first | assumption | decide | omega) rfl (by decide) rfl (by first | assumption | decide | omega) ?_
          refine rn_return rfl rfl ?_
          first | exact absurd h1 hk0' | exact ⟨rfl, rfl⟩
        · refine rn_iload (pc' := 32) rfl rfl rfl ?_
          refine rn_iload_n (pc' := 33) rfl rfl rfl ?_
          refine rn_ic_eq (t := 72) (pc' := 36) rfl rfl rfl (fun h2 => ?_) (fun h2 => ?_)
          · first | exact absurd (hke.mp h2) c1.1 | exact absurd c1.2 (fun q => q.elim (fun q => q h3) h4)
          · refine rn_aload_n (pc' := 37) rfl rfl rfl ?_
            refine rn_getF (N := 1) (t' := 26) (pc' := 40) rfl rfl rfl rfl rfl (by first | assumption | decide | omega) ?_
            refine rn_iload (pc' := 42) rfl rfl rfl ?_
            refine rn_iald (k := k) (N := 1) (K := 24) (pc' := 43) rfl rfl ⟨rfl, rfl⟩ rfl (by first | assumption | decide | omega) rfl (by decide) (rfl) (by first | assumption | decide | omega) ?_
            refine rn_aload_n (pc' := 44) rfl rfl rfl ?_
            refine rn_getF (N := 1) (t' := 25) (pc' := 47) rfl rfl rfl rfl rfl (by first | assumption | decide | omega) ?_
            refine rn_iload_n (pc' := 48) rfl rfl rfl ?_
            refine rn_iald (N := 1) (K := 24) (pc' := 49) rfl rfl ⟨rfl, rfl⟩ rfl (by first | assumption | decide | omega) rfl (by decide) rfl (by first | assumption | decide | omega) ?_
            refine rn_ic_ne (t := 63) (pc' := 52) rfl rfl rfl (fun h3 => ?_) (fun h3 => ?_)
            · refine rn_aload_n (pc' := 64) rfl rfl rfl ?_
              refine rn_getF (N := 1) (t' := 31) (pc' := 67) rfl rfl rfl rfl rfl (by first | assumption | decide | omega) ?_
              refine rn_iload_n (pc' := 68) rfl rfl rfl ?_
              refine rn_bipush (pc' := 70) (v := (-3)) rfl rfl (by decide) ?_
              refine rn_iast (N := 1) (K := 192) (pc' := 71) rfl rfl ⟨rfl, rfl⟩ rfl (by first | assumption | decide | omega) rfl (by decide) rfl (by first | assumption | decide | omega) ?_
              refine rn_return rfl rfl ?_
              first | exact absurd h1 hk0' | exact ⟨rfl, rfl⟩
            · refine rn_aload_n (pc' := 53) rfl rfl rfl ?_
              refine rn_getF (N := 1) (t' := 28) (pc' := 56) rfl rfl rfl rfl rfl (by first | assumption | decide | omega) ?_
              refine rn_iload (pc' := 58) rfl rfl rfl ?_
              refine rn_iald (k := k) (N := 1) (K := 24) (pc' := 59) rfl rfl ⟨rfl, rfl⟩ rfl (by first | assumption | decide | omega) rfl (by decide) (rfl) (by first | assumption | decide | omega) ?_
              refine rn_iconst (pc' := 60) (v := 4) rfl rfl (by decide) ?_
              refine rn_ic_ne (t := 72) (pc' := 63) rfl rfl rfl (fun h4 => ?_) (fun h4 => ?_)
              · first | exact absurd (hke.mp h2) c1.1 | exact absurd c1.2 (fun q => q.elim (fun q => q h3) h4)
              · refine rn_aload_n (pc' := 64) rfl rfl rfl ?_
                refine rn_getF (N := 1) (t' := 31) (pc' := 67) rfl rfl rfl rfl rfl (by first | assumption | decide | omega) ?_
                refine rn_iload_n (pc' := 68) rfl rfl rfl ?_
                refine rn_bipush (pc' := 70) (v := (-3)) rfl rfl (by decide) ?_
                refine rn_iast (N := 1) (K := 192) (pc' := 71) rfl rfl ⟨rfl, rfl⟩ rfl (by first | assumption | decide | omega) rfl (by decide) rfl (by first | assumption | decide | omega) ?_
                refine rn_return rfl rfl ?_
                first | exact absurd h1 hk0' | exact ⟨rfl, rfl⟩
      · simp only [if_neg c1]
        have g72 : Rn (d + 1) 98 (72, [some (vR 20 0), some (vI (nI e)), some (vI (nI (8 * e + a))), some (vI (nI (8 * e + b))), some (vI v), some (vI (oI (some k))), none, none, none], [], M) (fun r M' => r = none ∧ M' = if ¬ k = e ∧ ¬ M.1 42 0 k = 0 then mI M 31 0 (8 * e + a) (-13) else f_join2 M e a k (if M.1 31 0 (8 * e + b) = 0 then rpid M k else M.1 31 0 (8 * e + b))) := by
          by_cases c2 : ¬ k = e ∧ ¬ M.1 42 0 k = 0
          · rw [if_pos c2]
            refine rn_iload (pc' := 74) rfl rfl rfl ?_
            refine rn_iload_n (pc' := 75) rfl rfl rfl ?_
            refine rn_ic_eq (t := 97) (pc' := 78) rfl rfl rfl (fun h1 => ?_) (fun h1 => ?_)
            · first | exact absurd (hke.mp h1) c2.1 | exact absurd h2 c2.2
            · refine rn_aload_n (pc' := 79) rfl rfl rfl ?_
              refine rn_getF (N := 1) (t' := 42) (pc' := 82) rfl rfl rfl rfl rfl (by first | assumption | decide | omega) ?_
              refine rn_iload (pc' := 84) rfl rfl rfl ?_
              refine rn_bald (k := k) (N := 1) (K := 24) (pc' := 85) rfl rfl ⟨rfl, rfl⟩ rfl (by first | assumption | decide | omega) rfl (by decide) (rfl) (by first | assumption | decide | omega) ?_
              refine rn_if_eq (t := 97) (pc' := 88) rfl rfl rfl (fun h2 => ?_) (fun h2 => ?_)
              · first | exact absurd (hke.mp h1) c2.1 | exact absurd h2 c2.2
              · refine rn_aload_n (pc' := 89) rfl rfl rfl ?_
                refine rn_getF (N := 1) (t' := 31) (pc' := 92) rfl rfl rfl rfl rfl (by first | assumption | decide | omega) ?_
                refine rn_iload_n (pc' := 93) rfl rfl rfl ?_
                refine rn_bipush (pc' := 95) (v := (-13)) rfl rfl (by decide) ?_
                refine rn_iast (N := 1) (K := 192) (pc' := 96) rfl rfl ⟨rfl, rfl⟩ rfl (by first | assumption | decide | omega) rfl (by decide) rfl (by first | assumption | decide | omega) ?_
                refine rn_return rfl rfl ?_
                exact ⟨rfl, rfl⟩
          · rw [if_neg c2]
            refine rn_iload (pc' := 74) rfl rfl rfl ?_
            refine rn_iload_n (pc' := 75) rfl rfl rfl ?_
            refine rn_ic_eq (t := 97) (pc' := 78) rfl rfl rfl (fun h1 => ?_) (fun h1 => ?_)
            · exact g97
            · refine rn_aload_n (pc' := 79) rfl rfl rfl ?_
              refine rn_getF (N := 1) (t' := 42) (pc' := 82) rfl rfl rfl rfl rfl (by first | assumption | decide | omega) ?_
              refine rn_iload (pc' := 84) rfl rfl rfl ?_
              refine rn_bald (k := k) (N := 1) (K := 24) (pc' := 85) rfl rfl ⟨rfl, rfl⟩ rfl (by first | assumption | decide | omega) rfl (by decide) (rfl) (by first | assumption | decide | omega) ?_
              refine rn_if_eq (t := 97) (pc' := 88) rfl rfl rfl (fun h2 => ?_) (fun h2 => ?_)
              · exact g97
              · exact absurd ⟨fun q => h1 (hke.mpr q), h2⟩ c2
        refine rn_iload (pc' := 27) rfl rfl rfl ?_
        refine rn_if_lt (t := 63) (pc' := 30) rfl rfl rfl (fun h1 => ?_) (fun h1 => ?_)
        · first | exact absurd h1 hk0' | exact absurd (show ¬ k = e ∧ (¬ rpar M k = rpid M e ∨ rste M k = 4) from ⟨fun q => h2 (hke.mpr q), Or.inr h4⟩) c1 | exact absurd (show ¬ k = e ∧ (¬ rpar M k = rpid M e ∨ rste M k = 4) from ⟨fun q => h2 (hke.mpr q), Or.inl h3⟩) c1
        · refine rn_iload (pc' := 32) rfl rfl rfl ?_
          refine rn_iload_n (pc' := 33) rfl rfl rfl ?_
          refine rn_ic_eq (t := 72) (pc' := 36) rfl rfl rfl (fun h2 => ?_) (fun h2 => ?_)
          · exact g72
          · refine rn_aload_n (pc' := 37) rfl rfl rfl ?_
            refine rn_getF (N := 1) (t' := 26) (pc' := 40) rfl rfl rfl rfl rfl (by first | assumption | decide | omega) ?_
            refine rn_iload (pc' := 42) rfl rfl rfl ?_
            refine rn_iald (k := k) (N := 1) (K := 24) (pc' := 43) rfl rfl ⟨rfl, rfl⟩ rfl (by first | assumption | decide | omega) rfl (by decide) (rfl) (by first | assumption | decide | omega) ?_
            refine rn_aload_n (pc' := 44) rfl rfl rfl ?_
            refine rn_getF (N := 1) (t' := 25) (pc' := 47) rfl rfl rfl rfl rfl (by first | assumption | decide | omega) ?_
            refine rn_iload_n (pc' := 48) rfl rfl rfl ?_
            refine rn_iald (N := 1) (K := 24) (pc' := 49) rfl rfl ⟨rfl, rfl⟩ rfl (by first | assumption | decide | omega) rfl (by decide) rfl (by first | assumption | decide | omega) ?_
            refine rn_ic_ne (t := 63) (pc' := 52) rfl rfl rfl (fun h3 => ?_) (fun h3 => ?_)
            · first | exact absurd h1 hk0' | exact absurd (show ¬ k = e ∧ (¬ rpar M k = rpid M e ∨ rste M k = 4) from ⟨fun q => h2 (hke.mpr q), Or.inr h4⟩) c1 | exact absurd (show ¬ k = e ∧ (¬ rpar M k = rpid M e ∨ rste M k = 4) from ⟨fun q => h2 (hke.mpr q), Or.inl h3⟩) c1
            · refine rn_aload_n (pc' := 53) rfl rfl rfl ?_
              refine rn_getF (N := 1) (t' := 28) (pc' := 56) rfl rfl rfl rfl rfl (by first | assumption | decide | omega) ?_
              refine rn_iload (pc' := 58) rfl rfl rfl ?_
              refine rn_iald (k := k) (N := 1) (K := 24) (pc' := 59) rfl rfl ⟨rfl, rfl⟩ rfl (by first | assumption | decide | omega) rfl (by decide) (rfl) (by first | assumption | decide | omega) ?_
              refine rn_iconst (pc' := 60) (v := 4) rfl rfl (by decide) ?_
              refine rn_ic_ne (t := 72) (pc' := 63) rfl rfl rfl (fun h4 => ?_) (fun h4 => ?_)
              · exact g72
              · first | exact absurd h1 hk0' | exact absurd (show ¬ k = e ∧ (¬ rpar M k = rpid M e ∨ rste M k = 4) from ⟨fun q => h2 (hke.mpr q), Or.inr h4⟩) c1 | exact absurd (show ¬ k = e ∧ (¬ rpar M k = rpid M e ∨ rste M k = 4) from ⟨fun q => h2 (hke.mpr q), Or.inl h3⟩) c1
  show Rn _ 98 (0, [some (vR 20 0), some (vI (nI e)), some (vI (nI (8 * e + a))), some (vI (nI (8 * e + b))), none, none, none, none, none], [], _) _
  by_cases hv0 : v = 0
  · rw [if_pos hv0] at hko
    have s2' : oI ko = nI e := by rw [← hko]; rfl
    rw [s2'] at s2
    refine rn_aload_n (pc' := 1) rfl rfl rfl ?_
    refine rn_getF (N := 1) (t' := 31) (pc' := 4) rfl rfl rfl rfl rfl (by first | assumption | decide | omega) ?_
    refine rn_iload_n (pc' := 5) rfl rfl rfl ?_
    refine rn_iald (N := 1) (K := 192) (pc' := 6) rfl rfl ⟨rfl, rfl⟩ rfl (by first | assumption | decide | omega) rfl (by decide) rfl (by first | assumption | decide | omega) ?_
    refine rn_topI hv ?_
    refine rn_istore (pc' := 8) rfl rfl rfl (Nat.le_of_ble_eq_true rfl) rfl ?_
    refine rn_iload (pc' := 10) rfl rfl rfl ?_
    refine rn_if_ne (t := 17) (pc' := 13) rfl rfl rfl (fun h1 => ?_) (fun h1 => ?_)
    · exact absurd hv0 h1
    · refine rn_iload_n (pc' := 14) rfl rfl rfl ?_
      refine rn_goto (pc' := 23) rfl rfl ?_
      refine rn_istore (pc' := 25) rfl rfl rfl (Nat.le_of_ble_eq_true rfl) rfl ?_
      exact s2
  · rw [if_neg hv0] at hko
    rw [← hko] at s2
    rw [← hko]
    refine rn_aload_n (pc' := 1) rfl rfl rfl ?_
    refine rn_getF (N := 1) (t' := 31) (pc' := 4) rfl rfl rfl rfl rfl (by first | assumption | decide | omega) ?_
    refine rn_iload_n (pc' := 5) rfl rfl rfl ?_
    refine rn_iald (N := 1) (K := 192) (pc' := 6) rfl rfl ⟨rfl, rfl⟩ rfl (by first | assumption | decide | omega) rfl (by decide) rfl (by first | assumption | decide | omega) ?_
    refine rn_topI hv ?_
    refine rn_istore (pc' := 8) rfl rfl rfl (Nat.le_of_ble_eq_true rfl) rfl ?_
    refine rn_iload (pc' := 10) rfl rfl rfl ?_
    refine rn_if_ne (t := 17) (pc' := 13) rfl rfl rfl (fun h1 => ?_) (fun h1 => ?_)
    · refine rn_aload_n (pc' := 18) rfl rfl rfl ?_
      refine rn_iload (pc' := 20) rfl rfl rfl ?_
      refine rn_callV (pc' := 23) (as := [_]) rfl rfl rfl ⟨Nat.le_of_ble_eq_true rfl, rfl, rfl⟩ rfl (by first | assumption | decide | omega) (Nat.le_of_ble_eq_true rfl) (Nat.le_of_ble_eq_true rfl) rfl (r_entryOf M v) (fun r2 M2 hz => ?_)
      obtain ⟨rfl, hm_⟩ := hz
      refine rn_mem hm_ ?_
      clear hm_
      refine rn_istore (pc' := 25) rfl rfl rfl (Nat.le_of_ble_eq_true rfl) rfl ?_
      exact s2
    · exact absurd h1 hv0
end
section
/-! THE REFERENCE: doMore, an op at a time -/
def eig (v : Int32) : Int32 := (v - v / 8 * 8 + 8) - (v - v / 8 * 8 + 8) / 8 * 8
theorem r_eighth {d : Nat} (M : xM) (v : Int32) : Rn d 90 (0, xen 90 [vI v], [], M) (fun r M' => r = some (vI (eig v)) ∧ M' = M) := by
  show Rn _ 90 (0, [some (vI v)], [], _) _
  refine rn_iload_n (pc' := 1) rfl rfl rfl ?_
  refine rn_bipush (pc' := 3) (v := 8) rfl rfl (by decide) ?_
  refine rn_irem (pc' := 4) rfl rfl (by decide) ?_
  refine rn_bipush (pc' := 6) (v := 8) rfl rfl (by decide) ?_
  refine rn_iadd (pc' := 7) rfl rfl ?_
  refine rn_bipush (pc' := 9) (v := 8) rfl rfl (by decide) ?_
  refine rn_irem (pc' := 10) rfl rfl (by decide) ?_
  refine rn_ireturn rfl rfl ?_
  exact ⟨rfl, rfl⟩
theorem eig_and (v : Int32) : eig v = v &&& 7 := by
  rw [pk_and v (m := 7) 3 rfl]
  apply Int32.toInt_inj.mp
  have h8 : (8 : Int32).toInt = 8 := by decide
  have e1 : (v - v / 8 * 8).toInt = v.toInt.tmod 8 := by rw [rem_toInt, h8]
  have b1 := tmod_bounds (a := v.toInt) (M := 8) (by decide)
  have e2 : (v - v / 8 * 8 + 8).toInt = v.toInt.tmod 8 + 8 := by
    rw [Int32.toInt_add, e1, h8]
    exact Int.bmod_eq_of_le (by omega) (by omega)
  unfold eig
  rw [rem_toInt, e2, h8, Int.tmod_eq_emod_of_nonneg (by omega), nI_toInt (by omega)]
  have e3 := Int.tmod_def v.toInt 8
  have e4 : v.toInt = if 2 * v.toBitVec.toNat < 2 ^ 32 then (v.toBitVec.toNat : Int) else (v.toBitVec.toNat : Int) - 2 ^ 32 := by
    show v.toBitVec.toInt = _
    rw [BitVec.toInt_eq_toNat_cond]
    rfl
  have e5 : v.toInt % 8 = (v.toBitVec.toNat % 8 : Nat) := by
    split at e4 <;> omega
  omega
theorem eig_lt (v : Int32) : ∃ j, j < 8 ∧ eig v = nI j ∧ v &&& 7 = nI j := by
  obtain ⟨j, h1, h2⟩ := pk_andE v (m := 7) 3 rfl
  exact ⟨j, h1, by rw [eig_and]; exact h2, h2⟩
abbrev isS1 (s : Int32) : Prop := 1 ≤ s.toInt64 ∧ s.toInt64 ≤ 20
theorem r_more15Y {d e s : Nat} (M : xM) (a b op ra rb : Int32) (he : e < 24) (hop : op.toInt = 15) (hs : a = nI s) (hs1 : 1 ≤ s ∧ s ≤ 20) (hr : isS1 a) (h9 : ¬ a = 9) (h19 : ¬ a = 19) (hb : ¬ b < 0) : Rn (d + 1) 92 (0, xen 92 [vR 20 0, vI (nI e), vI op, vI a, vI b, vI ra, vI rb], [], M) (fun r M' => r = none ∧ M' = mI M 32 0 (21 * e + s) b) := by
  show Rn _ 92 (0, [some (vR 20 0), some (vI (nI e)), some (vI op), some (vI a), some (vI b), some (vI ra), some (vI rb), none], [], _) _
  refine rn_iload_n (pc' := 1) rfl rfl rfl ?_
  refine rn_swIn (k := 0) (t := 52) rfl hop (by decide) rfl rfl ?_
  have ei : (21 : Int32) * nI e + a = nI (21 * e + s) := by rw [hs]; exact ix21 e s
  refine rn_iload_n (pc' := 53) rfl rfl rfl ?_
  refine rn_i2l (pc' := 54) rfl rfl ?_
  refine rn_lconst (pc' := 55) (v := 1) rfl rfl rfl ?_
  refine rn_ldc2_w (pc' := 58) (v := 20) rfl rfl rfl ?_
  refine rn_callS (pc' := 61) (as := [_, _, _]) rfl rfl rfl ⟨rfl, rfl, rfl⟩ (Nat.le_of_ble_eq_true rfl) (Nat.le_of_ble_eq_true rfl) rfl (r_in M _ 1 20) (fun r1 M1 hz => ?_)
  obtain ⟨rfl, hm_⟩ := hz
  refine rn_mem hm_ ?_
  clear hm_
  refine rn_if_eq (t := 390) (pc' := 64) rfl rfl rfl (fun h2 => ?_) (fun h2 => ?_)
  · first | exact absurd hr (ite01.mp h2) | exact absurd h3 h9 | exact absurd h4 h19 | exact absurd h5 hb | (refine rn_return rfl rfl ?_; exact ⟨rfl, rfl⟩)
  · refine rn_iload_n (pc' := 65) rfl rfl rfl ?_
    refine rn_bipush (pc' := 67) (v := 9) rfl rfl (by decide) ?_
    refine rn_ic_eq (t := 390) (pc' := 70) rfl rfl rfl (fun h3 => ?_) (fun h3 => ?_)
    · first | exact absurd hr (ite01.mp h2) | exact absurd h3 h9 | exact absurd h4 h19 | exact absurd h5 hb | (refine rn_return rfl rfl ?_; exact ⟨rfl, rfl⟩)
    · refine rn_iload_n (pc' := 71) rfl rfl rfl ?_
      refine rn_bipush (pc' := 73) (v := 19) rfl rfl (by decide) ?_
      refine rn_ic_eq (t := 390) (pc' := 76) rfl rfl rfl (fun h4 => ?_) (fun h4 => ?_)
      · first | exact absurd hr (ite01.mp h2) | exact absurd h3 h9 | exact absurd h4 h19 | exact absurd h5 hb | (refine rn_return rfl rfl ?_; exact ⟨rfl, rfl⟩)
      · refine rn_iload (pc' := 78) rfl rfl rfl ?_
        refine rn_if_lt (t := 390) (pc' := 81) rfl rfl rfl (fun h5 => ?_) (fun h5 => ?_)
        · first | exact absurd hr (ite01.mp h2) | exact absurd h3 h9 | exact absurd h4 h19 | exact absurd h5 hb | (refine rn_return rfl rfl ?_; exact ⟨rfl, rfl⟩)
        · refine rn_aload_n (pc' := 82) rfl rfl rfl ?_
          refine rn_getF (N := 1) (t' := 32) (pc' := 85) rfl rfl rfl rfl rfl (by first | assumption | decide | omega) ?_
          refine rn_bipush (pc' := 87) (v := 21) rfl rfl (by decide) ?_
          refine rn_iload_n (pc' := 88) rfl rfl rfl ?_
          refine rn_imul (pc' := 89) rfl rfl ?_
          refine rn_iload_n (pc' := 90) rfl rfl rfl ?_
          refine rn_iadd (pc' := 91) rfl rfl ?_
          refine rn_iload (pc' := 93) rfl rfl rfl ?_
          refine rn_iast (k := 21 * e + s) (N := 1) (K := 504) (pc' := 94) rfl rfl ⟨rfl, rfl⟩ rfl (by first | assumption | decide | omega) rfl (by decide) (ei) (by first | assumption | decide | omega) ?_
          refine rn_goto (pc' := 390) rfl rfl ?_
          first | exact absurd hr (ite01.mp h2) | exact absurd h3 h9 | exact absurd h4 h19 | exact absurd h5 hb | (refine rn_return rfl rfl ?_; exact ⟨rfl, rfl⟩)
theorem r_more15N {d e : Nat} (M : xM) (a b op ra rb : Int32) (hop : op.toInt = 15) (hn : ¬ (isS1 a ∧ ¬ a = 9 ∧ ¬ a = 19 ∧ ¬ b < 0)) : Rn (d + 1) 92 (0, xen 92 [vR 20 0, vI (nI e), vI op, vI a, vI b, vI ra, vI rb], [], M) (fun r M' => r = none ∧ M' = M) := by
  show Rn _ 92 (0, [some (vR 20 0), some (vI (nI e)), some (vI op), some (vI a), some (vI b), some (vI ra), some (vI rb), none], [], _) _
  refine rn_iload_n (pc' := 1) rfl rfl rfl ?_
  refine rn_swIn (k := 0) (t := 52) rfl hop (by decide) rfl rfl ?_
  have h01 : ∀ (c : Prop) [Decidable c], ¬ (if c then (1 : Int32) else 0) = 0 → c := fun c _ h => by
    by_cases hc : c
    · exact hc
    · exact absurd (ite01.mpr hc) h
  refine rn_iload_n (pc' := 53) rfl rfl rfl ?_
  refine rn_i2l (pc' := 54) rfl rfl ?_
  refine rn_lconst (pc' := 55) (v := 1) rfl rfl rfl ?_
  refine rn_ldc2_w (pc' := 58) (v := 20) rfl rfl rfl ?_
  refine rn_callS (pc' := 61) (as := [_, _, _]) rfl rfl rfl ⟨rfl, rfl, rfl⟩ (Nat.le_of_ble_eq_true rfl) (Nat.le_of_ble_eq_true rfl) rfl (r_in M _ 1 20) (fun r1 M1 hz => ?_)
  obtain ⟨rfl, hm_⟩ := hz
  refine rn_mem hm_ ?_
  clear hm_
  refine rn_if_eq (t := 390) (pc' := 64) rfl rfl rfl (fun h2 => ?_) (fun h2 => ?_)
  · refine rn_return rfl rfl ?_
    exact ⟨rfl, rfl⟩
  · refine rn_iload_n (pc' := 65) rfl rfl rfl ?_
    refine rn_bipush (pc' := 67) (v := 9) rfl rfl (by decide) ?_
    refine rn_ic_eq (t := 390) (pc' := 70) rfl rfl rfl (fun h3 => ?_) (fun h3 => ?_)
    · refine rn_return rfl rfl ?_
      exact ⟨rfl, rfl⟩
    · refine rn_iload_n (pc' := 71) rfl rfl rfl ?_
      refine rn_bipush (pc' := 73) (v := 19) rfl rfl (by decide) ?_
      refine rn_ic_eq (t := 390) (pc' := 76) rfl rfl rfl (fun h4 => ?_) (fun h4 => ?_)
      · refine rn_return rfl rfl ?_
        exact ⟨rfl, rfl⟩
      · refine rn_iload (pc' := 78) rfl rfl rfl ?_
        refine rn_if_lt (t := 390) (pc' := 81) rfl rfl rfl (fun h5 => ?_) (fun h5 => ?_)
        · refine rn_return rfl rfl ?_
          exact ⟨rfl, rfl⟩
        · exact absurd ⟨h01 _ h2, h3, h4, h5⟩ hn
def f_mask (M : xM) (e a : Nat) : xM := mI (mI M 34 0 e (M.1 31 0 (8 * e + a) &&& 2097150 &&& (-524801))) 31 0 (8 * e + a) (rblk M e)
theorem r_more16 {d e ja : Nat} (M : xM) (a b op rb : Int32) (he : e < 24) (ha : ja < 8) (hop : op.toInt = 16) : Rn (d + 1) 92 (0, xen 92 [vR 20 0, vI (nI e), vI op, vI a, vI b, vI (nI (8 * e + ja)), vI rb], [], M) (fun r M' => r = none ∧ M' = f_mask M e ja) := by
  show Rn _ 92 (0, [some (vR 20 0), some (vI (nI e)), some (vI op), some (vI a), some (vI b), some (vI (nI (8 * e + ja))), some (vI rb), none], [], _) _
  refine rn_iload_n (pc' := 1) rfl rfl rfl ?_
  refine rn_swIn (k := 1) (t := 97) rfl hop (by decide) rfl rfl ?_
  refine rn_aload_n (pc' := 98) rfl rfl rfl ?_
  refine rn_getF (N := 1) (t' := 34) (pc' := 101) rfl rfl rfl rfl rfl (by first | assumption | decide | omega) ?_
  refine rn_iload_n (pc' := 102) rfl rfl rfl ?_
  refine rn_iald (N := 1) (K := 24) (pc' := 103) rfl rfl ⟨rfl, rfl⟩ rfl (by first | assumption | decide | omega) rfl (by decide) rfl (by first | assumption | decide | omega) ?_
  refine rn_istore (pc' := 105) rfl rfl rfl (Nat.le_of_ble_eq_true rfl) rfl ?_
  refine rn_aload_n (pc' := 106) rfl rfl rfl ?_
  refine rn_getF (N := 1) (t' := 34) (pc' := 109) rfl rfl rfl rfl rfl (by first | assumption | decide | omega) ?_
  refine rn_iload_n (pc' := 110) rfl rfl rfl ?_
  refine rn_aload_n (pc' := 111) rfl rfl rfl ?_
  refine rn_getF (N := 1) (t' := 31) (pc' := 114) rfl rfl rfl rfl rfl (by first | assumption | decide | omega) ?_
  refine rn_iload (pc' := 116) rfl rfl rfl ?_
  refine rn_iald (N := 1) (K := 192) (pc' := 117) rfl rfl ⟨rfl, rfl⟩ rfl (by first | assumption | decide | omega) rfl (by decide) rfl (by first | assumption | decide | omega) ?_
  refine rn_ldc (pc' := 119) (v := 2097150) rfl rfl rfl ?_
  refine rn_iand (pc' := 120) rfl rfl ?_
  refine rn_ldc (pc' := 122) (v := (-524801)) rfl rfl rfl ?_
  refine rn_iand (pc' := 123) rfl rfl ?_
  refine rn_iast (N := 1) (K := 24) (pc' := 124) rfl rfl ⟨rfl, rfl⟩ rfl (by first | assumption | decide | omega) rfl (by decide) rfl (by first | assumption | decide | omega) ?_
  refine rn_aload_n (pc' := 125) rfl rfl rfl ?_
  refine rn_getF (N := 1) (t' := 31) (pc' := 128) rfl rfl rfl rfl rfl (by first | assumption | decide | omega) ?_
  refine rn_iload (pc' := 130) rfl rfl rfl ?_
  refine rn_iload (pc' := 132) rfl rfl rfl ?_
  refine rn_iast (N := 1) (K := 192) (pc' := 133) rfl rfl ⟨rfl, rfl⟩ rfl (by first | assumption | decide | omega) rfl (by decide) rfl (by first | assumption | decide | omega) ?_
  refine rn_goto (pc' := 390) rfl rfl ?_
  refine rn_return rfl rfl ?_
  exact ⟨rfl, rfl⟩
theorem es8 (e a : Nat) : nI (8 * e + a) - 8 * nI e = nI a := by
  rw [show (8 : Int32) * nI e = nI (8 * e) from pk_mul 8 e, pk_sub (by omega)]
  congr 1
  omega
theorem r_more17 {d e ja : Nat} (M : xM) (a b op rb : Int32) (he : e < 24) (ha : ja < 8) (hop : op.toInt = 17) : Rn (d + 1) 92 (0, xen 92 [vR 20 0, vI (nI e), vI op, vI a, vI b, vI (nI (8 * e + ja)), vI rb], [], M) (fun r M' => r = none ∧ M' = f_sleep M e ja 2) := by
  show Rn _ 92 (0, [some (vR 20 0), some (vI (nI e)), some (vI op), some (vI a), some (vI b), some (vI (nI (8 * e + ja))), some (vI rb), none], [], _) _
  refine rn_iload_n (pc' := 1) rfl rfl rfl ?_
  refine rn_swIn (k := 2) (t := 136) rfl hop (by decide) rfl rfl ?_
  refine rn_aload_n (pc' := 137) rfl rfl rfl ?_
  refine rn_getF (N := 1) (t' := 28) (pc' := 140) rfl rfl rfl rfl rfl (by first | assumption | decide | omega) ?_
  refine rn_iload_n (pc' := 141) rfl rfl rfl ?_
  refine rn_iconst (pc' := 142) (v := 2) rfl rfl (by decide) ?_
  refine rn_iast (N := 1) (K := 24) (pc' := 143) rfl rfl ⟨rfl, rfl⟩ rfl (by first | assumption | decide | omega) rfl (by decide) rfl (by first | assumption | decide | omega) ?_
  refine rn_aload_n (pc' := 144) rfl rfl rfl ?_
  refine rn_getF (N := 1) (t' := 43) (pc' := 147) rfl rfl rfl rfl rfl (by first | assumption | decide | omega) ?_
  refine rn_iload_n (pc' := 148) rfl rfl rfl ?_
  refine rn_iload (pc' := 150) rfl rfl rfl ?_
  refine rn_bipush (pc' := 152) (v := 8) rfl rfl (by decide) ?_
  refine rn_iload_n (pc' := 153) rfl rfl rfl ?_
  refine rn_imul (pc' := 154) rfl rfl ?_
  refine rn_isub (pc' := 155) rfl rfl ?_
  refine rn_topI (es8 e ja) ?_
  refine rn_iast (N := 1) (K := 24) (pc' := 156) rfl rfl ⟨rfl, rfl⟩ rfl (by first | assumption | decide | omega) rfl (by decide) rfl (by first | assumption | decide | omega) ?_
  refine rn_aload_n (pc' := 157) rfl rfl rfl ?_
  refine rn_getF (N := 1) (t' := 44) (pc' := 160) rfl rfl rfl rfl rfl (by first | assumption | decide | omega) ?_
  refine rn_iload_n (pc' := 161) rfl rfl rfl ?_
  refine rn_aload_n (pc' := 162) rfl rfl rfl ?_
  refine rn_getF (N := 1) (t' := 30) (pc' := 165) rfl rfl rfl rfl rfl (by first | assumption | decide | omega) ?_
  refine rn_iload_n (pc' := 166) rfl rfl rfl ?_
  refine rn_iald (N := 1) (K := 24) (pc' := 167) rfl rfl ⟨rfl, rfl⟩ rfl (by first | assumption | decide | omega) rfl (by decide) rfl (by first | assumption | decide | omega) ?_
  refine rn_iast (N := 1) (K := 24) (pc' := 168) rfl rfl ⟨rfl, rfl⟩ rfl (by first | assumption | decide | omega) rfl (by decide) rfl (by first | assumption | decide | omega) ?_
  refine rn_aload_n (pc' := 169) rfl rfl rfl ?_
  refine rn_getF (N := 1) (t' := 30) (pc' := 172) rfl rfl rfl rfl rfl (by first | assumption | decide | omega) ?_
  refine rn_iload_n (pc' := 173) rfl rfl rfl ?_
  refine rn_dup2 (pc' := 174) rfl rfl ?_
  refine rn_iald (N := 1) (K := 24) (pc' := 175) rfl rfl ⟨rfl, rfl⟩ rfl (by first | assumption | decide | omega) rfl (by decide) rfl (by first | assumption | decide | omega) ?_
  refine rn_iconst (pc' := 176) (v := 1) rfl rfl (by decide) ?_
  refine rn_isub (pc' := 177) rfl rfl ?_
  refine rn_iast (N := 1) (K := 24) (pc' := 178) rfl rfl ⟨rfl, rfl⟩ rfl (by first | assumption | decide | omega) rfl (by decide) rfl (by first | assumption | decide | omega) ?_
  refine rn_goto (pc' := 390) rfl rfl ?_
  refine rn_return rfl rfl ?_
  exact ⟨rfl, rfl⟩
def f_retn (M : xM) (e h : Nat) : xM :=
  let A := mI M 35 0 e (M.1 35 0 e - 1)
  let B := mI A 30 0 e (A.1 36 0 (4 * e + h))
  mI B 34 0 e (B.1 37 0 (4 * e + h))
theorem r_more18Y {d e h : Nat} (M : xM) (a b op ra rb : Int32) (he : e < 24) (hh : rhnd M e = nI (h + 1)) (hh4 : h < 4) (hop : op.toInt = 18) : Rn (d + 1) 92 (0, xen 92 [vR 20 0, vI (nI e), vI op, vI a, vI b, vI ra, vI rb], [], M) (fun r M' => r = none ∧ M' = f_retn M e h) := by
  show Rn _ 92 (0, [some (vR 20 0), some (vI (nI e)), some (vI op), some (vI a), some (vI b), some (vI ra), some (vI rb), none], [], _) _
  refine rn_iload_n (pc' := 1) rfl rfl rfl ?_
  refine rn_swIn (k := 3) (t := 181) rfl hop (by decide) rfl rfl ?_
  have e1 : (mI M 35 0 e (M.1 35 0 e - 1)).1 35 0 e = nI h := by
    show (if 35 = 35 ∧ 0 = 0 ∧ e = e then M.1 35 0 e - 1 else _) = _
    rw [if_pos ⟨rfl, rfl, rfl⟩, show M.1 35 0 e = nI (h + 1) from hh, nI_pred]
  have e2 : ∀ v, (mI (mI M 35 0 e (M.1 35 0 e - 1)) 30 0 e v).1 35 0 e = nI h := fun v => e1
  refine rn_aload_n (pc' := 182) rfl rfl rfl ?_
  refine rn_getF (N := 1) (t' := 35) (pc' := 185) rfl rfl rfl rfl rfl (by first | assumption | decide | omega) ?_
  refine rn_iload_n (pc' := 186) rfl rfl rfl ?_
  refine rn_iald (N := 1) (K := 24) (pc' := 187) rfl rfl ⟨rfl, rfl⟩ rfl (by first | assumption | decide | omega) rfl (by decide) rfl (by first | assumption | decide | omega) ?_
  refine rn_if_ne (t := 199) (pc' := 190) rfl rfl rfl (fun h1 => ?_) (fun h1 => ?_)
  · refine rn_aload_n (pc' := 200) rfl rfl rfl ?_
    refine rn_getF (N := 1) (t' := 35) (pc' := 203) rfl rfl rfl rfl rfl (by first | assumption | decide | omega) ?_
    refine rn_iload_n (pc' := 204) rfl rfl rfl ?_
    refine rn_dup2 (pc' := 205) rfl rfl ?_
    refine rn_iald (N := 1) (K := 24) (pc' := 206) rfl rfl ⟨rfl, rfl⟩ rfl (by first | assumption | decide | omega) rfl (by decide) rfl (by first | assumption | decide | omega) ?_
    refine rn_iconst (pc' := 207) (v := 1) rfl rfl (by decide) ?_
    refine rn_isub (pc' := 208) rfl rfl ?_
    refine rn_iast (N := 1) (K := 24) (pc' := 209) rfl rfl ⟨rfl, rfl⟩ rfl (by first | assumption | decide | omega) rfl (by decide) rfl (by first | assumption | decide | omega) ?_
    refine rn_aload_n (pc' := 210) rfl rfl rfl ?_
    refine rn_getF (N := 1) (t' := 30) (pc' := 213) rfl rfl rfl rfl rfl (by first | assumption | decide | omega) ?_
    refine rn_iload_n (pc' := 214) rfl rfl rfl ?_
    refine rn_aload_n (pc' := 215) rfl rfl rfl ?_
    refine rn_getF (N := 1) (t' := 36) (pc' := 218) rfl rfl rfl rfl rfl (by first | assumption | decide | omega) ?_
    refine rn_iconst (pc' := 219) (v := 4) rfl rfl (by decide) ?_
    refine rn_iload_n (pc' := 220) rfl rfl rfl ?_
    refine rn_imul (pc' := 221) rfl rfl ?_
    refine rn_aload_n (pc' := 222) rfl rfl rfl ?_
    refine rn_getF (N := 1) (t' := 35) (pc' := 225) rfl rfl rfl rfl rfl (by first | assumption | decide | omega) ?_
    refine rn_iload_n (pc' := 226) rfl rfl rfl ?_
    refine rn_iald (N := 1) (K := 24) (pc' := 227) rfl rfl ⟨rfl, rfl⟩ rfl (by first | assumption | decide | omega) rfl (by decide) rfl (by first | assumption | decide | omega) ?_
    refine rn_topI e1 ?_
    refine rn_iadd (pc' := 228) rfl rfl ?_
    refine rn_iald (k := 4 * e + h) (N := 1) (K := 96) (pc' := 229) rfl rfl ⟨rfl, rfl⟩ rfl (by first | assumption | decide | omega) rfl (by decide) (ix4 e h) (by first | assumption | decide | omega) ?_
    refine rn_iast (N := 1) (K := 24) (pc' := 230) rfl rfl ⟨rfl, rfl⟩ rfl (by first | assumption | decide | omega) rfl (by decide) rfl (by first | assumption | decide | omega) ?_
    refine rn_aload_n (pc' := 231) rfl rfl rfl ?_
    refine rn_getF (N := 1) (t' := 34) (pc' := 234) rfl rfl rfl rfl rfl (by first | assumption | decide | omega) ?_
    refine rn_iload_n (pc' := 235) rfl rfl rfl ?_
    refine rn_aload_n (pc' := 236) rfl rfl rfl ?_
    refine rn_getF (N := 1) (t' := 37) (pc' := 239) rfl rfl rfl rfl rfl (by first | assumption | decide | omega) ?_
    refine rn_iconst (pc' := 240) (v := 4) rfl rfl (by decide) ?_
    refine rn_iload_n (pc' := 241) rfl rfl rfl ?_
    refine rn_imul (pc' := 242) rfl rfl ?_
    refine rn_aload_n (pc' := 243) rfl rfl rfl ?_
    refine rn_getF (N := 1) (t' := 35) (pc' := 246) rfl rfl rfl rfl rfl (by first | assumption | decide | omega) ?_
    refine rn_iload_n (pc' := 247) rfl rfl rfl ?_
    refine rn_iald (N := 1) (K := 24) (pc' := 248) rfl rfl ⟨rfl, rfl⟩ rfl (by first | assumption | decide | omega) rfl (by decide) rfl (by first | assumption | decide | omega) ?_
    refine rn_topI (e2 _) ?_
    refine rn_iadd (pc' := 249) rfl rfl ?_
    refine rn_iald (k := 4 * e + h) (N := 1) (K := 96) (pc' := 250) rfl rfl ⟨rfl, rfl⟩ rfl (by first | assumption | decide | omega) rfl (by decide) (ix4 e h) (by first | assumption | decide | omega) ?_
    refine rn_iast (N := 1) (K := 24) (pc' := 251) rfl rfl ⟨rfl, rfl⟩ rfl (by first | assumption | decide | omega) rfl (by decide) rfl (by first | assumption | decide | omega) ?_
    refine rn_goto (pc' := 390) rfl rfl ?_
    refine rn_return rfl rfl ?_
    exact ⟨rfl, rfl⟩
  · exact absurd h1 (by rw [show M.1 35 0 e = nI (h + 1) from hh]; exact nI_ne0 (by omega) (by omega))
theorem r_more18N {d e n : Nat} (M : xM) (a b op ra rb : Int32) (he : e < 24) (hh : rhnd M e = 0) (hop : op.toInt = 18) (hG : gOk M) (hn : rok M n) (hn4 : n < 4000) (hf : ¬ rpid M e = 1 → ∃ n', rok (f_end M e 0) n' ∧ n' ≤ 4000) : Rn (d + 3) 92 (0, xen 92 [vR 20 0, vI (nI e), vI op, vI a, vI b, vI ra, vI rb], [], M) (fun r M' => r = none ∧ M' = f_end M e 0) := by
  show Rn _ 92 (0, [some (vR 20 0), some (vI (nI e)), some (vI op), some (vI a), some (vI b), some (vI ra), some (vI rb), none], [], _) _
  refine rn_iload_n (pc' := 1) rfl rfl rfl ?_
  refine rn_swIn (k := 3) (t := 181) rfl hop (by decide) rfl rfl ?_
  refine rn_aload_n (pc' := 182) rfl rfl rfl ?_
  refine rn_getF (N := 1) (t' := 35) (pc' := 185) rfl rfl rfl rfl rfl (by first | assumption | decide | omega) ?_
  refine rn_iload_n (pc' := 186) rfl rfl rfl ?_
  refine rn_iald (N := 1) (K := 24) (pc' := 187) rfl rfl ⟨rfl, rfl⟩ rfl (by first | assumption | decide | omega) rfl (by decide) rfl (by first | assumption | decide | omega) ?_
  refine rn_if_ne (t := 199) (pc' := 190) rfl rfl rfl (fun h1 => ?_) (fun h1 => ?_)
  · exact absurd hh h1
  · refine rn_aload_n (pc' := 191) rfl rfl rfl ?_
    refine rn_iload_n (pc' := 192) rfl rfl rfl ?_
    refine rn_iconst (pc' := 193) (v := 0) rfl rfl (by decide) ?_
    refine rn_callV (pc' := 196) (as := [_, _]) rfl rfl rfl ⟨Nat.le_of_ble_eq_true rfl, rfl, rfl⟩ rfl (by first | assumption | decide | omega) (Nat.le_of_ble_eq_true rfl) (Nat.le_of_ble_eq_true rfl) rfl (r_end M 0 he hG hn hn4 hf) (fun r2 M2 hz => ?_)
    obtain ⟨rfl, hm_⟩ := hz
    refine rn_mem hm_ ?_
    clear hm_
    refine rn_goto (pc' := 390) rfl rfl ?_
    refine rn_return rfl rfl ?_
    exact ⟨rfl, rfl⟩
abbrev ralm (M : xM) (e : Nat) : Int64 := M.2.1 38 0 e
def until_ (M : xM) (e : Nat) : Int32 := if 0 < ralm M e then (ralm M e - (M.1 20 0 26).toInt64).toInt32 else 0
def f_alarm (M : xM) (e a : Nat) : xM := mI (mJ M 38 0 e (if 0 < M.1 31 0 (8 * e + a) then (M.1 20 0 26).toInt64 + (M.1 31 0 (8 * e + a)).toInt64 else 0)) 31 0 (8 * e + a) (until_ M e)
theorem r_more19 {d e ja : Nat} (M : xM) (a b op rb : Int32) (he : e < 24) (ha : ja < 8) (hop : op.toInt = 19) : Rn (d + 1) 92 (0, xen 92 [vR 20 0, vI (nI e), vI op, vI a, vI b, vI (nI (8 * e + ja)), vI rb], [], M) (fun r M' => r = none ∧ M' = f_alarm M e ja) := by
  show Rn _ 92 (0, [some (vR 20 0), some (vI (nI e)), some (vI op), some (vI a), some (vI b), some (vI (nI (8 * e + ja))), some (vI rb), none], [], _) _
  refine rn_iload_n (pc' := 1) rfl rfl rfl ?_
  refine rn_swIn (k := 4) (t := 254) rfl hop (by decide) rfl rfl ?_
  have k2 : ∀ x y, x = until_ M e → y = (if 0 < M.1 31 0 (8 * e + ja) then (M.1 20 0 26).toInt64 + (M.1 31 0 (8 * e + ja)).toInt64 else 0) → Rn (d + 1) 92 (317, [some (vR 20 0), some (vI (nI e)), some (vI op), some (vI a), some (vI b), some (vI (nI (8 * e + ja))), some (vI rb), some (vI x)], [vL y, vI (nI e), vR 38 0], M) (fun r M' => r = none ∧ M' = f_alarm M e ja) := by
    intro x y hx hy
    subst hx
    subst hy
    refine rn_last (N := 1) (K := 24) (pc' := 318) rfl rfl ⟨rfl, rfl⟩ rfl (by first | assumption | decide | omega) rfl (by decide) rfl (by first | assumption | decide | omega) ?_
    refine rn_aload_n (pc' := 319) rfl rfl rfl ?_
    refine rn_getF (N := 1) (t' := 31) (pc' := 322) rfl rfl rfl rfl rfl (by first | assumption | decide | omega) ?_
    refine rn_iload (pc' := 324) rfl rfl rfl ?_
    refine rn_iload (pc' := 326) rfl rfl rfl ?_
    refine rn_iast (N := 1) (K := 192) (pc' := 327) rfl rfl ⟨rfl, rfl⟩ rfl (by first | assumption | decide | omega) rfl (by decide) rfl (by first | assumption | decide | omega) ?_
    refine rn_goto (pc' := 390) rfl rfl ?_
    refine rn_return rfl rfl ?_
    exact ⟨rfl, rfl⟩
  have k1 : ∀ x, x = until_ M e → Rn (d + 1) 92 (282, [some (vR 20 0), some (vI (nI e)), some (vI op), some (vI a), some (vI b), some (vI (nI (8 * e + ja))), some (vI rb), none], [vI x], M) (fun r M' => r = none ∧ M' = f_alarm M e ja) := by
    intro x hx
    refine rn_istore (pc' := 284) rfl rfl rfl (Nat.le_of_ble_eq_true rfl) rfl ?_
    refine rn_aload_n (pc' := 285) rfl rfl rfl ?_
    refine rn_getF (N := 1) (t' := 38) (pc' := 288) rfl rfl rfl rfl rfl (by first | assumption | decide | omega) ?_
    refine rn_iload_n (pc' := 289) rfl rfl rfl ?_
    refine rn_aload_n (pc' := 290) rfl rfl rfl ?_
    refine rn_getF (N := 1) (t' := 31) (pc' := 293) rfl rfl rfl rfl rfl (by first | assumption | decide | omega) ?_
    refine rn_iload (pc' := 295) rfl rfl rfl ?_
    refine rn_iald (N := 1) (K := 192) (pc' := 296) rfl rfl ⟨rfl, rfl⟩ rfl (by first | assumption | decide | omega) rfl (by decide) rfl (by first | assumption | decide | omega) ?_
    refine rn_if_le (t := 316) (pc' := 299) rfl rfl rfl (fun h1 => ?_) (fun h1 => ?_)
    · refine rn_lconst (pc' := 317) (v := 0) rfl rfl rfl ?_
      refine k2 _ _ hx ?_
      first | rw [if_pos h1] | rw [if_neg h1]
    · refine rn_aload_n (pc' := 300) rfl rfl rfl ?_
      refine rn_getI (N := 1) (pc' := 303) rfl rfl rfl rfl (by decide) rfl (by first | assumption | decide | omega) ?_
      refine rn_i2l (pc' := 304) rfl rfl ?_
      refine rn_aload_n (pc' := 305) rfl rfl rfl ?_
      refine rn_getF (N := 1) (t' := 31) (pc' := 308) rfl rfl rfl rfl rfl (by first | assumption | decide | omega) ?_
      refine rn_iload (pc' := 310) rfl rfl rfl ?_
      refine rn_iald (N := 1) (K := 192) (pc' := 311) rfl rfl ⟨rfl, rfl⟩ rfl (by first | assumption | decide | omega) rfl (by decide) rfl (by first | assumption | decide | omega) ?_
      refine rn_i2l (pc' := 312) rfl rfl ?_
      refine rn_ladd (pc' := 313) rfl rfl ?_
      refine rn_goto (pc' := 317) rfl rfl ?_
      refine k2 _ _ hx ?_
      first | rw [if_pos h1] | rw [if_neg h1]
  refine rn_aload_n (pc' := 255) rfl rfl rfl ?_
  refine rn_getF (N := 1) (t' := 38) (pc' := 258) rfl rfl rfl rfl rfl (by first | assumption | decide | omega) ?_
  refine rn_iload_n (pc' := 259) rfl rfl rfl ?_
  refine rn_lald (N := 1) (K := 24) (pc' := 260) rfl rfl ⟨rfl, rfl⟩ rfl (by first | assumption | decide | omega) rfl (by decide) rfl (by first | assumption | decide | omega) ?_
  refine rn_lconst (pc' := 261) (v := 0) rfl rfl rfl ?_
  refine rn_lcmp (pc' := 262) rfl rfl ?_
  refine rn_if_le (t := 281) (pc' := 265) rfl rfl rfl (fun h1 => ?_) (fun h1 => ?_)
  · refine rn_iconst (pc' := 282) (v := 0) rfl rfl (by decide) ?_
    refine k1 _ ?_
    unfold until_
    simp only [lg_gt] at h1
    first | rw [if_pos h1] | rw [if_neg h1]
  · refine rn_aload_n (pc' := 266) rfl rfl rfl ?_
    refine rn_getF (N := 1) (t' := 38) (pc' := 269) rfl rfl rfl rfl rfl (by first | assumption | decide | omega) ?_
    refine rn_iload_n (pc' := 270) rfl rfl rfl ?_
    refine rn_lald (N := 1) (K := 24) (pc' := 271) rfl rfl ⟨rfl, rfl⟩ rfl (by first | assumption | decide | omega) rfl (by decide) rfl (by first | assumption | decide | omega) ?_
    refine rn_aload_n (pc' := 272) rfl rfl rfl ?_
    refine rn_getI (N := 1) (pc' := 275) rfl rfl rfl rfl (by decide) rfl (by first | assumption | decide | omega) ?_
    refine rn_i2l (pc' := 276) rfl rfl ?_
    refine rn_lsub (pc' := 277) rfl rfl ?_
    refine rn_l2i (pc' := 278) rfl rfl ?_
    refine rn_goto (pc' := 282) rfl rfl ?_
    refine k1 _ ?_
    unfold until_
    simp only [lg_gt] at h1
    first | rw [if_pos h1] | rw [if_neg h1]
theorem r_more20 {d e ja : Nat} (M : xM) (a b op rb : Int32) (he : e < 24) (ha : ja < 8) (hop : op.toInt = 20) : Rn (d + 1) 92 (0, xen 92 [vR 20 0, vI (nI e), vI op, vI a, vI b, vI (nI (8 * e + ja)), vI rb], [], M) (fun r M' => r = none ∧ M' = mI M 31 0 (8 * e + ja) (rpid M e)) := by
  show Rn _ 92 (0, [some (vR 20 0), some (vI (nI e)), some (vI op), some (vI a), some (vI b), some (vI (nI (8 * e + ja))), some (vI rb), none], [], _) _
  refine rn_iload_n (pc' := 1) rfl rfl rfl ?_
  refine rn_swIn (k := 5) (t := 330) rfl hop (by decide) rfl rfl ?_
  refine rn_aload_n (pc' := 331) rfl rfl rfl ?_
  refine rn_getF (N := 1) (t' := 31) (pc' := 334) rfl rfl rfl rfl rfl (by first | assumption | decide | omega) ?_
  refine rn_iload (pc' := 336) rfl rfl rfl ?_
  refine rn_aload_n (pc' := 337) rfl rfl rfl ?_
  refine rn_getF (N := 1) (t' := 25) (pc' := 340) rfl rfl rfl rfl rfl (by first | assumption | decide | omega) ?_
  refine rn_iload_n (pc' := 341) rfl rfl rfl ?_
  refine rn_iald (N := 1) (K := 24) (pc' := 342) rfl rfl ⟨rfl, rfl⟩ rfl (by first | assumption | decide | omega) rfl (by decide) rfl (by first | assumption | decide | omega) ?_
  refine rn_iast (N := 1) (K := 192) (pc' := 343) rfl rfl ⟨rfl, rfl⟩ rfl (by first | assumption | decide | omega) rfl (by decide) rfl (by first | assumption | decide | omega) ?_
  refine rn_goto (pc' := 390) rfl rfl ?_
  refine rn_return rfl rfl ?_
  exact ⟨rfl, rfl⟩
theorem r_more21 {d e ja : Nat} (M : xM) (a b op rb : Int32) (he : e < 24) (ha : ja < 8) (hop : op.toInt = 21) : Rn (d + 1) 92 (0, xen 92 [vR 20 0, vI (nI e), vI op, vI a, vI b, vI (nI (8 * e + ja)), vI rb], [], M) (fun r M' => r = none ∧ M' = mI M 31 0 (8 * e + ja) (rpar M e)) := by
  show Rn _ 92 (0, [some (vR 20 0), some (vI (nI e)), some (vI op), some (vI a), some (vI b), some (vI (nI (8 * e + ja))), some (vI rb), none], [], _) _
  refine rn_iload_n (pc' := 1) rfl rfl rfl ?_
  refine rn_swIn (k := 6) (t := 346) rfl hop (by decide) rfl rfl ?_
  refine rn_aload_n (pc' := 347) rfl rfl rfl ?_
  refine rn_getF (N := 1) (t' := 31) (pc' := 350) rfl rfl rfl rfl rfl (by first | assumption | decide | omega) ?_
  refine rn_iload (pc' := 352) rfl rfl rfl ?_
  refine rn_aload_n (pc' := 353) rfl rfl rfl ?_
  refine rn_getF (N := 1) (t' := 26) (pc' := 356) rfl rfl rfl rfl rfl (by first | assumption | decide | omega) ?_
  refine rn_iload_n (pc' := 357) rfl rfl rfl ?_
  refine rn_iald (N := 1) (K := 24) (pc' := 358) rfl rfl ⟨rfl, rfl⟩ rfl (by first | assumption | decide | omega) rfl (by decide) rfl (by first | assumption | decide | omega) ?_
  refine rn_iast (N := 1) (K := 192) (pc' := 359) rfl rfl ⟨rfl, rfl⟩ rfl (by first | assumption | decide | omega) rfl (by decide) rfl (by first | assumption | decide | omega) ?_
  refine rn_goto (pc' := 390) rfl rfl ?_
  refine rn_return rfl rfl ?_
  exact ⟨rfl, rfl⟩
theorem r_more22 {d e ja : Nat} (M : xM) (a b op rb : Int32) (he : e < 24) (ha : ja < 8) (hop : op.toInt = 22) : Rn (d + 1) 92 (0, xen 92 [vR 20 0, vI (nI e), vI op, vI a, vI b, vI (nI (8 * e + ja)), vI rb], [], M) (fun r M' => r = none ∧ M' = mI M 31 0 (8 * e + ja) (rgrp M e)) := by
  show Rn _ 92 (0, [some (vR 20 0), some (vI (nI e)), some (vI op), some (vI a), some (vI b), some (vI (nI (8 * e + ja))), some (vI rb), none], [], _) _
  refine rn_iload_n (pc' := 1) rfl rfl rfl ?_
  refine rn_swIn (k := 7) (t := 362) rfl hop (by decide) rfl rfl ?_
  refine rn_aload_n (pc' := 363) rfl rfl rfl ?_
  refine rn_getF (N := 1) (t' := 31) (pc' := 366) rfl rfl rfl rfl rfl (by first | assumption | decide | omega) ?_
  refine rn_iload (pc' := 368) rfl rfl rfl ?_
  refine rn_aload_n (pc' := 369) rfl rfl rfl ?_
  refine rn_getF (N := 1) (t' := 27) (pc' := 372) rfl rfl rfl rfl rfl (by first | assumption | decide | omega) ?_
  refine rn_iload_n (pc' := 373) rfl rfl rfl ?_
  refine rn_iald (N := 1) (K := 24) (pc' := 374) rfl rfl ⟨rfl, rfl⟩ rfl (by first | assumption | decide | omega) rfl (by decide) rfl (by first | assumption | decide | omega) ?_
  refine rn_iast (N := 1) (K := 192) (pc' := 375) rfl rfl ⟨rfl, rfl⟩ rfl (by first | assumption | decide | omega) rfl (by decide) rfl (by first | assumption | decide | omega) ?_
  refine rn_goto (pc' := 390) rfl rfl ?_
  refine rn_return rfl rfl ?_
  exact ⟨rfl, rfl⟩
theorem r_more23 {d e ja jb : Nat} (M : xM) (a b op : Int32) (he : e < 24) (ha : ja < 8) (hb : jb < 8) (hop : op.toInt = 23) : Rn (d + 2) 92 (0, xen 92 [vR 20 0, vI (nI e), vI op, vI a, vI b, vI (nI (8 * e + ja)), vI (nI (8 * e + jb))], [], M) (fun r M' => r = none ∧ M' = f_join M e ja jb) := by
  show Rn _ 92 (0, [some (vR 20 0), some (vI (nI e)), some (vI op), some (vI a), some (vI b), some (vI (nI (8 * e + ja))), some (vI (nI (8 * e + jb))), none], [], _) _
  refine rn_iload_n (pc' := 1) rfl rfl rfl ?_
  refine rn_swIn (k := 8) (t := 378) rfl hop (by decide) rfl rfl ?_
  refine rn_aload_n (pc' := 379) rfl rfl rfl ?_
  refine rn_iload_n (pc' := 380) rfl rfl rfl ?_
  refine rn_iload (pc' := 382) rfl rfl rfl ?_
  refine rn_iload (pc' := 384) rfl rfl rfl ?_
  refine rn_callV (pc' := 387) (as := [_, _, _]) rfl rfl rfl ⟨Nat.le_of_ble_eq_true rfl, rfl, rfl⟩ rfl (by first | assumption | decide | omega) (Nat.le_of_ble_eq_true rfl) (Nat.le_of_ble_eq_true rfl) rfl (r_join M he ha hb) (fun r1 M1 hz => ?_)
  obtain ⟨rfl, hm_⟩ := hz
  refine rn_mem hm_ ?_
  clear hm_
  refine rn_goto (pc' := 390) rfl rfl ?_
  refine rn_return rfl rfl ?_
  exact ⟨rfl, rfl⟩
theorem r_moreN {d e : Nat} (M : xM) (a b op ra rb : Int32) (hop : op.toInt < 15 ∨ 23 < op.toInt) : Rn d 92 (0, xen 92 [vR 20 0, vI (nI e), vI op, vI a, vI b, vI ra, vI rb], [], M) (fun r M' => r = none ∧ M' = M) := by
  show Rn _ 92 (0, [some (vR 20 0), some (vI (nI e)), some (vI op), some (vI a), some (vI b), some (vI ra), some (vI rb), none], [], _) _
  refine rn_iload_n (pc' := 1) rfl rfl rfl ?_
  refine rn_swOut (t := 390) rfl hop rfl ?_
  refine rn_return rfl rfl ?_
  exact ⟨rfl, rfl⟩
end
section
/-! THE REFERENCE: doAct, an op at a time -/
theorem ix60 (u s : Nat) : (60 : Int32) * nI u + nI s = nI (60 * u + s) := by
  show nI 60 * nI u + nI s = _
  rw [pk_mul, nI_add]
/-- where the act of e is, and what it is: the number of its place, op, a, b, and the registers meant -/
def aOk (M : xM) (e p i ja jb : Nat) : Prop := e < 24 ∧ p < 16 ∧ i < 60 ∧ ja < 8 ∧ jb < 8 ∧ rprg M e = nI p ∧ rnxt M e = nI i ∧ eig (M.1 23 0 (60 * p + i)) = nI ja ∧ eig (M.1 24 0 (60 * p + i)) = nI jb
abbrev nAct (M : xM) (e : Nat) : xM := mI M 30 0 e (rnxt M e + 1)
theorem r_actPre {d e p i ja jb : Nat} (M : xM) (Z : Option xV → xM → Prop) (ok : aOk M e p i ja jb) (k : Rn (d + 1) 91 (75, [some (vR 20 0), some (vI (nI e)), some (vI (nI (60 * p + i))), some (vI (M.1 22 0 (60 * p + i))), some (vI (M.1 23 0 (60 * p + i))), some (vI (M.1 24 0 (60 * p + i))), some (vI (nI (8 * e + ja))), some (vI (nI (8 * e + jb)))], [vI (M.1 22 0 (60 * p + i))], nAct M e) Z) : Rn (d + 1) 91 (0, xen 91 [vR 20 0, vI (nI e)], [], M) Z := by
  obtain ⟨he, hp, hi, ha, hb, hpr, hnx, hea, heb⟩ := ok
  show Rn _ 91 (0, [some (vR 20 0), some (vI (nI e)), none, none, none, none, none, none], [], _) _
  refine rn_bipush (pc' := 2) (v := 60) rfl rfl (by decide) ?_
  refine rn_aload_n (pc' := 3) rfl rfl rfl ?_
  refine rn_getF (N := 1) (t' := 29) (pc' := 6) rfl rfl rfl rfl rfl (by first | assumption | decide | omega) ?_
  refine rn_iload_n (pc' := 7) rfl rfl rfl ?_
  refine rn_iald (N := 1) (K := 24) (pc' := 8) rfl rfl ⟨rfl, rfl⟩ rfl (by first | assumption | decide | omega) rfl (by decide) rfl (by first | assumption | decide | omega) ?_
  refine rn_topI (y := nI p) hpr ?_
  refine rn_imul (pc' := 9) rfl rfl ?_
  refine rn_aload_n (pc' := 10) rfl rfl rfl ?_
  refine rn_getF (N := 1) (t' := 30) (pc' := 13) rfl rfl rfl rfl rfl (by first | assumption | decide | omega) ?_
  refine rn_iload_n (pc' := 14) rfl rfl rfl ?_
  refine rn_iald (N := 1) (K := 24) (pc' := 15) rfl rfl ⟨rfl, rfl⟩ rfl (by first | assumption | decide | omega) rfl (by decide) rfl (by first | assumption | decide | omega) ?_
  refine rn_topI (y := nI i) hnx ?_
  refine rn_iadd (pc' := 16) rfl rfl ?_
  refine rn_topI (ix60 p i) ?_
  refine rn_istore_n (pc' := 17) rfl rfl rfl (Nat.le_of_ble_eq_true rfl) rfl ?_
  refine rn_aload_n (pc' := 18) rfl rfl rfl ?_
  refine rn_getF (N := 1) (t' := 22) (pc' := 21) rfl rfl rfl rfl rfl (by first | assumption | decide | omega) ?_
  refine rn_iload_n (pc' := 22) rfl rfl rfl ?_
  refine rn_iald (k := 60 * p + i) (N := 1) (K := 960) (pc' := 23) rfl rfl ⟨rfl, rfl⟩ rfl (by first | assumption | decide | omega) rfl (by decide) (rfl) (by first | assumption | decide | omega) ?_
  refine rn_istore_n (pc' := 24) rfl rfl rfl (Nat.le_of_ble_eq_true rfl) rfl ?_
  refine rn_aload_n (pc' := 25) rfl rfl rfl ?_
  refine rn_getF (N := 1) (t' := 23) (pc' := 28) rfl rfl rfl rfl rfl (by first | assumption | decide | omega) ?_
  refine rn_iload_n (pc' := 29) rfl rfl rfl ?_
  refine rn_iald (k := 60 * p + i) (N := 1) (K := 960) (pc' := 30) rfl rfl ⟨rfl, rfl⟩ rfl (by first | assumption | decide | omega) rfl (by decide) (rfl) (by first | assumption | decide | omega) ?_
  refine rn_istore (pc' := 32) rfl rfl rfl (Nat.le_of_ble_eq_true rfl) rfl ?_
  refine rn_aload_n (pc' := 33) rfl rfl rfl ?_
  refine rn_getF (N := 1) (t' := 24) (pc' := 36) rfl rfl rfl rfl rfl (by first | assumption | decide | omega) ?_
  refine rn_iload_n (pc' := 37) rfl rfl rfl ?_
  refine rn_iald (k := 60 * p + i) (N := 1) (K := 960) (pc' := 38) rfl rfl ⟨rfl, rfl⟩ rfl (by first | assumption | decide | omega) rfl (by decide) (rfl) (by first | assumption | decide | omega) ?_
  refine rn_istore (pc' := 40) rfl rfl rfl (Nat.le_of_ble_eq_true rfl) rfl ?_
  refine rn_bipush (pc' := 42) (v := 8) rfl rfl (by decide) ?_
  refine rn_iload_n (pc' := 43) rfl rfl rfl ?_
  refine rn_imul (pc' := 44) rfl rfl ?_
  refine rn_iload (pc' := 46) rfl rfl rfl ?_
  refine rn_callS (pc' := 49) (as := [_]) rfl rfl rfl ⟨rfl, rfl, rfl⟩ (Nat.le_of_ble_eq_true rfl) (Nat.le_of_ble_eq_true rfl) rfl (r_eighth M _) (fun r1 M1 hz => ?_)
  obtain ⟨rfl, hm_⟩ := hz
  refine rn_mem hm_ ?_
  clear hm_
  refine rn_topI hea ?_
  refine rn_iadd (pc' := 50) rfl rfl ?_
  refine rn_topI (ix8 e ja) ?_
  refine rn_istore (pc' := 52) rfl rfl rfl (Nat.le_of_ble_eq_true rfl) rfl ?_
  refine rn_bipush (pc' := 54) (v := 8) rfl rfl (by decide) ?_
  refine rn_iload_n (pc' := 55) rfl rfl rfl ?_
  refine rn_imul (pc' := 56) rfl rfl ?_
  refine rn_iload (pc' := 58) rfl rfl rfl ?_
  refine rn_callS (pc' := 61) (as := [_]) rfl rfl rfl ⟨rfl, rfl, rfl⟩ (Nat.le_of_ble_eq_true rfl) (Nat.le_of_ble_eq_true rfl) rfl (r_eighth M _) (fun r2 M2 hz => ?_)
  obtain ⟨rfl, hm_⟩ := hz
  refine rn_mem hm_ ?_
  clear hm_
  refine rn_topI heb ?_
  refine rn_iadd (pc' := 62) rfl rfl ?_
  refine rn_topI (ix8 e jb) ?_
  refine rn_istore (pc' := 64) rfl rfl rfl (Nat.le_of_ble_eq_true rfl) rfl ?_
  refine rn_aload_n (pc' := 65) rfl rfl rfl ?_
  refine rn_getF (N := 1) (t' := 30) (pc' := 68) rfl rfl rfl rfl rfl (by first | assumption | decide | omega) ?_
  refine rn_iload_n (pc' := 69) rfl rfl rfl ?_
  refine rn_dup2 (pc' := 70) rfl rfl ?_
  refine rn_iald (N := 1) (K := 24) (pc' := 71) rfl rfl ⟨rfl, rfl⟩ rfl (by first | assumption | decide | omega) rfl (by decide) rfl (by first | assumption | decide | omega) ?_
  refine rn_iconst (pc' := 72) (v := 1) rfl rfl (by decide) ?_
  refine rn_iadd (pc' := 73) rfl rfl ?_
  refine rn_iast (N := 1) (K := 24) (pc' := 74) rfl rfl ⟨rfl, rfl⟩ rfl (by first | assumption | decide | omega) rfl (by decide) rfl (by first | assumption | decide | omega) ?_
  refine rn_iload_n (pc' := 75) rfl rfl rfl ?_
  exact k
theorem r_act0 {d e p i ja jb : Nat} (M : xM) (ok : aOk M e p i ja jb) (hop : (M.1 22 0 (60 * p + i)).toInt = 0) : Rn (d + 1) 91 (0, xen 91 [vR 20 0, vI (nI e)], [], M) (fun r M' => r = none ∧ M' = mI (nAct M e) 31 0 (8 * e + ja) (M.1 24 0 (60 * p + i))) := by
  refine r_actPre M _ ok ?_
  obtain ⟨he, hp, hi, ha, hb, hpr, hnx, hea, heb⟩ := ok
  refine rn_swIn (k := 0) (t := 148) rfl hop (by decide) rfl rfl ?_
  refine rn_aload_n (pc' := 149) rfl rfl rfl ?_
  refine rn_getF (N := 1) (t' := 31) (pc' := 152) rfl rfl rfl rfl rfl (by first | assumption | decide | omega) ?_
  refine rn_iload (pc' := 154) rfl rfl rfl ?_
  refine rn_iload (pc' := 156) rfl rfl rfl ?_
  refine rn_iast (N := 1) (K := 192) (pc' := 157) rfl rfl ⟨rfl, rfl⟩ rfl (by first | assumption | decide | omega) rfl (by decide) rfl (by first | assumption | decide | omega) ?_
  refine rn_goto (pc' := 422) rfl rfl ?_
  refine rn_return rfl rfl ?_
  exact ⟨rfl, rfl⟩
theorem r_act1 {d e p i ja jb : Nat} (M : xM) (ok : aOk M e p i ja jb) (hop : (M.1 22 0 (60 * p + i)).toInt = 1) : Rn (d + 1) 91 (0, xen 91 [vR 20 0, vI (nI e)], [], M) (fun r M' => r = none ∧ M' = mI (nAct M e) 31 0 (8 * e + ja) (M.1 31 0 (8 * e + jb))) := by
  refine r_actPre M _ ok ?_
  obtain ⟨he, hp, hi, ha, hb, hpr, hnx, hea, heb⟩ := ok
  refine rn_swIn (k := 1) (t := 160) rfl hop (by decide) rfl rfl ?_
  refine rn_aload_n (pc' := 161) rfl rfl rfl ?_
  refine rn_getF (N := 1) (t' := 31) (pc' := 164) rfl rfl rfl rfl rfl (by first | assumption | decide | omega) ?_
  refine rn_iload (pc' := 166) rfl rfl rfl ?_
  refine rn_aload_n (pc' := 167) rfl rfl rfl ?_
  refine rn_getF (N := 1) (t' := 31) (pc' := 170) rfl rfl rfl rfl rfl (by first | assumption | decide | omega) ?_
  refine rn_iload (pc' := 172) rfl rfl rfl ?_
  refine rn_iald (N := 1) (K := 192) (pc' := 173) rfl rfl ⟨rfl, rfl⟩ rfl (by first | assumption | decide | omega) rfl (by decide) rfl (by first | assumption | decide | omega) ?_
  refine rn_iast (N := 1) (K := 192) (pc' := 174) rfl rfl ⟨rfl, rfl⟩ rfl (by first | assumption | decide | omega) rfl (by decide) rfl (by first | assumption | decide | omega) ?_
  refine rn_goto (pc' := 422) rfl rfl ?_
  refine rn_return rfl rfl ?_
  exact ⟨rfl, rfl⟩
theorem r_act2 {d e p i ja jb : Nat} (M : xM) (ok : aOk M e p i ja jb) (hop : (M.1 22 0 (60 * p + i)).toInt = 2) : Rn (d + 1) 91 (0, xen 91 [vR 20 0, vI (nI e)], [], M) (fun r M' => r = none ∧ M' = mI (nAct M e) 31 0 (8 * e + ja) (M.1 31 0 (8 * e + ja) + M.1 31 0 (8 * e + jb))) := by
  refine r_actPre M _ ok ?_
  obtain ⟨he, hp, hi, ha, hb, hpr, hnx, hea, heb⟩ := ok
  refine rn_swIn (k := 2) (t := 177) rfl hop (by decide) rfl rfl ?_
  refine rn_aload_n (pc' := 178) rfl rfl rfl ?_
  refine rn_getF (N := 1) (t' := 31) (pc' := 181) rfl rfl rfl rfl rfl (by first | assumption | decide | omega) ?_
  refine rn_iload (pc' := 183) rfl rfl rfl ?_
  refine rn_dup2 (pc' := 184) rfl rfl ?_
  refine rn_iald (N := 1) (K := 192) (pc' := 185) rfl rfl ⟨rfl, rfl⟩ rfl (by first | assumption | decide | omega) rfl (by decide) rfl (by first | assumption | decide | omega) ?_
  refine rn_aload_n (pc' := 186) rfl rfl rfl ?_
  refine rn_getF (N := 1) (t' := 31) (pc' := 189) rfl rfl rfl rfl rfl (by first | assumption | decide | omega) ?_
  refine rn_iload (pc' := 191) rfl rfl rfl ?_
  refine rn_iald (N := 1) (K := 192) (pc' := 192) rfl rfl ⟨rfl, rfl⟩ rfl (by first | assumption | decide | omega) rfl (by decide) rfl (by first | assumption | decide | omega) ?_
  refine rn_iadd (pc' := 193) rfl rfl ?_
  refine rn_iast (N := 1) (K := 192) (pc' := 194) rfl rfl ⟨rfl, rfl⟩ rfl (by first | assumption | decide | omega) rfl (by decide) rfl (by first | assumption | decide | omega) ?_
  refine rn_goto (pc' := 422) rfl rfl ?_
  refine rn_return rfl rfl ?_
  exact ⟨rfl, rfl⟩
theorem r_act3 {d e p i ja jb : Nat} (M : xM) (ok : aOk M e p i ja jb) (hop : (M.1 22 0 (60 * p + i)).toInt = 3) : Rn (d + 1) 91 (0, xen 91 [vR 20 0, vI (nI e)], [], M) (fun r M' => r = none ∧ M' = mI (nAct M e) 31 0 (8 * e + ja) (M.1 31 0 (8 * e + ja) - M.1 31 0 (8 * e + jb))) := by
  refine r_actPre M _ ok ?_
  obtain ⟨he, hp, hi, ha, hb, hpr, hnx, hea, heb⟩ := ok
  refine rn_swIn (k := 3) (t := 197) rfl hop (by decide) rfl rfl ?_
  refine rn_aload_n (pc' := 198) rfl rfl rfl ?_
  refine rn_getF (N := 1) (t' := 31) (pc' := 201) rfl rfl rfl rfl rfl (by first | assumption | decide | omega) ?_
  refine rn_iload (pc' := 203) rfl rfl rfl ?_
  refine rn_dup2 (pc' := 204) rfl rfl ?_
  refine rn_iald (N := 1) (K := 192) (pc' := 205) rfl rfl ⟨rfl, rfl⟩ rfl (by first | assumption | decide | omega) rfl (by decide) rfl (by first | assumption | decide | omega) ?_
  refine rn_aload_n (pc' := 206) rfl rfl rfl ?_
  refine rn_getF (N := 1) (t' := 31) (pc' := 209) rfl rfl rfl rfl rfl (by first | assumption | decide | omega) ?_
  refine rn_iload (pc' := 211) rfl rfl rfl ?_
  refine rn_iald (N := 1) (K := 192) (pc' := 212) rfl rfl ⟨rfl, rfl⟩ rfl (by first | assumption | decide | omega) rfl (by decide) rfl (by first | assumption | decide | omega) ?_
  refine rn_isub (pc' := 213) rfl rfl ?_
  refine rn_iast (N := 1) (K := 192) (pc' := 214) rfl rfl ⟨rfl, rfl⟩ rfl (by first | assumption | decide | omega) rfl (by decide) rfl (by first | assumption | decide | omega) ?_
  refine rn_goto (pc' := 422) rfl rfl ?_
  refine rn_return rfl rfl ?_
  exact ⟨rfl, rfl⟩
theorem r_act4 {d e p i ja jb : Nat} (M : xM) (ok : aOk M e p i ja jb) (hop : (M.1 22 0 (60 * p + i)).toInt = 4) : Rn (d + 1) 91 (0, xen 91 [vR 20 0, vI (nI e)], [], M) (fun r M' => r = none ∧ M' = mI (nAct M e) 30 0 e (M.1 23 0 (60 * p + i))) := by
  refine r_actPre M _ ok ?_
  obtain ⟨he, hp, hi, ha, hb, hpr, hnx, hea, heb⟩ := ok
  refine rn_swIn (k := 4) (t := 217) rfl hop (by decide) rfl rfl ?_
  refine rn_aload_n (pc' := 218) rfl rfl rfl ?_
  refine rn_getF (N := 1) (t' := 30) (pc' := 221) rfl rfl rfl rfl rfl (by first | assumption | decide | omega) ?_
  refine rn_iload_n (pc' := 222) rfl rfl rfl ?_
  refine rn_iload (pc' := 224) rfl rfl rfl ?_
  refine rn_iast (N := 1) (K := 24) (pc' := 225) rfl rfl ⟨rfl, rfl⟩ rfl (by first | assumption | decide | omega) rfl (by decide) rfl (by first | assumption | decide | omega) ?_
  refine rn_goto (pc' := 422) rfl rfl ?_
  refine rn_return rfl rfl ?_
  exact ⟨rfl, rfl⟩
theorem r_act5 {d e p i ja jb : Nat} (M : xM) (ok : aOk M e p i ja jb) (hop : (M.1 22 0 (60 * p + i)).toInt = 5) : Rn (d + 1) 91 (0, xen 91 [vR 20 0, vI (nI e)], [], M) (fun r M' => r = none ∧ M' = mI (nAct M e) 30 0 e (if M.1 31 0 (8 * e + ja) = 0 then (M.1 24 0 (60 * p + i)) else (nAct M e).1 30 0 e)) := by
  refine r_actPre M _ ok ?_
  obtain ⟨he, hp, hi, ha, hb, hpr, hnx, hea, heb⟩ := ok
  refine rn_swIn (k := 5) (t := 228) rfl hop (by decide) rfl rfl ?_
  by_cases hc : M.1 31 0 (8 * e + ja) = 0
  · rw [if_pos hc]
    refine rn_aload_n (pc' := 229) rfl rfl rfl ?_
    refine rn_getF (N := 1) (t' := 30) (pc' := 232) rfl rfl rfl rfl rfl (by first | assumption | decide | omega) ?_
    refine rn_iload_n (pc' := 233) rfl rfl rfl ?_
    refine rn_aload_n (pc' := 234) rfl rfl rfl ?_
    refine rn_getF (N := 1) (t' := 31) (pc' := 237) rfl rfl rfl rfl rfl (by first | assumption | decide | omega) ?_
    refine rn_iload (pc' := 239) rfl rfl rfl ?_
    refine rn_iald (N := 1) (K := 192) (pc' := 240) rfl rfl ⟨rfl, rfl⟩ rfl (by first | assumption | decide | omega) rfl (by decide) rfl (by first | assumption | decide | omega) ?_
    refine rn_if_ne (t := 248) (pc' := 243) rfl rfl rfl (fun h1 => ?_) (fun h1 => ?_)
    · exact absurd hc h1
    · refine rn_iload (pc' := 245) rfl rfl rfl ?_
      refine rn_goto (pc' := 254) rfl rfl ?_
      refine rn_iast (N := 1) (K := 24) (pc' := 255) rfl rfl ⟨rfl, rfl⟩ rfl (by first | assumption | decide | omega) rfl (by decide) rfl (by first | assumption | decide | omega) ?_
      refine rn_goto (pc' := 422) rfl rfl ?_
      refine rn_return rfl rfl ?_
      exact ⟨rfl, rfl⟩
  · rw [if_neg hc]
    refine rn_aload_n (pc' := 229) rfl rfl rfl ?_
    refine rn_getF (N := 1) (t' := 30) (pc' := 232) rfl rfl rfl rfl rfl (by first | assumption | decide | omega) ?_
    refine rn_iload_n (pc' := 233) rfl rfl rfl ?_
    refine rn_aload_n (pc' := 234) rfl rfl rfl ?_
    refine rn_getF (N := 1) (t' := 31) (pc' := 237) rfl rfl rfl rfl rfl (by first | assumption | decide | omega) ?_
    refine rn_iload (pc' := 239) rfl rfl rfl ?_
    refine rn_iald (N := 1) (K := 192) (pc' := 240) rfl rfl ⟨rfl, rfl⟩ rfl (by first | assumption | decide | omega) rfl (by decide) rfl (by first | assumption | decide | omega) ?_
    refine rn_if_ne (t := 248) (pc' := 243) rfl rfl rfl (fun h1 => ?_) (fun h1 => ?_)
    · refine rn_aload_n (pc' := 249) rfl rfl rfl ?_
      refine rn_getF (N := 1) (t' := 30) (pc' := 252) rfl rfl rfl rfl rfl (by first | assumption | decide | omega) ?_
      refine rn_iload_n (pc' := 253) rfl rfl rfl ?_
      refine rn_iald (N := 1) (K := 24) (pc' := 254) rfl rfl ⟨rfl, rfl⟩ rfl (by first | assumption | decide | omega) rfl (by decide) rfl (by first | assumption | decide | omega) ?_
      refine rn_iast (N := 1) (K := 24) (pc' := 255) rfl rfl ⟨rfl, rfl⟩ rfl (by first | assumption | decide | omega) rfl (by decide) rfl (by first | assumption | decide | omega) ?_
      refine rn_goto (pc' := 422) rfl rfl ?_
      refine rn_return rfl rfl ?_
      exact ⟨rfl, rfl⟩
    · exact absurd h1 hc
theorem r_act6 {d e p i ja jb : Nat} (M : xM) (ok : aOk M e p i ja jb) (hop : (M.1 22 0 (60 * p + i)).toInt = 6) : Rn (d + 1) 91 (0, xen 91 [vR 20 0, vI (nI e)], [], M) (fun r M' => r = none ∧ M' = mI (nAct M e) 30 0 e (if M.1 31 0 (8 * e + ja) < 0 then (M.1 24 0 (60 * p + i)) else (nAct M e).1 30 0 e)) := by
  refine r_actPre M _ ok ?_
  obtain ⟨he, hp, hi, ha, hb, hpr, hnx, hea, heb⟩ := ok
  refine rn_swIn (k := 6) (t := 258) rfl hop (by decide) rfl rfl ?_
  by_cases hc : M.1 31 0 (8 * e + ja) < 0
  · rw [if_pos hc]
    refine rn_aload_n (pc' := 259) rfl rfl rfl ?_
    refine rn_getF (N := 1) (t' := 30) (pc' := 262) rfl rfl rfl rfl rfl (by first | assumption | decide | omega) ?_
    refine rn_iload_n (pc' := 263) rfl rfl rfl ?_
    refine rn_aload_n (pc' := 264) rfl rfl rfl ?_
    refine rn_getF (N := 1) (t' := 31) (pc' := 267) rfl rfl rfl rfl rfl (by first | assumption | decide | omega) ?_
    refine rn_iload (pc' := 269) rfl rfl rfl ?_
    refine rn_iald (N := 1) (K := 192) (pc' := 270) rfl rfl ⟨rfl, rfl⟩ rfl (by first | assumption | decide | omega) rfl (by decide) rfl (by first | assumption | decide | omega) ?_
    refine rn_if_ge (t := 278) (pc' := 273) rfl rfl rfl (fun h1 => ?_) (fun h1 => ?_)
    · exact absurd hc h1
    · refine rn_iload (pc' := 275) rfl rfl rfl ?_
      refine rn_goto (pc' := 284) rfl rfl ?_
      refine rn_iast (N := 1) (K := 24) (pc' := 285) rfl rfl ⟨rfl, rfl⟩ rfl (by first | assumption | decide | omega) rfl (by decide) rfl (by first | assumption | decide | omega) ?_
      refine rn_goto (pc' := 422) rfl rfl ?_
      refine rn_return rfl rfl ?_
      exact ⟨rfl, rfl⟩
  · rw [if_neg hc]
    refine rn_aload_n (pc' := 259) rfl rfl rfl ?_
    refine rn_getF (N := 1) (t' := 30) (pc' := 262) rfl rfl rfl rfl rfl (by first | assumption | decide | omega) ?_
    refine rn_iload_n (pc' := 263) rfl rfl rfl ?_
    refine rn_aload_n (pc' := 264) rfl rfl rfl ?_
    refine rn_getF (N := 1) (t' := 31) (pc' := 267) rfl rfl rfl rfl rfl (by first | assumption | decide | omega) ?_
    refine rn_iload (pc' := 269) rfl rfl rfl ?_
    refine rn_iald (N := 1) (K := 192) (pc' := 270) rfl rfl ⟨rfl, rfl⟩ rfl (by first | assumption | decide | omega) rfl (by decide) rfl (by first | assumption | decide | omega) ?_
    refine rn_if_ge (t := 278) (pc' := 273) rfl rfl rfl (fun h1 => ?_) (fun h1 => ?_)
    · refine rn_aload_n (pc' := 279) rfl rfl rfl ?_
      refine rn_getF (N := 1) (t' := 30) (pc' := 282) rfl rfl rfl rfl rfl (by first | assumption | decide | omega) ?_
      refine rn_iload_n (pc' := 283) rfl rfl rfl ?_
      refine rn_iald (N := 1) (K := 24) (pc' := 284) rfl rfl ⟨rfl, rfl⟩ rfl (by first | assumption | decide | omega) rfl (by decide) rfl (by first | assumption | decide | omega) ?_
      refine rn_iast (N := 1) (K := 24) (pc' := 285) rfl rfl ⟨rfl, rfl⟩ rfl (by first | assumption | decide | omega) rfl (by decide) rfl (by first | assumption | decide | omega) ?_
      refine rn_goto (pc' := 422) rfl rfl ?_
      refine rn_return rfl rfl ?_
      exact ⟨rfl, rfl⟩
    · exact absurd h1 hc
def f_log (M : xM) (e ja g : Nat) : xM :=
  let A := mI M 47 0 (g % 40) (M.1 25 0 e)
  let B := mI A 48 0 (g % 40) (A.1 31 0 (8 * e + ja))
  mI B 20 0 31 (B.1 20 0 31 + 1)
theorem rem40 {x : Int32} {g : Nat} (h : x = nI g) (hg : g < 2 ^ 31) : x - x / 40 * 40 = nI (g % 40) := by
  subst h
  exact pk_rem hg (d := 40) (by decide) (by decide)
theorem r_act7 {d e p i ja jb g : Nat} (M : xM) (ok : aOk M e p i ja jb) (hop : (M.1 22 0 (60 * p + i)).toInt = 7) (hg : M.1 20 0 31 = nI g) (hg31 : g < 2 ^ 31) : Rn (d + 1) 91 (0, xen 91 [vR 20 0, vI (nI e)], [], M) (fun r M' => r = none ∧ M' = f_log (nAct M e) e ja g) := by
  refine r_actPre M _ ok ?_
  obtain ⟨he, hp, hi, ha, hb, hpr, hnx, hea, heb⟩ := ok
  refine rn_swIn (k := 7) (t := 288) rfl hop (by decide) rfl rfl ?_
  refine rn_aload_n (pc' := 289) rfl rfl rfl ?_
  refine rn_getF (N := 1) (t' := 47) (pc' := 292) rfl rfl rfl rfl rfl (by first | assumption | decide | omega) ?_
  refine rn_aload_n (pc' := 293) rfl rfl rfl ?_
  refine rn_getI (N := 1) (pc' := 296) rfl rfl rfl rfl (by decide) rfl (by first | assumption | decide | omega) ?_
  refine rn_bipush (pc' := 298) (v := 40) rfl rfl (by decide) ?_
  refine rn_irem (pc' := 299) rfl rfl (by decide) ?_
  refine rn_topI (rem40 (g := g) hg hg31) ?_
  refine rn_aload_n (pc' := 300) rfl rfl rfl ?_
  refine rn_getF (N := 1) (t' := 25) (pc' := 303) rfl rfl rfl rfl rfl (by first | assumption | decide | omega) ?_
  refine rn_iload_n (pc' := 304) rfl rfl rfl ?_
  refine rn_iald (N := 1) (K := 24) (pc' := 305) rfl rfl ⟨rfl, rfl⟩ rfl (by first | assumption | decide | omega) rfl (by decide) rfl (by first | assumption | decide | omega) ?_
  refine rn_iast (k := g % 40) (N := 1) (K := 40) (pc' := 306) rfl rfl ⟨rfl, rfl⟩ rfl (by first | assumption | decide | omega) rfl (by decide) (rfl) (Nat.mod_lt _ (by decide)) ?_
  refine rn_aload_n (pc' := 307) rfl rfl rfl ?_
  refine rn_getF (N := 1) (t' := 48) (pc' := 310) rfl rfl rfl rfl rfl (by first | assumption | decide | omega) ?_
  refine rn_aload_n (pc' := 311) rfl rfl rfl ?_
  refine rn_getI (N := 1) (pc' := 314) rfl rfl rfl rfl (by decide) rfl (by first | assumption | decide | omega) ?_
  refine rn_bipush (pc' := 316) (v := 40) rfl rfl (by decide) ?_
  refine rn_irem (pc' := 317) rfl rfl (by decide) ?_
  refine rn_topI (rem40 (g := g) hg hg31) ?_
  refine rn_aload_n (pc' := 318) rfl rfl rfl ?_
  refine rn_getF (N := 1) (t' := 31) (pc' := 321) rfl rfl rfl rfl rfl (by first | assumption | decide | omega) ?_
  refine rn_iload (pc' := 323) rfl rfl rfl ?_
  refine rn_iald (N := 1) (K := 192) (pc' := 324) rfl rfl ⟨rfl, rfl⟩ rfl (by first | assumption | decide | omega) rfl (by decide) rfl (by first | assumption | decide | omega) ?_
  refine rn_iast (k := g % 40) (N := 1) (K := 40) (pc' := 325) rfl rfl ⟨rfl, rfl⟩ rfl (by first | assumption | decide | omega) rfl (by decide) (rfl) (Nat.mod_lt _ (by decide)) ?_
  refine rn_aload_n (pc' := 326) rfl rfl rfl ?_
  refine rn_dupA (pc' := 327) rfl rfl ?_
  refine rn_getI (N := 1) (pc' := 330) rfl rfl rfl rfl (by decide) rfl (by first | assumption | decide | omega) ?_
  refine rn_iconst (pc' := 331) (v := 1) rfl rfl (by decide) ?_
  refine rn_iadd (pc' := 332) rfl rfl ?_
  refine rn_putI (N := 1) (pc' := 335) rfl rfl rfl rfl rfl (by first | assumption | decide | omega) ?_
  refine rn_goto (pc' := 422) rfl rfl ?_
  refine rn_return rfl rfl ?_
  exact ⟨rfl, rfl⟩
theorem r_act8 {d e p i ja jb : Nat} (M F : xM) (ok : aOk M e p i ja jb) (hop : (M.1 22 0 (60 * p + i)).toInt = 8) (hc : Rn d 93 (0, xen 93 [vR 20 0, vI (nI e), vI (nI (8 * e + ja))], [], nAct M e) (fun r M' => r = none ∧ M' = F)) : Rn (d + 1) 91 (0, xen 91 [vR 20 0, vI (nI e)], [], M) (fun r M' => r = none ∧ M' = F) := by
  refine r_actPre M _ ok ?_
  obtain ⟨he, hp, hi, ha, hb, hpr, hnx, hea, heb⟩ := ok
  refine rn_swIn (k := 8) (t := 338) rfl hop (by decide) rfl rfl ?_
  refine rn_aload_n (pc' := 339) rfl rfl rfl ?_
  refine rn_iload_n (pc' := 340) rfl rfl rfl ?_
  refine rn_iload (pc' := 342) rfl rfl rfl ?_
  refine rn_callV (pc' := 345) (as := [_, _]) rfl rfl rfl ⟨Nat.le_of_ble_eq_true rfl, rfl, rfl⟩ rfl (by first | assumption | decide | omega) (Nat.le_of_ble_eq_true rfl) (Nat.le_of_ble_eq_true rfl) rfl hc (fun r1 M1 hz => ?_)
  obtain ⟨rfl, hm_⟩ := hz
  refine rn_mem hm_ ?_
  clear hm_
  refine rn_goto (pc' := 422) rfl rfl ?_
  refine rn_return rfl rfl ?_
  exact ⟨rfl, rfl⟩
theorem r_act9 {d e p i ja jb : Nat} (M F : xM) (ok : aOk M e p i ja jb) (hop : (M.1 22 0 (60 * p + i)).toInt = 9) (hc : Rn d 94 (0, xen 94 [vR 20 0, vI (nI e), vI (M.1 24 0 (60 * p + i)), vI (nI (8 * e + ja))], [], nAct M e) (fun r M' => r = none ∧ M' = F)) : Rn (d + 1) 91 (0, xen 91 [vR 20 0, vI (nI e)], [], M) (fun r M' => r = none ∧ M' = F) := by
  refine r_actPre M _ ok ?_
  obtain ⟨he, hp, hi, ha, hb, hpr, hnx, hea, heb⟩ := ok
  refine rn_swIn (k := 9) (t := 348) rfl hop (by decide) rfl rfl ?_
  refine rn_aload_n (pc' := 349) rfl rfl rfl ?_
  refine rn_iload_n (pc' := 350) rfl rfl rfl ?_
  refine rn_iload (pc' := 352) rfl rfl rfl ?_
  refine rn_iload (pc' := 354) rfl rfl rfl ?_
  refine rn_callV (pc' := 357) (as := [_, _, _]) rfl rfl rfl ⟨Nat.le_of_ble_eq_true rfl, rfl, rfl⟩ rfl (by first | assumption | decide | omega) (Nat.le_of_ble_eq_true rfl) (Nat.le_of_ble_eq_true rfl) rfl hc (fun r1 M1 hz => ?_)
  obtain ⟨rfl, hm_⟩ := hz
  refine rn_mem hm_ ?_
  clear hm_
  refine rn_goto (pc' := 422) rfl rfl ?_
  refine rn_return rfl rfl ?_
  exact ⟨rfl, rfl⟩
theorem r_act10 {d e p i ja jb : Nat} (M F : xM) (ok : aOk M e p i ja jb) (hop : (M.1 22 0 (60 * p + i)).toInt = 10) (hc : Rn d 84 (0, xen 84 [vR 20 0, vI (nI e), vI (256 * (M.1 31 0 (8 * e + ja) &&& 255))], [], nAct M e) (fun r M' => r = none ∧ M' = F)) : Rn (d + 1) 91 (0, xen 91 [vR 20 0, vI (nI e)], [], M) (fun r M' => r = none ∧ M' = F) := by
  refine r_actPre M _ ok ?_
  obtain ⟨he, hp, hi, ha, hb, hpr, hnx, hea, heb⟩ := ok
  refine rn_swIn (k := 10) (t := 360) rfl hop (by decide) rfl rfl ?_
  refine rn_aload_n (pc' := 361) rfl rfl rfl ?_
  refine rn_iload_n (pc' := 362) rfl rfl rfl ?_
  refine rn_sipush (pc' := 365) (v := 256) rfl rfl (by decide) ?_
  refine rn_aload_n (pc' := 366) rfl rfl rfl ?_
  refine rn_getF (N := 1) (t' := 31) (pc' := 369) rfl rfl rfl rfl rfl (by first | assumption | decide | omega) ?_
  refine rn_iload (pc' := 371) rfl rfl rfl ?_
  refine rn_iald (N := 1) (K := 192) (pc' := 372) rfl rfl ⟨rfl, rfl⟩ rfl (by first | assumption | decide | omega) rfl (by decide) rfl (by first | assumption | decide | omega) ?_
  refine rn_sipush (pc' := 375) (v := 255) rfl rfl (by decide) ?_
  refine rn_iand (pc' := 376) rfl rfl ?_
  refine rn_imul (pc' := 377) rfl rfl ?_
  refine rn_callV (pc' := 380) (as := [_, _]) rfl rfl rfl ⟨Nat.le_of_ble_eq_true rfl, rfl, rfl⟩ rfl (by first | assumption | decide | omega) (Nat.le_of_ble_eq_true rfl) (Nat.le_of_ble_eq_true rfl) rfl hc (fun r1 M1 hz => ?_)
  obtain ⟨rfl, hm_⟩ := hz
  refine rn_mem hm_ ?_
  clear hm_
  refine rn_goto (pc' := 422) rfl rfl ?_
  refine rn_return rfl rfl ?_
  exact ⟨rfl, rfl⟩
theorem r_act11 {d e p i ja jb : Nat} (M F : xM) (ok : aOk M e p i ja jb) (hop : (M.1 22 0 (60 * p + i)).toInt = 11) (hc : Rn d 96 (0, xen 96 [vR 20 0, vI (nI e), vI (M.1 22 0 (60 * p + i)), vI (nI (8 * e + ja)), vI (nI (8 * e + jb))], [], nAct M e) (fun r M' => r = none ∧ M' = F)) : Rn (d + 1) 91 (0, xen 91 [vR 20 0, vI (nI e)], [], M) (fun r M' => r = none ∧ M' = F) := by
  refine r_actPre M _ ok ?_
  obtain ⟨he, hp, hi, ha, hb, hpr, hnx, hea, heb⟩ := ok
  refine rn_swIn (k := 11) (t := 383) rfl hop (by decide) rfl rfl ?_
  refine rn_aload_n (pc' := 384) rfl rfl rfl ?_
  refine rn_iload_n (pc' := 385) rfl rfl rfl ?_
  refine rn_iload_n (pc' := 386) rfl rfl rfl ?_
  refine rn_iload (pc' := 388) rfl rfl rfl ?_
  refine rn_iload (pc' := 390) rfl rfl rfl ?_
  refine rn_callV (pc' := 393) (as := [_, _, _, _]) rfl rfl rfl ⟨Nat.le_of_ble_eq_true rfl, rfl, rfl⟩ rfl (by first | assumption | decide | omega) (Nat.le_of_ble_eq_true rfl) (Nat.le_of_ble_eq_true rfl) rfl hc (fun r1 M1 hz => ?_)
  obtain ⟨rfl, hm_⟩ := hz
  refine rn_mem hm_ ?_
  clear hm_
  refine rn_goto (pc' := 422) rfl rfl ?_
  refine rn_return rfl rfl ?_
  exact ⟨rfl, rfl⟩
theorem r_act12 {d e p i ja jb : Nat} (M F : xM) (ok : aOk M e p i ja jb) (hop : (M.1 22 0 (60 * p + i)).toInt = 12) (hc : Rn d 96 (0, xen 96 [vR 20 0, vI (nI e), vI (M.1 22 0 (60 * p + i)), vI (nI (8 * e + ja)), vI (nI (8 * e + jb))], [], nAct M e) (fun r M' => r = none ∧ M' = F)) : Rn (d + 1) 91 (0, xen 91 [vR 20 0, vI (nI e)], [], M) (fun r M' => r = none ∧ M' = F) := by
  refine r_actPre M _ ok ?_
  obtain ⟨he, hp, hi, ha, hb, hpr, hnx, hea, heb⟩ := ok
  refine rn_swIn (k := 12) (t := 383) rfl hop (by decide) rfl rfl ?_
  refine rn_aload_n (pc' := 384) rfl rfl rfl ?_
  refine rn_iload_n (pc' := 385) rfl rfl rfl ?_
  refine rn_iload_n (pc' := 386) rfl rfl rfl ?_
  refine rn_iload (pc' := 388) rfl rfl rfl ?_
  refine rn_iload (pc' := 390) rfl rfl rfl ?_
  refine rn_callV (pc' := 393) (as := [_, _, _, _]) rfl rfl rfl ⟨Nat.le_of_ble_eq_true rfl, rfl, rfl⟩ rfl (by first | assumption | decide | omega) (Nat.le_of_ble_eq_true rfl) (Nat.le_of_ble_eq_true rfl) rfl hc (fun r1 M1 hz => ?_)
  obtain ⟨rfl, hm_⟩ := hz
  refine rn_mem hm_ ?_
  clear hm_
  refine rn_goto (pc' := 422) rfl rfl ?_
  refine rn_return rfl rfl ?_
  exact ⟨rfl, rfl⟩
theorem r_act13 {d e p i ja jb : Nat} (M F : xM) (ok : aOk M e p i ja jb) (hop : (M.1 22 0 (60 * p + i)).toInt = 13) (hc : Rn d 96 (0, xen 96 [vR 20 0, vI (nI e), vI (M.1 22 0 (60 * p + i)), vI (nI (8 * e + ja)), vI (nI (8 * e + jb))], [], nAct M e) (fun r M' => r = none ∧ M' = F)) : Rn (d + 1) 91 (0, xen 91 [vR 20 0, vI (nI e)], [], M) (fun r M' => r = none ∧ M' = F) := by
  refine r_actPre M _ ok ?_
  obtain ⟨he, hp, hi, ha, hb, hpr, hnx, hea, heb⟩ := ok
  refine rn_swIn (k := 13) (t := 383) rfl hop (by decide) rfl rfl ?_
  refine rn_aload_n (pc' := 384) rfl rfl rfl ?_
  refine rn_iload_n (pc' := 385) rfl rfl rfl ?_
  refine rn_iload_n (pc' := 386) rfl rfl rfl ?_
  refine rn_iload (pc' := 388) rfl rfl rfl ?_
  refine rn_iload (pc' := 390) rfl rfl rfl ?_
  refine rn_callV (pc' := 393) (as := [_, _, _, _]) rfl rfl rfl ⟨Nat.le_of_ble_eq_true rfl, rfl, rfl⟩ rfl (by first | assumption | decide | omega) (Nat.le_of_ble_eq_true rfl) (Nat.le_of_ble_eq_true rfl) rfl hc (fun r1 M1 hz => ?_)
  obtain ⟨rfl, hm_⟩ := hz
  refine rn_mem hm_ ?_
  clear hm_
  refine rn_goto (pc' := 422) rfl rfl ?_
  refine rn_return rfl rfl ?_
  exact ⟨rfl, rfl⟩
theorem r_act14 {d e p i ja jb : Nat} (M F : xM) (ok : aOk M e p i ja jb) (hop : (M.1 22 0 (60 * p + i)).toInt = 14) (hc : Rn d 97 (0, xen 97 [vR 20 0, vI (nI e), vI (nI (8 * e + ja)), vI (nI (8 * e + jb))], [], nAct M e) (fun r M' => r = none ∧ M' = F)) : Rn (d + 1) 91 (0, xen 91 [vR 20 0, vI (nI e)], [], M) (fun r M' => r = none ∧ M' = F) := by
  refine r_actPre M _ ok ?_
  obtain ⟨he, hp, hi, ha, hb, hpr, hnx, hea, heb⟩ := ok
  refine rn_swIn (k := 14) (t := 396) rfl hop (by decide) rfl rfl ?_
  refine rn_aload_n (pc' := 397) rfl rfl rfl ?_
  refine rn_iload_n (pc' := 398) rfl rfl rfl ?_
  refine rn_iload (pc' := 400) rfl rfl rfl ?_
  refine rn_iload (pc' := 402) rfl rfl rfl ?_
  refine rn_callV (pc' := 405) (as := [_, _, _]) rfl rfl rfl ⟨Nat.le_of_ble_eq_true rfl, rfl, rfl⟩ rfl (by first | assumption | decide | omega) (Nat.le_of_ble_eq_true rfl) (Nat.le_of_ble_eq_true rfl) rfl hc (fun r1 M1 hz => ?_)
  obtain ⟨rfl, hm_⟩ := hz
  refine rn_mem hm_ ?_
  clear hm_
  refine rn_goto (pc' := 422) rfl rfl ?_
  refine rn_return rfl rfl ?_
  exact ⟨rfl, rfl⟩
theorem r_actM {d e p i ja jb : Nat} (M F : xM) (ok : aOk M e p i ja jb) (hop : (M.1 22 0 (60 * p + i)).toInt < 0 ∨ 14 < (M.1 22 0 (60 * p + i)).toInt) (hc : Rn d 92 (0, xen 92 [vR 20 0, vI (nI e), vI (M.1 22 0 (60 * p + i)), vI (M.1 23 0 (60 * p + i)), vI (M.1 24 0 (60 * p + i)), vI (nI (8 * e + ja)), vI (nI (8 * e + jb))], [], nAct M e) (fun r M' => r = none ∧ M' = F)) : Rn (d + 1) 91 (0, xen 91 [vR 20 0, vI (nI e)], [], M) (fun r M' => r = none ∧ M' = F) := by
  refine r_actPre M _ ok ?_
  obtain ⟨he, hp, hi, ha, hb, hpr, hnx, hea, heb⟩ := ok
  refine rn_swOut (t := 408) rfl hop rfl ?_
  refine rn_aload_n (pc' := 409) rfl rfl rfl ?_
  refine rn_iload_n (pc' := 410) rfl rfl rfl ?_
  refine rn_iload_n (pc' := 411) rfl rfl rfl ?_
  refine rn_iload (pc' := 413) rfl rfl rfl ?_
  refine rn_iload (pc' := 415) rfl rfl rfl ?_
  refine rn_iload (pc' := 417) rfl rfl rfl ?_
  refine rn_iload (pc' := 419) rfl rfl rfl ?_
  refine rn_callV (pc' := 422) (as := [_, _, _, _, _, _]) rfl rfl rfl ⟨Nat.le_of_ble_eq_true rfl, rfl, rfl⟩ rfl (by first | assumption | decide | omega) (Nat.le_of_ble_eq_true rfl) (Nat.le_of_ble_eq_true rfl) rfl hc (fun r1 M1 hz => ?_)
  obtain ⟨rfl, hm_⟩ := hz
  refine rn_mem hm_ ?_
  clear hm_
  refine rn_return rfl rfl ?_
  exact ⟨rfl, rfl⟩
end
section
/-! THE REFERENCE: what is told, act, wipe, boot -/
theorem i64_in (p : Int32) (lo hi : Int64) : (lo ≤ p.toInt64 ∧ p.toInt64 ≤ hi) ↔ (lo.toInt ≤ p.toInt ∧ p.toInt ≤ hi.toInt) := by
  rw [Int64.le_iff_toInt_le, Int64.le_iff_toInt_le, Int32.toInt_toInt64]
theorem nI_ofInt {p : Int32} (h : 0 ≤ p.toInt) : ∃ k : Nat, k < 2 ^ 31 ∧ p = nI k ∧ p.toInt = k := by
  obtain ⟨k, hk, rfl⟩ := nI_of (x := p) (fun q => by
    have := Int32.lt_iff_toInt_lt.mp q
    rw [show (0 : Int32).toInt = 0 from rfl] at this
    omega)
  exact ⟨k, hk, rfl, nI_toInt hk⟩
/-- a number out of its bounds, or a number k within -/
theorem in_cases (p : Int32) (lo hi : Int64) (l h : Nat) (hl : lo.toInt = l) (hh : hi.toInt = h) : ¬ (lo ≤ p.toInt64 ∧ p.toInt64 ≤ hi) ∧ (p.toInt < l ∨ (h : Int) < p.toInt) ∨ ∃ k : Nat, l ≤ k ∧ k ≤ h ∧ p = nI k ∧ k < 2 ^ 31 ∧ (lo ≤ p.toInt64 ∧ p.toInt64 ≤ hi) := by
  by_cases hc : lo ≤ p.toInt64 ∧ p.toInt64 ≤ hi
  · right
    have hc2 := (i64_in p lo hi).mp hc
    rw [hl, hh] at hc2
    obtain ⟨k, h1, h2, h3⟩ := nI_ofInt (p := p) (by omega)
    exact ⟨k, by omega, by omega, h2, h1, hc⟩
  · left
    refine ⟨hc, ?_⟩
    rw [i64_in, hl, hh] at hc
    omega
/-! act, wipe -/
theorem r_actU {d : Nat} (M : xM) (p op a b : Int32) (hp : ¬ isPr p) : Rn (d + 1) 70 (0, xen 70 [vR 20 0, vI p, vI op, vI a, vI b], [], M) (fun r M' => r = some (vI (-1001)) ∧ M' = M) := by
  show Rn _ 70 (0, [some (vR 20 0), some (vI p), some (vI op), some (vI a), some (vI b), none], [], _) _
  refine rn_iload_n (pc' := 1) rfl rfl rfl ?_
  refine rn_i2l (pc' := 2) rfl rfl ?_
  refine rn_lconst (pc' := 3) (v := 0) rfl rfl rfl ?_
  refine rn_ldc2_w (pc' := 6) (v := 15) rfl rfl rfl ?_
  refine rn_callS (pc' := 9) (as := [_, _, _]) rfl rfl rfl ⟨rfl, rfl, rfl⟩ (Nat.le_of_ble_eq_true rfl) (Nat.le_of_ble_eq_true rfl) rfl (r_in M _ 0 15) (fun r1 M1 hz => ?_)
  obtain ⟨rfl, hm_⟩ := hz
  refine rn_mem hm_ ?_
  clear hm_
  refine rn_if_ne (t := 16) (pc' := 12) rfl rfl rfl (fun h2 => ?_) (fun h2 => ?_)
  · exact absurd (ite01.mpr hp) h2
  · refine rn_sipush (pc' := 15) (v := (-1001)) rfl rfl (by decide) ?_
    refine rn_ireturn rfl rfl ?_
    exact ⟨rfl, rfl⟩
theorem r_actF {d k : Nat} (M : xM) (op a b : Int32) (hp : isPr (nI k)) (hk : k < 16) (h60 : M.1 21 0 k = 60) : Rn (d + 1) 70 (0, xen 70 [vR 20 0, vI (nI k), vI op, vI a, vI b], [], M) (fun r M' => r = some (vI (-1004)) ∧ M' = M) := by
  show Rn _ 70 (0, [some (vR 20 0), some (vI (nI k)), some (vI op), some (vI a), some (vI b), none], [], _) _
  refine rn_iload_n (pc' := 1) rfl rfl rfl ?_
  refine rn_i2l (pc' := 2) rfl rfl ?_
  refine rn_lconst (pc' := 3) (v := 0) rfl rfl rfl ?_
  refine rn_ldc2_w (pc' := 6) (v := 15) rfl rfl rfl ?_
  refine rn_callS (pc' := 9) (as := [_, _, _]) rfl rfl rfl ⟨rfl, rfl, rfl⟩ (Nat.le_of_ble_eq_true rfl) (Nat.le_of_ble_eq_true rfl) rfl (r_in M _ 0 15) (fun r1 M1 hz => ?_)
  obtain ⟨rfl, hm_⟩ := hz
  refine rn_mem hm_ ?_
  clear hm_
  refine rn_if_ne (t := 16) (pc' := 12) rfl rfl rfl (fun h2 => ?_) (fun h2 => ?_)
  · refine rn_aload_n (pc' := 17) rfl rfl rfl ?_
    refine rn_getF (N := 1) (t' := 21) (pc' := 20) rfl rfl rfl rfl rfl (by first | assumption | decide | omega) ?_
    refine rn_iload_n (pc' := 21) rfl rfl rfl ?_
    refine rn_iald (N := 1) (K := 16) (pc' := 22) rfl rfl ⟨rfl, rfl⟩ rfl (by first | assumption | decide | omega) rfl (by decide) rfl (by first | assumption | decide | omega) ?_
    refine rn_bipush (pc' := 24) (v := 60) rfl rfl (by decide) ?_
    refine rn_ic_ne (t := 31) (pc' := 27) rfl rfl rfl (fun h3 => ?_) (fun h3 => ?_)
    · exact absurd h60 h3
    · refine rn_sipush (pc' := 30) (v := (-1004)) rfl rfl (by decide) ?_
      refine rn_ireturn rfl rfl ?_
      exact ⟨rfl, rfl⟩
  · exact absurd hp (ite01.mp h2)
def f_act (M : xM) (k n : Nat) (op a b : Int32) : xM :=
  let A := mI M 22 0 (60 * k + n) op
  let B := mI A 23 0 (60 * k + n) a
  let C := mI B 24 0 (60 * k + n) b
  mI C 21 0 k (C.1 21 0 k + 1)
theorem r_actY {d k n : Nat} (M : xM) (op a b : Int32) (hp : isPr (nI k)) (hk : k < 16) (hn : M.1 21 0 k = nI n) (h60 : n < 60) : Rn (d + 1) 70 (0, xen 70 [vR 20 0, vI (nI k), vI op, vI a, vI b], [], M) (fun r M' => r = some (vI (nI (n + 1))) ∧ M' = f_act M k n op a b) := by
  have e1 : (mI (mI (mI M 22 0 (60 * k + n) op) 23 0 (60 * k + n) a) 24 0 (60 * k + n) b).1 21 0 k + 1 = nI (n + 1) := by
    show M.1 21 0 k + 1 = _
    rw [hn]; exact nI_1 n
  have e2 : (f_act M k n op a b).1 21 0 k = nI (n + 1) := by
    unfold f_act
    show (if 21 = 21 ∧ 0 = 0 ∧ k = k then _ else _) = _
    rw [if_pos ⟨rfl, rfl, rfl⟩]; exact e1
  show Rn _ 70 (0, [some (vR 20 0), some (vI (nI k)), some (vI op), some (vI a), some (vI b), none], [], _) _
  refine rn_iload_n (pc' := 1) rfl rfl rfl ?_
  refine rn_i2l (pc' := 2) rfl rfl ?_
  refine rn_lconst (pc' := 3) (v := 0) rfl rfl rfl ?_
  refine rn_ldc2_w (pc' := 6) (v := 15) rfl rfl rfl ?_
  refine rn_callS (pc' := 9) (as := [_, _, _]) rfl rfl rfl ⟨rfl, rfl, rfl⟩ (Nat.le_of_ble_eq_true rfl) (Nat.le_of_ble_eq_true rfl) rfl (r_in M _ 0 15) (fun r1 M1 hz => ?_)
  obtain ⟨rfl, hm_⟩ := hz
  refine rn_mem hm_ ?_
  clear hm_
  refine rn_if_ne (t := 16) (pc' := 12) rfl rfl rfl (fun h2 => ?_) (fun h2 => ?_)
  · refine rn_aload_n (pc' := 17) rfl rfl rfl ?_
    refine rn_getF (N := 1) (t' := 21) (pc' := 20) rfl rfl rfl rfl rfl (by first | assumption | decide | omega) ?_
    refine rn_iload_n (pc' := 21) rfl rfl rfl ?_
    refine rn_iald (N := 1) (K := 16) (pc' := 22) rfl rfl ⟨rfl, rfl⟩ rfl (by first | assumption | decide | omega) rfl (by decide) rfl (by first | assumption | decide | omega) ?_
    refine rn_bipush (pc' := 24) (v := 60) rfl rfl (by decide) ?_
    refine rn_ic_ne (t := 31) (pc' := 27) rfl rfl rfl (fun h3 => ?_) (fun h3 => ?_)
    · refine rn_bipush (pc' := 33) (v := 60) rfl rfl (by decide) ?_
      refine rn_iload_n (pc' := 34) rfl rfl rfl ?_
      refine rn_imul (pc' := 35) rfl rfl ?_
      refine rn_aload_n (pc' := 36) rfl rfl rfl ?_
      refine rn_getF (N := 1) (t' := 21) (pc' := 39) rfl rfl rfl rfl rfl (by first | assumption | decide | omega) ?_
      refine rn_iload_n (pc' := 40) rfl rfl rfl ?_
      refine rn_iald (N := 1) (K := 16) (pc' := 41) rfl rfl ⟨rfl, rfl⟩ rfl (by first | assumption | decide | omega) rfl (by decide) rfl (by first | assumption | decide | omega) ?_
      refine rn_topI (y := nI n) hn ?_
      refine rn_iadd (pc' := 42) rfl rfl ?_
      refine rn_topI (ix60 k n) ?_
      refine rn_istore (pc' := 44) rfl rfl rfl (Nat.le_of_ble_eq_true rfl) rfl ?_
      refine rn_aload_n (pc' := 45) rfl rfl rfl ?_
      refine rn_getF (N := 1) (t' := 22) (pc' := 48) rfl rfl rfl rfl rfl (by first | assumption | decide | omega) ?_
      refine rn_iload (pc' := 50) rfl rfl rfl ?_
      refine rn_iload_n (pc' := 51) rfl rfl rfl ?_
      refine rn_iast (k := 60 * k + n) (N := 1) (K := 960) (pc' := 52) rfl rfl ⟨rfl, rfl⟩ rfl (by first | assumption | decide | omega) rfl (by decide) (rfl) (by first | assumption | decide | omega) ?_
      refine rn_aload_n (pc' := 53) rfl rfl rfl ?_
      refine rn_getF (N := 1) (t' := 23) (pc' := 56) rfl rfl rfl rfl rfl (by first | assumption | decide | omega) ?_
      refine rn_iload (pc' := 58) rfl rfl rfl ?_
      refine rn_iload_n (pc' := 59) rfl rfl rfl ?_
      refine rn_iast (k := 60 * k + n) (N := 1) (K := 960) (pc' := 60) rfl rfl ⟨rfl, rfl⟩ rfl (by first | assumption | decide | omega) rfl (by decide) (rfl) (by first | assumption | decide | omega) ?_
      refine rn_aload_n (pc' := 61) rfl rfl rfl ?_
      refine rn_getF (N := 1) (t' := 24) (pc' := 64) rfl rfl rfl rfl rfl (by first | assumption | decide | omega) ?_
      refine rn_iload (pc' := 66) rfl rfl rfl ?_
      refine rn_iload (pc' := 68) rfl rfl rfl ?_
      refine rn_iast (k := 60 * k + n) (N := 1) (K := 960) (pc' := 69) rfl rfl ⟨rfl, rfl⟩ rfl (by first | assumption | decide | omega) rfl (by decide) (rfl) (by first | assumption | decide | omega) ?_
      refine rn_aload_n (pc' := 70) rfl rfl rfl ?_
      refine rn_getF (N := 1) (t' := 21) (pc' := 73) rfl rfl rfl rfl rfl (by first | assumption | decide | omega) ?_
      refine rn_iload_n (pc' := 74) rfl rfl rfl ?_
      refine rn_dup2 (pc' := 75) rfl rfl ?_
      refine rn_iald (N := 1) (K := 16) (pc' := 76) rfl rfl ⟨rfl, rfl⟩ rfl (by first | assumption | decide | omega) rfl (by decide) rfl (by first | assumption | decide | omega) ?_
      refine rn_iconst (pc' := 77) (v := 1) rfl rfl (by decide) ?_
      refine rn_iadd (pc' := 78) rfl rfl ?_
      refine rn_iast (N := 1) (K := 16) (pc' := 79) rfl rfl ⟨rfl, rfl⟩ rfl (by first | assumption | decide | omega) rfl (by decide) rfl (by first | assumption | decide | omega) ?_
      refine rn_aload_n (pc' := 80) rfl rfl rfl ?_
      refine rn_getF (N := 1) (t' := 21) (pc' := 83) rfl rfl rfl rfl rfl (by first | assumption | decide | omega) ?_
      refine rn_iload_n (pc' := 84) rfl rfl rfl ?_
      refine rn_iald (N := 1) (K := 16) (pc' := 85) rfl rfl ⟨rfl, rfl⟩ rfl (by first | assumption | decide | omega) rfl (by decide) rfl (by first | assumption | decide | omega) ?_
      refine rn_ireturn rfl rfl ?_
      exact ⟨congrArg (fun x => some (vI x)) e2, rfl⟩
    · exact absurd (show nI n = 60 from hn ▸ h3) (fun q => absurd ((nI_eq (a := n) (b := 60) (by omega) (by decide)).mp q) (by omega))
  · exact absurd hp (ite01.mp h2)
theorem r_wipeU {d : Nat} (M : xM) (p : Int32) (hp : ¬ isPr p) : Rn (d + 1) 71 (0, xen 71 [vR 20 0, vI p], [], M) (fun r M' => r = some (vI (-1001)) ∧ M' = M) := by
  show Rn _ 71 (0, [some (vR 20 0), some (vI p), none], [], _) _
  refine rn_iload_n (pc' := 1) rfl rfl rfl ?_
  refine rn_i2l (pc' := 2) rfl rfl ?_
  refine rn_lconst (pc' := 3) (v := 0) rfl rfl rfl ?_
  refine rn_ldc2_w (pc' := 6) (v := 15) rfl rfl rfl ?_
  refine rn_callS (pc' := 9) (as := [_, _, _]) rfl rfl rfl ⟨rfl, rfl, rfl⟩ (Nat.le_of_ble_eq_true rfl) (Nat.le_of_ble_eq_true rfl) rfl (r_in M _ 0 15) (fun r1 M1 hz => ?_)
  obtain ⟨rfl, hm_⟩ := hz
  refine rn_mem hm_ ?_
  clear hm_
  refine rn_if_ne (t := 16) (pc' := 12) rfl rfl rfl (fun h2 => ?_) (fun h2 => ?_)
  · exact absurd (ite01.mpr hp) h2
  · refine rn_sipush (pc' := 15) (v := (-1001)) rfl rfl (by decide) ?_
    refine rn_ireturn rfl rfl ?_
    exact ⟨rfl, rfl⟩
theorem r_wipeY {d k : Nat} (M : xM) (hp : isPr (nI k)) (hk : k < 16) : Rn (d + 1) 71 (0, xen 71 [vR 20 0, vI (nI k)], [], M) (fun r M' => r = some (vI (M.1 21 0 k)) ∧ M' = mI M 21 0 k 0) := by
  show Rn _ 71 (0, [some (vR 20 0), some (vI (nI k)), none], [], _) _
  refine rn_iload_n (pc' := 1) rfl rfl rfl ?_
  refine rn_i2l (pc' := 2) rfl rfl ?_
  refine rn_lconst (pc' := 3) (v := 0) rfl rfl rfl ?_
  refine rn_ldc2_w (pc' := 6) (v := 15) rfl rfl rfl ?_
  refine rn_callS (pc' := 9) (as := [_, _, _]) rfl rfl rfl ⟨rfl, rfl, rfl⟩ (Nat.le_of_ble_eq_true rfl) (Nat.le_of_ble_eq_true rfl) rfl (r_in M _ 0 15) (fun r1 M1 hz => ?_)
  obtain ⟨rfl, hm_⟩ := hz
  refine rn_mem hm_ ?_
  clear hm_
  refine rn_if_ne (t := 16) (pc' := 12) rfl rfl rfl (fun h2 => ?_) (fun h2 => ?_)
  · refine rn_aload_n (pc' := 17) rfl rfl rfl ?_
    refine rn_getF (N := 1) (t' := 21) (pc' := 20) rfl rfl rfl rfl rfl (by first | assumption | decide | omega) ?_
    refine rn_iload_n (pc' := 21) rfl rfl rfl ?_
    refine rn_iald (N := 1) (K := 16) (pc' := 22) rfl rfl ⟨rfl, rfl⟩ rfl (by first | assumption | decide | omega) rfl (by decide) rfl (by first | assumption | decide | omega) ?_
    refine rn_istore_n (pc' := 23) rfl rfl rfl (Nat.le_of_ble_eq_true rfl) rfl ?_
    refine rn_aload_n (pc' := 24) rfl rfl rfl ?_
    refine rn_getF (N := 1) (t' := 21) (pc' := 27) rfl rfl rfl rfl rfl (by first | assumption | decide | omega) ?_
    refine rn_iload_n (pc' := 28) rfl rfl rfl ?_
    refine rn_iconst (pc' := 29) (v := 0) rfl rfl (by decide) ?_
    refine rn_iast (N := 1) (K := 16) (pc' := 30) rfl rfl ⟨rfl, rfl⟩ rfl (by first | assumption | decide | omega) rfl (by decide) rfl (by first | assumption | decide | omega) ?_
    refine rn_iload_n (pc' := 31) rfl rfl rfl ?_
    refine rn_ireturn rfl rfl ?_
    exact ⟨rfl, rfl⟩
  · exact absurd hp (ite01.mp h2)
/-! what is told -/
theorem r_entryU {d : Nat} (M : xM) (p : Int32) (hp : ¬ (0 ≤ p.toInt64 ∧ p.toInt64 ≤ 23)) : Rn (d + 1) 100 (0, xen 100 [vR 20 0, vI p], [], M) (fun r M' => r = some (vI (-1001)) ∧ M' = M) := by
  show Rn _ 100 (0, [some (vR 20 0), some (vI p)], [], _) _
  refine rn_iload_n (pc' := 1) rfl rfl rfl ?_
  refine rn_i2l (pc' := 2) rfl rfl ?_
  refine rn_lconst (pc' := 3) (v := 0) rfl rfl rfl ?_
  refine rn_ldc2_w (pc' := 6) (v := 23) rfl rfl rfl ?_
  refine rn_callS (pc' := 9) (as := [_, _, _]) rfl rfl rfl ⟨rfl, rfl, rfl⟩ (Nat.le_of_ble_eq_true rfl) (Nat.le_of_ble_eq_true rfl) rfl (r_in M _ 0 23) (fun r1 M1 hz => ?_)
  obtain ⟨rfl, hm_⟩ := hz
  refine rn_mem hm_ ?_
  clear hm_
  refine rn_if_eq (t := 21) (pc' := 12) rfl rfl rfl (fun h2 => ?_) (fun h2 => ?_)
  · refine rn_sipush (pc' := 24) (v := (-1001)) rfl rfl (by decide) ?_
    refine rn_ireturn rfl rfl ?_
    exact ⟨rfl, rfl⟩
  · exact absurd (ite01.mpr hp) h2
theorem r_entryY {d k : Nat} (M : xM) (hp : 0 ≤ (nI k).toInt64 ∧ (nI k).toInt64 ≤ 23) (hk : k < 24) : Rn (d + 1) 100 (0, xen 100 [vR 20 0, vI (nI k)], [], M) (fun r M' => r = some (vI (rpid M k)) ∧ M' = M) := by
  show Rn _ 100 (0, [some (vR 20 0), some (vI (nI k))], [], _) _
  refine rn_iload_n (pc' := 1) rfl rfl rfl ?_
  refine rn_i2l (pc' := 2) rfl rfl ?_
  refine rn_lconst (pc' := 3) (v := 0) rfl rfl rfl ?_
  refine rn_ldc2_w (pc' := 6) (v := 23) rfl rfl rfl ?_
  refine rn_callS (pc' := 9) (as := [_, _, _]) rfl rfl rfl ⟨rfl, rfl, rfl⟩ (Nat.le_of_ble_eq_true rfl) (Nat.le_of_ble_eq_true rfl) rfl (r_in M _ 0 23) (fun r1 M1 hz => ?_)
  obtain ⟨rfl, hm_⟩ := hz
  refine rn_mem hm_ ?_
  clear hm_
  refine rn_if_eq (t := 21) (pc' := 12) rfl rfl rfl (fun h2 => ?_) (fun h2 => ?_)
  · exact absurd hp (ite01.mp h2)
  · refine rn_aload_n (pc' := 13) rfl rfl rfl ?_
    refine rn_getF (N := 1) (t' := 25) (pc' := 16) rfl rfl rfl rfl rfl (by first | assumption | decide | omega) ?_
    refine rn_iload_n (pc' := 17) rfl rfl rfl ?_
    refine rn_iald (N := 1) (K := 24) (pc' := 18) rfl rfl ⟨rfl, rfl⟩ rfl (by first | assumption | decide | omega) rfl (by decide) rfl (by first | assumption | decide | omega) ?_
    refine rn_goto (pc' := 24) rfl rfl ?_
    refine rn_ireturn rfl rfl ?_
    exact ⟨rfl, rfl⟩
theorem oI_some {o : Option Nat} {e : Nat} (h : o = some e) : oI o = nI e := by rw [h]; rfl
theorem r_toldU {d : Nat} (M : xM) (p w : Int32) (h : eo M p = none) : Rn (d + 1) 101 (0, xen 101 [vR 20 0, vI p, vI w], [], M) (fun r M' => r = some (vI (-1001)) ∧ M' = M) := by
  have ho := oI_neg (o := eo M p) (fun e h => eo_lt h)
  show Rn _ 101 (0, [some (vR 20 0), some (vI p), some (vI w), none], [], _) _
  refine rn_aload_n (pc' := 1) rfl rfl rfl ?_
  refine rn_iload_n (pc' := 2) rfl rfl rfl ?_
  refine rn_callV (pc' := 5) (as := [_]) rfl rfl rfl ⟨Nat.le_of_ble_eq_true rfl, rfl, rfl⟩ rfl (by first | assumption | decide | omega) (Nat.le_of_ble_eq_true rfl) (Nat.le_of_ble_eq_true rfl) rfl (r_entryOf M p) (fun r1 M1 hz => ?_)
  obtain ⟨rfl, hm_⟩ := hz
  refine rn_mem hm_ ?_
  clear hm_
  refine rn_istore_n (pc' := 6) rfl rfl rfl (Nat.le_of_ble_eq_true rfl) rfl ?_
  refine rn_iload_n (pc' := 7) rfl rfl rfl ?_
  refine rn_if_ge (t := 14) (pc' := 10) rfl rfl rfl (fun h2 => ?_) (fun h2 => ?_)
  · exact absurd (ho.mpr h) h2
  · refine rn_sipush (pc' := 13) (v := (-1001)) rfl rfl (by decide) ?_
    refine rn_ireturn rfl rfl ?_
    exact ⟨rfl, rfl⟩
/-- what told says of an entry -/
def tdV (M : xM) (e : Nat) (w : Int32) : Int32 := if w.toInt = 0 then rste M e else if w.toInt = 1 then rpar M e else if w.toInt = 2 then rgrp M e else if w.toInt = 3 then rprg M e else if w.toInt = 4 then rnxt M e else if w.toInt = 5 then rpnd M e else if w.toInt = 6 then rblk M e else if w.toInt = 7 then rhnd M e else if w.toInt = 8 then until_ M e else if w.toInt = 9 then (if rste M e = 4 then M.1 39 0 e else 0) else -1002
theorem r_told {d e : Nat} (M : xM) (p w : Int32) (h : eo M p = some e) : Rn (d + 1) 101 (0, xen 101 [vR 20 0, vI p, vI w], [], M) (fun r M' => r = some (vI (tdV M e w)) ∧ M' = M) := by
  have he := eo_lt h
  have hp := nI_pos (n := e) (by omega)
  show Rn _ 101 (0, [some (vR 20 0), some (vI p), some (vI w), none], [], _) _
  refine rn_aload_n (pc' := 1) rfl rfl rfl ?_
  refine rn_iload_n (pc' := 2) rfl rfl rfl ?_
  refine rn_callV (pc' := 5) (as := [_]) rfl rfl rfl ⟨Nat.le_of_ble_eq_true rfl, rfl, rfl⟩ rfl (by first | assumption | decide | omega) (Nat.le_of_ble_eq_true rfl) (Nat.le_of_ble_eq_true rfl) rfl (r_entryOf M p) (fun r1 M1 hz => ?_)
  obtain ⟨rfl, hm_⟩ := hz
  refine rn_mem hm_ ?_
  clear hm_
  refine rn_topI (oI_some h) ?_
  refine rn_istore_n (pc' := 6) rfl rfl rfl (Nat.le_of_ble_eq_true rfl) rfl ?_
  refine rn_iload_n (pc' := 7) rfl rfl rfl ?_
  refine rn_if_ge (t := 14) (pc' := 10) rfl rfl rfl (fun h2 => ?_) (fun h2 => ?_)
  · refine rn_iload_n (pc' := 15) rfl rfl rfl ?_
    rcases x_sw w (0) 10 with hw | ⟨k_, hk_, hw⟩
    · refine rn_swOut (t := 174) rfl (by omega) rfl ?_
      refine rn_sipush (pc' := 177) (v := (-1002)) rfl rfl (by decide) ?_
      refine rn_ireturn rfl rfl ?_
      refine ⟨?_, rfl⟩
      try simp only [lg_gt] at *
      first | (simp [tdV, until_, ralm, hw, *]; done) | (unfold tdV; simp only [hw]; simp [until_, ralm, *]; done) | (unfold tdV; rw [if_neg (by omega), if_neg (by omega), if_neg (by omega), if_neg (by omega), if_neg (by omega), if_neg (by omega), if_neg (by omega), if_neg (by omega), if_neg (by omega), if_neg (by omega)])
    · rcases (show k_ = 0 ∨ k_ = 1 ∨ k_ = 2 ∨ k_ = 3 ∨ k_ = 4 ∨ k_ = 5 ∨ k_ = 6 ∨ k_ = 7 ∨ k_ = 8 ∨ k_ = 9 by omega) with rfl | rfl | rfl | rfl | rfl | rfl | rfl | rfl | rfl | rfl
      · refine rn_swIn (k := 0) (t := 68) rfl hw (by decide) rfl rfl ?_
        refine rn_aload_n (pc' := 69) rfl rfl rfl ?_
        refine rn_getF (N := 1) (t' := 28) (pc' := 72) rfl rfl rfl rfl rfl (by first | assumption | decide | omega) ?_
        refine rn_iload_n (pc' := 73) rfl rfl rfl ?_
        refine rn_iald (N := 1) (K := 24) (pc' := 74) rfl rfl ⟨rfl, rfl⟩ rfl (by first | assumption | decide | omega) rfl (by decide) rfl (by first | assumption | decide | omega) ?_
        refine rn_ireturn rfl rfl ?_
        refine ⟨?_, rfl⟩
        try simp only [lg_gt] at *
        first | (simp [tdV, until_, ralm, hw, *]; done) | (unfold tdV; simp only [hw]; simp [until_, ralm, *]; done) | (unfold tdV; rw [if_neg (by omega), if_neg (by omega), if_neg (by omega), if_neg (by omega), if_neg (by omega), if_neg (by omega), if_neg (by omega), if_neg (by omega), if_neg (by omega), if_neg (by omega)])
      · refine rn_swIn (k := 1) (t := 75) rfl hw (by decide) rfl rfl ?_
        refine rn_aload_n (pc' := 76) rfl rfl rfl ?_
        refine rn_getF (N := 1) (t' := 26) (pc' := 79) rfl rfl rfl rfl rfl (by first | assumption | decide | omega) ?_
        refine rn_iload_n (pc' := 80) rfl rfl rfl ?_
        refine rn_iald (N := 1) (K := 24) (pc' := 81) rfl rfl ⟨rfl, rfl⟩ rfl (by first | assumption | decide | omega) rfl (by decide) rfl (by first | assumption | decide | omega) ?_
        refine rn_ireturn rfl rfl ?_
        refine ⟨?_, rfl⟩
        try simp only [lg_gt] at *
        first | (simp [tdV, until_, ralm, hw, *]; done) | (unfold tdV; simp only [hw]; simp [until_, ralm, *]; done) | (unfold tdV; rw [if_neg (by omega), if_neg (by omega), if_neg (by omega), if_neg (by omega), if_neg (by omega), if_neg (by omega), if_neg (by omega), if_neg (by omega), if_neg (by omega), if_neg (by omega)])
      · refine rn_swIn (k := 2) (t := 82) rfl hw (by decide) rfl rfl ?_
        refine rn_aload_n (pc' := 83) rfl rfl rfl ?_
        refine rn_getF (N := 1) (t' := 27) (pc' := 86) rfl rfl rfl rfl rfl (by first | assumption | decide | omega) ?_
        refine rn_iload_n (pc' := 87) rfl rfl rfl ?_
        refine rn_iald (N := 1) (K := 24) (pc' := 88) rfl rfl ⟨rfl, rfl⟩ rfl (by first | assumption | decide | omega) rfl (by decide) rfl (by first | assumption | decide | omega) ?_
        refine rn_ireturn rfl rfl ?_
        refine ⟨?_, rfl⟩
        try simp only [lg_gt] at *
        first | (simp [tdV, until_, ralm, hw, *]; done) | (unfold tdV; simp only [hw]; simp [until_, ralm, *]; done) | (unfold tdV; rw [if_neg (by omega), if_neg (by omega), if_neg (by omega), if_neg (by omega), if_neg (by omega), if_neg (by omega), if_neg (by omega), if_neg (by omega), if_neg (by omega), if_neg (by omega)])
      · refine rn_swIn (k := 3) (t := 89) rfl hw (by decide) rfl rfl ?_
        refine rn_aload_n (pc' := 90) rfl rfl rfl ?_
        refine rn_getF (N := 1) (t' := 29) (pc' := 93) rfl rfl rfl rfl rfl (by first | assumption | decide | omega) ?_
        refine rn_iload_n (pc' := 94) rfl rfl rfl ?_
        refine rn_iald (N := 1) (K := 24) (pc' := 95) rfl rfl ⟨rfl, rfl⟩ rfl (by first | assumption | decide | omega) rfl (by decide) rfl (by first | assumption | decide | omega) ?_
        refine rn_ireturn rfl rfl ?_
        refine ⟨?_, rfl⟩
        try simp only [lg_gt] at *
        first | (simp [tdV, until_, ralm, hw, *]; done) | (unfold tdV; simp only [hw]; simp [until_, ralm, *]; done) | (unfold tdV; rw [if_neg (by omega), if_neg (by omega), if_neg (by omega), if_neg (by omega), if_neg (by omega), if_neg (by omega), if_neg (by omega), if_neg (by omega), if_neg (by omega), if_neg (by omega)])
      · refine rn_swIn (k := 4) (t := 96) rfl hw (by decide) rfl rfl ?_
        refine rn_aload_n (pc' := 97) rfl rfl rfl ?_
        refine rn_getF (N := 1) (t' := 30) (pc' := 100) rfl rfl rfl rfl rfl (by first | assumption | decide | omega) ?_
        refine rn_iload_n (pc' := 101) rfl rfl rfl ?_
        refine rn_iald (N := 1) (K := 24) (pc' := 102) rfl rfl ⟨rfl, rfl⟩ rfl (by first | assumption | decide | omega) rfl (by decide) rfl (by first | assumption | decide | omega) ?_
        refine rn_ireturn rfl rfl ?_
        refine ⟨?_, rfl⟩
        try simp only [lg_gt] at *
        first | (simp [tdV, until_, ralm, hw, *]; done) | (unfold tdV; simp only [hw]; simp [until_, ralm, *]; done) | (unfold tdV; rw [if_neg (by omega), if_neg (by omega), if_neg (by omega), if_neg (by omega), if_neg (by omega), if_neg (by omega), if_neg (by omega), if_neg (by omega), if_neg (by omega), if_neg (by omega)])
      · refine rn_swIn (k := 5) (t := 103) rfl hw (by decide) rfl rfl ?_
        refine rn_aload_n (pc' := 104) rfl rfl rfl ?_
        refine rn_getF (N := 1) (t' := 33) (pc' := 107) rfl rfl rfl rfl rfl (by first | assumption | decide | omega) ?_
        refine rn_iload_n (pc' := 108) rfl rfl rfl ?_
        refine rn_iald (N := 1) (K := 24) (pc' := 109) rfl rfl ⟨rfl, rfl⟩ rfl (by first | assumption | decide | omega) rfl (by decide) rfl (by first | assumption | decide | omega) ?_
        refine rn_ireturn rfl rfl ?_
        refine ⟨?_, rfl⟩
        try simp only [lg_gt] at *
        first | (simp [tdV, until_, ralm, hw, *]; done) | (unfold tdV; simp only [hw]; simp [until_, ralm, *]; done) | (unfold tdV; rw [if_neg (by omega), if_neg (by omega), if_neg (by omega), if_neg (by omega), if_neg (by omega), if_neg (by omega), if_neg (by omega), if_neg (by omega), if_neg (by omega), if_neg (by omega)])
      · refine rn_swIn (k := 6) (t := 110) rfl hw (by decide) rfl rfl ?_
        refine rn_aload_n (pc' := 111) rfl rfl rfl ?_
        refine rn_getF (N := 1) (t' := 34) (pc' := 114) rfl rfl rfl rfl rfl (by first | assumption | decide | omega) ?_
        refine rn_iload_n (pc' := 115) rfl rfl rfl ?_
        refine rn_iald (N := 1) (K := 24) (pc' := 116) rfl rfl ⟨rfl, rfl⟩ rfl (by first | assumption | decide | omega) rfl (by decide) rfl (by first | assumption | decide | omega) ?_
        refine rn_ireturn rfl rfl ?_
        refine ⟨?_, rfl⟩
        try simp only [lg_gt] at *
        first | (simp [tdV, until_, ralm, hw, *]; done) | (unfold tdV; simp only [hw]; simp [until_, ralm, *]; done) | (unfold tdV; rw [if_neg (by omega), if_neg (by omega), if_neg (by omega), if_neg (by omega), if_neg (by omega), if_neg (by omega), if_neg (by omega), if_neg (by omega), if_neg (by omega), if_neg (by omega)])
      · refine rn_swIn (k := 7) (t := 117) rfl hw (by decide) rfl rfl ?_
        refine rn_aload_n (pc' := 118) rfl rfl rfl ?_
        refine rn_getF (N := 1) (t' := 35) (pc' := 121) rfl rfl rfl rfl rfl (by first | assumption | decide | omega) ?_
        refine rn_iload_n (pc' := 122) rfl rfl rfl ?_
        refine rn_iald (N := 1) (K := 24) (pc' := 123) rfl rfl ⟨rfl, rfl⟩ rfl (by first | assumption | decide | omega) rfl (by decide) rfl (by first | assumption | decide | omega) ?_
        refine rn_ireturn rfl rfl ?_
        refine ⟨?_, rfl⟩
        try simp only [lg_gt] at *
        first | (simp [tdV, until_, ralm, hw, *]; done) | (unfold tdV; simp only [hw]; simp [until_, ralm, *]; done) | (unfold tdV; rw [if_neg (by omega), if_neg (by omega), if_neg (by omega), if_neg (by omega), if_neg (by omega), if_neg (by omega), if_neg (by omega), if_neg (by omega), if_neg (by omega), if_neg (by omega)])
      · refine rn_swIn (k := 8) (t := 124) rfl hw (by decide) rfl rfl ?_
        refine rn_aload_n (pc' := 125) rfl rfl rfl ?_
        refine rn_getF (N := 1) (t' := 38) (pc' := 128) rfl rfl rfl rfl rfl (by first | assumption | decide | omega) ?_
        refine rn_iload_n (pc' := 129) rfl rfl rfl ?_
        refine rn_lald (N := 1) (K := 24) (pc' := 130) rfl rfl ⟨rfl, rfl⟩ rfl (by first | assumption | decide | omega) rfl (by decide) rfl (by first | assumption | decide | omega) ?_
        refine rn_lconst (pc' := 131) (v := 0) rfl rfl rfl ?_
        refine rn_lcmp (pc' := 132) rfl rfl ?_
        refine rn_if_le (t := 151) (pc' := 135) rfl rfl rfl (fun h4 => ?_) (fun h4 => ?_)
        · refine rn_iconst (pc' := 152) (v := 0) rfl rfl (by decide) ?_
          refine rn_ireturn rfl rfl ?_
          refine ⟨?_, rfl⟩
          try simp only [lg_gt] at *
          first | (simp [tdV, until_, ralm, hw, *]; done) | (unfold tdV; simp only [hw]; simp [until_, ralm, *]; done) | (unfold tdV; rw [if_neg (by omega), if_neg (by omega), if_neg (by omega), if_neg (by omega), if_neg (by omega), if_neg (by omega), if_neg (by omega), if_neg (by omega), if_neg (by omega), if_neg (by omega)])
        · refine rn_aload_n (pc' := 136) rfl rfl rfl ?_
          refine rn_getF (N := 1) (t' := 38) (pc' := 139) rfl rfl rfl rfl rfl (by first | assumption | decide | omega) ?_
          refine rn_iload_n (pc' := 140) rfl rfl rfl ?_
          refine rn_lald (N := 1) (K := 24) (pc' := 141) rfl rfl ⟨rfl, rfl⟩ rfl (by first | assumption | decide | omega) rfl (by decide) rfl (by first | assumption | decide | omega) ?_
          refine rn_aload_n (pc' := 142) rfl rfl rfl ?_
          refine rn_getI (N := 1) (pc' := 145) rfl rfl rfl rfl (by decide) rfl (by first | assumption | decide | omega) ?_
          refine rn_i2l (pc' := 146) rfl rfl ?_
          refine rn_lsub (pc' := 147) rfl rfl ?_
          refine rn_l2i (pc' := 148) rfl rfl ?_
          refine rn_goto (pc' := 152) rfl rfl ?_
          refine rn_ireturn rfl rfl ?_
          refine ⟨?_, rfl⟩
          try simp only [lg_gt] at *
          first | (simp [tdV, until_, ralm, hw, *]; done) | (unfold tdV; simp only [hw]; simp [until_, ralm, *]; done) | (unfold tdV; rw [if_neg (by omega), if_neg (by omega), if_neg (by omega), if_neg (by omega), if_neg (by omega), if_neg (by omega), if_neg (by omega), if_neg (by omega), if_neg (by omega), if_neg (by omega)])
      · refine rn_swIn (k := 9) (t := 153) rfl hw (by decide) rfl rfl ?_
        refine rn_aload_n (pc' := 154) rfl rfl rfl ?_
        refine rn_getF (N := 1) (t' := 28) (pc' := 157) rfl rfl rfl rfl rfl (by first | assumption | decide | omega) ?_
        refine rn_iload_n (pc' := 158) rfl rfl rfl ?_
        refine rn_iald (N := 1) (K := 24) (pc' := 159) rfl rfl ⟨rfl, rfl⟩ rfl (by first | assumption | decide | omega) rfl (by decide) rfl (by first | assumption | decide | omega) ?_
        refine rn_iconst (pc' := 160) (v := 4) rfl rfl (by decide) ?_
        refine rn_ic_ne (t := 172) (pc' := 163) rfl rfl rfl (fun h4 => ?_) (fun h4 => ?_)
        · refine rn_iconst (pc' := 173) (v := 0) rfl rfl (by decide) ?_
          refine rn_ireturn rfl rfl ?_
          refine ⟨?_, rfl⟩
          try simp only [lg_gt] at *
          first | (simp [tdV, until_, ralm, hw, *]; done) | (unfold tdV; simp only [hw]; simp [until_, ralm, *]; done) | (unfold tdV; rw [if_neg (by omega), if_neg (by omega), if_neg (by omega), if_neg (by omega), if_neg (by omega), if_neg (by omega), if_neg (by omega), if_neg (by omega), if_neg (by omega), if_neg (by omega)])
        · refine rn_aload_n (pc' := 164) rfl rfl rfl ?_
          refine rn_getF (N := 1) (t' := 39) (pc' := 167) rfl rfl rfl rfl rfl (by first | assumption | decide | omega) ?_
          refine rn_iload_n (pc' := 168) rfl rfl rfl ?_
          refine rn_iald (N := 1) (K := 24) (pc' := 169) rfl rfl ⟨rfl, rfl⟩ rfl (by first | assumption | decide | omega) rfl (by decide) rfl (by first | assumption | decide | omega) ?_
          refine rn_goto (pc' := 173) rfl rfl ?_
          refine rn_ireturn rfl rfl ?_
          refine ⟨?_, rfl⟩
          try simp only [lg_gt] at *
          first | (simp [tdV, until_, ralm, hw, *]; done) | (unfold tdV; simp only [hw]; simp [until_, ralm, *]; done) | (unfold tdV; rw [if_neg (by omega), if_neg (by omega), if_neg (by omega), if_neg (by omega), if_neg (by omega), if_neg (by omega), if_neg (by omega), if_neg (by omega), if_neg (by omega), if_neg (by omega)])
  · exact absurd h2 hp
theorem r_regU {d : Nat} (M : xM) (p w : Int32) (h : eo M p = none) : Rn (d + 1) 102 (0, xen 102 [vR 20 0, vI p, vI w], [], M) (fun r M' => r = some (vI (-1001)) ∧ M' = M) := by
  have ho := oI_neg (o := eo M p) (fun e h => eo_lt h)
  show Rn _ 102 (0, [some (vR 20 0), some (vI p), some (vI w), none], [], _) _
  refine rn_aload_n (pc' := 1) rfl rfl rfl ?_
  refine rn_iload_n (pc' := 2) rfl rfl rfl ?_
  refine rn_callV (pc' := 5) (as := [_]) rfl rfl rfl ⟨Nat.le_of_ble_eq_true rfl, rfl, rfl⟩ rfl (by first | assumption | decide | omega) (Nat.le_of_ble_eq_true rfl) (Nat.le_of_ble_eq_true rfl) rfl (r_entryOf M p) (fun r1 M1 hz => ?_)
  obtain ⟨rfl, hm_⟩ := hz
  refine rn_mem hm_ ?_
  clear hm_
  refine rn_istore_n (pc' := 6) rfl rfl rfl (Nat.le_of_ble_eq_true rfl) rfl ?_
  refine rn_iload_n (pc' := 7) rfl rfl rfl ?_
  refine rn_if_ge (t := 14) (pc' := 10) rfl rfl rfl (fun h2 => ?_) (fun h2 => ?_)
  · exact absurd (ho.mpr h) h2
  · refine rn_sipush (pc' := 13) (v := (-1001)) rfl rfl (by decide) ?_
    refine rn_ireturn rfl rfl ?_
    exact ⟨rfl, rfl⟩
theorem r_regO {d e : Nat} (M : xM) (p w : Int32) (h : eo M p = some e) (hw : ¬ (0 ≤ w.toInt64 ∧ w.toInt64 ≤ 7)) : Rn (d + 1) 102 (0, xen 102 [vR 20 0, vI p, vI w], [], M) (fun r M' => r = some (vI (-1002)) ∧ M' = M) := by
  have hp := nI_pos (n := e) (by have := eo_lt h; omega)
  show Rn _ 102 (0, [some (vR 20 0), some (vI p), some (vI w), none], [], _) _
  refine rn_aload_n (pc' := 1) rfl rfl rfl ?_
  refine rn_iload_n (pc' := 2) rfl rfl rfl ?_
  refine rn_callV (pc' := 5) (as := [_]) rfl rfl rfl ⟨Nat.le_of_ble_eq_true rfl, rfl, rfl⟩ rfl (by first | assumption | decide | omega) (Nat.le_of_ble_eq_true rfl) (Nat.le_of_ble_eq_true rfl) rfl (r_entryOf M p) (fun r1 M1 hz => ?_)
  obtain ⟨rfl, hm_⟩ := hz
  refine rn_mem hm_ ?_
  clear hm_
  refine rn_topI (oI_some h) ?_
  refine rn_istore_n (pc' := 6) rfl rfl rfl (Nat.le_of_ble_eq_true rfl) rfl ?_
  refine rn_iload_n (pc' := 7) rfl rfl rfl ?_
  refine rn_if_ge (t := 14) (pc' := 10) rfl rfl rfl (fun h2 => ?_) (fun h2 => ?_)
  · refine rn_iload_n (pc' := 15) rfl rfl rfl ?_
    refine rn_i2l (pc' := 16) rfl rfl ?_
    refine rn_lconst (pc' := 17) (v := 0) rfl rfl rfl ?_
    refine rn_ldc2_w (pc' := 20) (v := 7) rfl rfl rfl ?_
    refine rn_callS (pc' := 23) (as := [_, _, _]) rfl rfl rfl ⟨rfl, rfl, rfl⟩ (Nat.le_of_ble_eq_true rfl) (Nat.le_of_ble_eq_true rfl) rfl (r_in M _ 0 7) (fun r3 M3 hz => ?_)
    obtain ⟨rfl, hm_⟩ := hz
    refine rn_mem hm_ ?_
    clear hm_
    refine rn_if_eq (t := 40) (pc' := 26) rfl rfl rfl (fun h4 => ?_) (fun h4 => ?_)
    · refine rn_sipush (pc' := 43) (v := (-1002)) rfl rfl (by decide) ?_
      refine rn_ireturn rfl rfl ?_
      exact ⟨rfl, rfl⟩
    · exact absurd (ite01.mpr hw) h4
  · exact absurd h2 hp
theorem r_regY {d e k : Nat} (M : xM) (p : Int32) (h : eo M p = some e) (hk : k < 8) (hw : 0 ≤ (nI k).toInt64 ∧ (nI k).toInt64 ≤ 7) : Rn (d + 1) 102 (0, xen 102 [vR 20 0, vI p, vI (nI k)], [], M) (fun r M' => r = some (vI (M.1 31 0 (8 * e + k))) ∧ M' = M) := by
  have he := eo_lt h
  have hp := nI_pos (n := e) (by omega)
  show Rn _ 102 (0, [some (vR 20 0), some (vI p), some (vI (nI k)), none], [], _) _
  refine rn_aload_n (pc' := 1) rfl rfl rfl ?_
  refine rn_iload_n (pc' := 2) rfl rfl rfl ?_
  refine rn_callV (pc' := 5) (as := [_]) rfl rfl rfl ⟨Nat.le_of_ble_eq_true rfl, rfl, rfl⟩ rfl (by first | assumption | decide | omega) (Nat.le_of_ble_eq_true rfl) (Nat.le_of_ble_eq_true rfl) rfl (r_entryOf M p) (fun r1 M1 hz => ?_)
  obtain ⟨rfl, hm_⟩ := hz
  refine rn_mem hm_ ?_
  clear hm_
  refine rn_topI (oI_some h) ?_
  refine rn_istore_n (pc' := 6) rfl rfl rfl (Nat.le_of_ble_eq_true rfl) rfl ?_
  refine rn_iload_n (pc' := 7) rfl rfl rfl ?_
  refine rn_if_ge (t := 14) (pc' := 10) rfl rfl rfl (fun h2 => ?_) (fun h2 => ?_)
  · refine rn_iload_n (pc' := 15) rfl rfl rfl ?_
    refine rn_i2l (pc' := 16) rfl rfl ?_
    refine rn_lconst (pc' := 17) (v := 0) rfl rfl rfl ?_
    refine rn_ldc2_w (pc' := 20) (v := 7) rfl rfl rfl ?_
    refine rn_callS (pc' := 23) (as := [_, _, _]) rfl rfl rfl ⟨rfl, rfl, rfl⟩ (Nat.le_of_ble_eq_true rfl) (Nat.le_of_ble_eq_true rfl) rfl (r_in M _ 0 7) (fun r3 M3 hz => ?_)
    obtain ⟨rfl, hm_⟩ := hz
    refine rn_mem hm_ ?_
    clear hm_
    refine rn_if_eq (t := 40) (pc' := 26) rfl rfl rfl (fun h4 => ?_) (fun h4 => ?_)
    · exact absurd hw (ite01.mp h4)
    · refine rn_aload_n (pc' := 27) rfl rfl rfl ?_
      refine rn_getF (N := 1) (t' := 31) (pc' := 30) rfl rfl rfl rfl rfl (by first | assumption | decide | omega) ?_
      refine rn_bipush (pc' := 32) (v := 8) rfl rfl (by decide) ?_
      refine rn_iload_n (pc' := 33) rfl rfl rfl ?_
      refine rn_imul (pc' := 34) rfl rfl ?_
      refine rn_iload_n (pc' := 35) rfl rfl rfl ?_
      refine rn_iadd (pc' := 36) rfl rfl ?_
      refine rn_iald (k := 8 * e + k) (N := 1) (K := 192) (pc' := 37) rfl rfl ⟨rfl, rfl⟩ rfl (by first | assumption | decide | omega) rfl (by decide) (ix8 e k) (by first | assumption | decide | omega) ?_
      refine rn_goto (pc' := 43) rfl rfl ?_
      refine rn_ireturn rfl rfl ?_
      exact ⟨rfl, rfl⟩
  · exact absurd h2 hp
theorem r_actnU {d : Nat} (M : xM) (p w : Int32) (h : eo M p = none) : Rn (d + 1) 103 (0, xen 103 [vR 20 0, vI p, vI w], [], M) (fun r M' => r = some (vI (-1001)) ∧ M' = M) := by
  have ho := oI_neg (o := eo M p) (fun e h => eo_lt h)
  show Rn _ 103 (0, [some (vR 20 0), some (vI p), some (vI w), none], [], _) _
  refine rn_aload_n (pc' := 1) rfl rfl rfl ?_
  refine rn_iload_n (pc' := 2) rfl rfl rfl ?_
  refine rn_callV (pc' := 5) (as := [_]) rfl rfl rfl ⟨Nat.le_of_ble_eq_true rfl, rfl, rfl⟩ rfl (by first | assumption | decide | omega) (Nat.le_of_ble_eq_true rfl) (Nat.le_of_ble_eq_true rfl) rfl (r_entryOf M p) (fun r1 M1 hz => ?_)
  obtain ⟨rfl, hm_⟩ := hz
  refine rn_mem hm_ ?_
  clear hm_
  refine rn_istore_n (pc' := 6) rfl rfl rfl (Nat.le_of_ble_eq_true rfl) rfl ?_
  refine rn_iload_n (pc' := 7) rfl rfl rfl ?_
  refine rn_if_ge (t := 14) (pc' := 10) rfl rfl rfl (fun h2 => ?_) (fun h2 => ?_)
  · exact absurd (ho.mpr h) h2
  · refine rn_sipush (pc' := 13) (v := (-1001)) rfl rfl (by decide) ?_
    refine rn_ireturn rfl rfl ?_
    exact ⟨rfl, rfl⟩
theorem r_actnO {d e : Nat} (M : xM) (p w : Int32) (h : eo M p = some e) (hw : ¬ isS1 w) : Rn (d + 1) 103 (0, xen 103 [vR 20 0, vI p, vI w], [], M) (fun r M' => r = some (vI (-1002)) ∧ M' = M) := by
  have hp := nI_pos (n := e) (by have := eo_lt h; omega)
  show Rn _ 103 (0, [some (vR 20 0), some (vI p), some (vI w), none], [], _) _
  refine rn_aload_n (pc' := 1) rfl rfl rfl ?_
  refine rn_iload_n (pc' := 2) rfl rfl rfl ?_
  refine rn_callV (pc' := 5) (as := [_]) rfl rfl rfl ⟨Nat.le_of_ble_eq_true rfl, rfl, rfl⟩ rfl (by first | assumption | decide | omega) (Nat.le_of_ble_eq_true rfl) (Nat.le_of_ble_eq_true rfl) rfl (r_entryOf M p) (fun r1 M1 hz => ?_)
  obtain ⟨rfl, hm_⟩ := hz
  refine rn_mem hm_ ?_
  clear hm_
  refine rn_topI (oI_some h) ?_
  refine rn_istore_n (pc' := 6) rfl rfl rfl (Nat.le_of_ble_eq_true rfl) rfl ?_
  refine rn_iload_n (pc' := 7) rfl rfl rfl ?_
  refine rn_if_ge (t := 14) (pc' := 10) rfl rfl rfl (fun h2 => ?_) (fun h2 => ?_)
  · refine rn_iload_n (pc' := 15) rfl rfl rfl ?_
    refine rn_i2l (pc' := 16) rfl rfl ?_
    refine rn_lconst (pc' := 17) (v := 1) rfl rfl rfl ?_
    refine rn_ldc2_w (pc' := 20) (v := 20) rfl rfl rfl ?_
    refine rn_callS (pc' := 23) (as := [_, _, _]) rfl rfl rfl ⟨rfl, rfl, rfl⟩ (Nat.le_of_ble_eq_true rfl) (Nat.le_of_ble_eq_true rfl) rfl (r_in M _ 1 20) (fun r3 M3 hz => ?_)
    obtain ⟨rfl, hm_⟩ := hz
    refine rn_mem hm_ ?_
    clear hm_
    refine rn_if_eq (t := 40) (pc' := 26) rfl rfl rfl (fun h4 => ?_) (fun h4 => ?_)
    · refine rn_sipush (pc' := 43) (v := (-1002)) rfl rfl (by decide) ?_
      refine rn_ireturn rfl rfl ?_
      exact ⟨rfl, rfl⟩
    · exact absurd (ite01.mpr hw) h4
  · exact absurd h2 hp
theorem r_actnY {d e k : Nat} (M : xM) (p : Int32) (h : eo M p = some e) (hk : k < 21) (hw : isS1 (nI k)) : Rn (d + 1) 103 (0, xen 103 [vR 20 0, vI p, vI (nI k)], [], M) (fun r M' => r = some (vI (rdoe M e k)) ∧ M' = M) := by
  have he := eo_lt h
  have hp := nI_pos (n := e) (by omega)
  show Rn _ 103 (0, [some (vR 20 0), some (vI p), some (vI (nI k)), none], [], _) _
  refine rn_aload_n (pc' := 1) rfl rfl rfl ?_
  refine rn_iload_n (pc' := 2) rfl rfl rfl ?_
  refine rn_callV (pc' := 5) (as := [_]) rfl rfl rfl ⟨Nat.le_of_ble_eq_true rfl, rfl, rfl⟩ rfl (by first | assumption | decide | omega) (Nat.le_of_ble_eq_true rfl) (Nat.le_of_ble_eq_true rfl) rfl (r_entryOf M p) (fun r1 M1 hz => ?_)
  obtain ⟨rfl, hm_⟩ := hz
  refine rn_mem hm_ ?_
  clear hm_
  refine rn_topI (oI_some h) ?_
  refine rn_istore_n (pc' := 6) rfl rfl rfl (Nat.le_of_ble_eq_true rfl) rfl ?_
  refine rn_iload_n (pc' := 7) rfl rfl rfl ?_
  refine rn_if_ge (t := 14) (pc' := 10) rfl rfl rfl (fun h2 => ?_) (fun h2 => ?_)
  · refine rn_iload_n (pc' := 15) rfl rfl rfl ?_
    refine rn_i2l (pc' := 16) rfl rfl ?_
    refine rn_lconst (pc' := 17) (v := 1) rfl rfl rfl ?_
    refine rn_ldc2_w (pc' := 20) (v := 20) rfl rfl rfl ?_
    refine rn_callS (pc' := 23) (as := [_, _, _]) rfl rfl rfl ⟨rfl, rfl, rfl⟩ (Nat.le_of_ble_eq_true rfl) (Nat.le_of_ble_eq_true rfl) rfl (r_in M _ 1 20) (fun r3 M3 hz => ?_)
    obtain ⟨rfl, hm_⟩ := hz
    refine rn_mem hm_ ?_
    clear hm_
    refine rn_if_eq (t := 40) (pc' := 26) rfl rfl rfl (fun h4 => ?_) (fun h4 => ?_)
    · exact absurd hw (ite01.mp h4)
    · refine rn_aload_n (pc' := 27) rfl rfl rfl ?_
      refine rn_getF (N := 1) (t' := 32) (pc' := 30) rfl rfl rfl rfl rfl (by first | assumption | decide | omega) ?_
      refine rn_bipush (pc' := 32) (v := 21) rfl rfl (by decide) ?_
      refine rn_iload_n (pc' := 33) rfl rfl rfl ?_
      refine rn_imul (pc' := 34) rfl rfl ?_
      refine rn_iload_n (pc' := 35) rfl rfl rfl ?_
      refine rn_iadd (pc' := 36) rfl rfl ?_
      refine rn_iald (k := 21 * e + k) (N := 1) (K := 504) (pc' := 37) rfl rfl ⟨rfl, rfl⟩ rfl (by first | assumption | decide | omega) rfl (by decide) (ix21 e k) (by first | assumption | decide | omega) ?_
      refine rn_goto (pc' := 43) rfl rfl ?_
      refine rn_ireturn rfl rfl ?_
      exact ⟨rfl, rfl⟩
  · exact absurd h2 hp
theorem r_childU {d : Nat} (M : xM) (p w : Int32) (h : eo M p = none) : Rn (d + 1) 104 (0, xen 104 [vR 20 0, vI p, vI w], [], M) (fun r M' => r = some (vI (-1001)) ∧ M' = M) := by
  have ho := oI_neg (o := eo M p) (fun e h => eo_lt h)
  show Rn _ 104 (0, [some (vR 20 0), some (vI p), some (vI w), none, none, none], [], _) _
  refine rn_aload_n (pc' := 1) rfl rfl rfl ?_
  refine rn_iload_n (pc' := 2) rfl rfl rfl ?_
  refine rn_callV (pc' := 5) (as := [_]) rfl rfl rfl ⟨Nat.le_of_ble_eq_true rfl, rfl, rfl⟩ rfl (by first | assumption | decide | omega) (Nat.le_of_ble_eq_true rfl) (Nat.le_of_ble_eq_true rfl) rfl (r_entryOf M p) (fun r1 M1 hz => ?_)
  obtain ⟨rfl, hm_⟩ := hz
  refine rn_mem hm_ ?_
  clear hm_
  refine rn_istore_n (pc' := 6) rfl rfl rfl (Nat.le_of_ble_eq_true rfl) rfl ?_
  refine rn_iload_n (pc' := 7) rfl rfl rfl ?_
  refine rn_if_ge (t := 14) (pc' := 10) rfl rfl rfl (fun h2 => ?_) (fun h2 => ?_)
  · exact absurd (ho.mpr h) h2
  · refine rn_sipush (pc' := 13) (v := (-1001)) rfl rfl (by decide) ?_
    refine rn_ireturn rfl rfl ?_
    exact ⟨rfl, rfl⟩
def cdF (M : xM) (p : Int32) : Nat → Nat → Int32 → Int32
  | 0, _, _ => 0
  | m + 1, i, w => if 0 < rpid M i ∧ rpar M i = p then (if w = 0 then rpid M i else cdF M p m (i + 1) (w - 1)) else cdF M p m (i + 1) w
theorem dec_1 (x : Int32) : x + Int32.ofInt (-1) = x - 1 := by
  show x + (-1) = x - 1
  rw [Int32.sub_eq_add_neg]
theorem r_child {d e : Nat} (M : xM) (p w : Int32) (h : eo M p = some e) : Rn (d + 1) 104 (0, xen 104 [vR 20 0, vI p, vI w], [], M) (fun r M' => r = some (vI (cdF M p 24 0 w)) ∧ M' = M) := by
  have he := eo_lt h
  have hp := nI_pos (n := e) (by omega)
  obtain ⟨T, hT⟩ : ∃ T, T = cdF M p 24 0 w := ⟨_, rfl⟩
  rw [← hT]
  have loop : ∀ (m i : Nat) (w0 : Int32), i + m = 24 → cdF M p m i w0 = T → Rn (d + 1) 104 (20, [some (vR 20 0), some (vI p), some (vI w), some (vI (nI e)), some (vI w0), some (vI (nI i))], [], M) (fun r M' => r = some (vI T) ∧ M' = M) := by
    intro m
    induction m with
    | zero =>
      intro i w0 hi hq
      obtain rfl : i = 24 := by omega
      refine rn_iload (pc' := 22) rfl rfl rfl ?_
      refine rn_bipush (pc' := 24) (v := 24) rfl rfl (by decide) ?_
      refine rn_ic_ge (t := 70) (pc' := 27) rfl rfl rfl (fun h1 => ?_) (fun h1 => ?_)
      · refine rn_iconst (pc' := 71) (v := 0) rfl rfl (by decide) ?_
        refine rn_ireturn rfl rfl ?_
        exact ⟨by rw [← hq]; rfl, rfl⟩
      · exact absurd ((lt24 (by omega)).mp h1) (by omega)
    | succ m ih =>
      intro i w0 hi hq
      have hi24 : i < 24 := by omega
      unfold cdF at hq
      refine rn_iload (pc' := 22) rfl rfl rfl ?_
      refine rn_bipush (pc' := 24) (v := 24) rfl rfl (by decide) ?_
      refine rn_ic_ge (t := 70) (pc' := 27) rfl rfl rfl (fun h1 => ?_) (fun h1 => ?_)
      · exact absurd ((lt24 (by omega)).mpr hi24) h1
      · refine rn_aload_n (pc' := 28) rfl rfl rfl ?_
        refine rn_getF (N := 1) (t' := 25) (pc' := 31) rfl rfl rfl rfl rfl (by first | assumption | decide | omega) ?_
        refine rn_iload (pc' := 33) rfl rfl rfl ?_
        refine rn_iald (N := 1) (K := 24) (pc' := 34) rfl rfl ⟨rfl, rfl⟩ rfl (by first | assumption | decide | omega) rfl (by decide) rfl (by first | assumption | decide | omega) ?_
        refine rn_if_le (t := 64) (pc' := 37) rfl rfl rfl (fun h2 => ?_) (fun h2 => ?_)
        · refine rn_iinc (pc' := 67) rfl rfl rfl (nI_inc _) rfl (Nat.le_of_ble_eq_true rfl) rfl ?_
          refine rn_goto (pc' := 20) rfl rfl ?_
          first | (rw [if_pos ⟨h2, h3⟩, if_neg h4] at hq; exact ih (i + 1) _ (by omega) hq) | (rw [if_neg (fun q => absurd q.2 h3)] at hq; exact ih (i + 1) _ (by omega) hq) | (rw [if_neg (fun q => absurd q.1 h2)] at hq; exact ih (i + 1) _ (by omega) hq)
        · refine rn_aload_n (pc' := 38) rfl rfl rfl ?_
          refine rn_getF (N := 1) (t' := 26) (pc' := 41) rfl rfl rfl rfl rfl (by first | assumption | decide | omega) ?_
          refine rn_iload (pc' := 43) rfl rfl rfl ?_
          refine rn_iald (N := 1) (K := 24) (pc' := 44) rfl rfl ⟨rfl, rfl⟩ rfl (by first | assumption | decide | omega) rfl (by decide) rfl (by first | assumption | decide | omega) ?_
          refine rn_iload_n (pc' := 45) rfl rfl rfl ?_
          refine rn_ic_ne (t := 64) (pc' := 48) rfl rfl rfl (fun h3 => ?_) (fun h3 => ?_)
          · refine rn_iinc (pc' := 67) rfl rfl rfl (nI_inc _) rfl (Nat.le_of_ble_eq_true rfl) rfl ?_
            refine rn_goto (pc' := 20) rfl rfl ?_
            first | (rw [if_pos ⟨h2, h3⟩, if_neg h4] at hq; exact ih (i + 1) _ (by omega) hq) | (rw [if_neg (fun q => absurd q.2 h3)] at hq; exact ih (i + 1) _ (by omega) hq) | (rw [if_neg (fun q => absurd q.1 h2)] at hq; exact ih (i + 1) _ (by omega) hq)
          · refine rn_iload (pc' := 50) rfl rfl rfl ?_
            refine rn_if_ne (t := 61) (pc' := 53) rfl rfl rfl (fun h4 => ?_) (fun h4 => ?_)
            · refine rn_iinc (pc' := 64) rfl rfl rfl (dec_1 _) rfl (Nat.le_of_ble_eq_true rfl) rfl ?_
              refine rn_iinc (pc' := 67) rfl rfl rfl (nI_inc _) rfl (Nat.le_of_ble_eq_true rfl) rfl ?_
              refine rn_goto (pc' := 20) rfl rfl ?_
              first | (rw [if_pos ⟨h2, h3⟩, if_neg h4] at hq; exact ih (i + 1) _ (by omega) hq) | (rw [if_neg (fun q => absurd q.2 h3)] at hq; exact ih (i + 1) _ (by omega) hq) | (rw [if_neg (fun q => absurd q.1 h2)] at hq; exact ih (i + 1) _ (by omega) hq)
            · refine rn_aload_n (pc' := 54) rfl rfl rfl ?_
              refine rn_getF (N := 1) (t' := 25) (pc' := 57) rfl rfl rfl rfl rfl (by first | assumption | decide | omega) ?_
              refine rn_iload (pc' := 59) rfl rfl rfl ?_
              refine rn_iald (N := 1) (K := 24) (pc' := 60) rfl rfl ⟨rfl, rfl⟩ rfl (by first | assumption | decide | omega) rfl (by decide) rfl (by first | assumption | decide | omega) ?_
              refine rn_ireturn rfl rfl ?_
              (rw [if_pos ⟨h2, h3⟩, if_pos h4] at hq; exact ⟨by rw [← hq], rfl⟩)
  show Rn _ 104 (0, [some (vR 20 0), some (vI p), some (vI w), none, none, none], [], _) _
  refine rn_aload_n (pc' := 1) rfl rfl rfl ?_
  refine rn_iload_n (pc' := 2) rfl rfl rfl ?_
  refine rn_callV (pc' := 5) (as := [_]) rfl rfl rfl ⟨Nat.le_of_ble_eq_true rfl, rfl, rfl⟩ rfl (by first | assumption | decide | omega) (Nat.le_of_ble_eq_true rfl) (Nat.le_of_ble_eq_true rfl) rfl (r_entryOf M p) (fun r1 M1 hz => ?_)
  obtain ⟨rfl, hm_⟩ := hz
  refine rn_mem hm_ ?_
  clear hm_
  refine rn_topI (oI_some h) ?_
  refine rn_istore_n (pc' := 6) rfl rfl rfl (Nat.le_of_ble_eq_true rfl) rfl ?_
  refine rn_iload_n (pc' := 7) rfl rfl rfl ?_
  refine rn_if_ge (t := 14) (pc' := 10) rfl rfl rfl (fun h2 => ?_) (fun h2 => ?_)
  · refine rn_iload_n (pc' := 15) rfl rfl rfl ?_
    refine rn_istore (pc' := 17) rfl rfl rfl (Nat.le_of_ble_eq_true rfl) rfl ?_
    refine rn_iconst (pc' := 18) (v := 0) rfl rfl (by decide) ?_
    refine rn_istore (pc' := 20) rfl rfl rfl (Nat.le_of_ble_eq_true rfl) rfl ?_
    exact loop 24 0 w rfl hT.symm
  · exact absurd h2 hp
def mbF (M : xM) (q : Nat → Bool) : Nat → Int32
  | 0 => 0
  | k + 1 => mbF M q k + bI (q k)
theorem r_members {d : Nat} (M : xM) (g : Int32) : Rn d 105 (0, xen 105 [vR 20 0, vI g], [], M) (fun r M' => r = some (vI (mbF M (fun k => decide (0 < rpid M k) && decide (rgrp M k = g)) 24)) ∧ M' = M) := by
  have loop : ∀ m i : Nat, i + m = 24 → Rn d 105 (4, [some (vR 20 0), some (vI g), some (vI (mbF M (fun k => decide (0 < rpid M k) && decide (rgrp M k = g)) i)), some (vI (nI i))], [], M) (fun r M' => r = some (vI (mbF M (fun k => decide (0 < rpid M k) && decide (rgrp M k = g)) 24)) ∧ M' = M) := by
    intro m
    induction m with
    | zero =>
      intro i hi
      obtain rfl : i = 24 := by omega
      refine rn_iload_n (pc' := 5) rfl rfl rfl ?_
      refine rn_bipush (pc' := 7) (v := 24) rfl rfl (by decide) ?_
      refine rn_ic_ge (t := 43) (pc' := 10) rfl rfl rfl (fun h1 => ?_) (fun h1 => ?_)
      · refine rn_iload_n (pc' := 44) rfl rfl rfl ?_
        refine rn_ireturn rfl rfl ?_
        exact ⟨rfl, rfl⟩
      · exact absurd ((lt24 (by omega)).mp h1) (by omega)
    | succ m ih =>
      intro i hi
      have he : i < 24 := by omega
      have ih := ih (i + 1) (by omega)
      have key : ∀ x, x = bI (decide (0 < rpid M i) && decide (rgrp M i = g)) → Rn d 105 (35, [some (vR 20 0), some (vI g), some (vI (mbF M (fun k => decide (0 < rpid M k) && decide (rgrp M k = g)) i)), some (vI (nI i))], [vI x, vI (mbF M (fun k => decide (0 < rpid M k) && decide (rgrp M k = g)) i)], M) (fun r M' => r = some (vI (mbF M (fun k => decide (0 < rpid M k) && decide (rgrp M k = g)) 24)) ∧ M' = M) := by
        intro x hx
        subst hx
        refine rn_iadd (pc' := 36) rfl rfl ?_
        refine rn_istore_n (pc' := 37) rfl rfl rfl (Nat.le_of_ble_eq_true rfl) rfl ?_
        refine rn_iinc (pc' := 40) rfl rfl rfl (nI_inc _) rfl (Nat.le_of_ble_eq_true rfl) rfl ?_
        refine rn_goto (pc' := 4) rfl rfl ?_
        exact ih
      refine rn_iload_n (pc' := 5) rfl rfl rfl ?_
      refine rn_bipush (pc' := 7) (v := 24) rfl rfl (by decide) ?_
      refine rn_ic_ge (t := 43) (pc' := 10) rfl rfl rfl (fun h1 => ?_) (fun h1 => ?_)
      · exact absurd ((lt24 (by omega)).mpr he) h1
      · refine rn_iload_n (pc' := 11) rfl rfl rfl ?_
        refine rn_aload_n (pc' := 12) rfl rfl rfl ?_
        refine rn_getF (N := 1) (t' := 25) (pc' := 15) rfl rfl rfl rfl rfl (by first | assumption | decide | omega) ?_
        refine rn_iload_n (pc' := 16) rfl rfl rfl ?_
        refine rn_iald (N := 1) (K := 24) (pc' := 17) rfl rfl ⟨rfl, rfl⟩ rfl (by first | assumption | decide | omega) rfl (by decide) rfl (by first | assumption | decide | omega) ?_
        refine rn_if_le (t := 34) (pc' := 20) rfl rfl rfl (fun h2 => ?_) (fun h2 => ?_)
        · refine rn_iconst (pc' := 35) (v := 0) rfl rfl (by decide) ?_
          refine key _ ?_
          simp [bI, rpid, rgrp, *]
        · refine rn_aload_n (pc' := 21) rfl rfl rfl ?_
          refine rn_getF (N := 1) (t' := 27) (pc' := 24) rfl rfl rfl rfl rfl (by first | assumption | decide | omega) ?_
          refine rn_iload_n (pc' := 25) rfl rfl rfl ?_
          refine rn_iald (N := 1) (K := 24) (pc' := 26) rfl rfl ⟨rfl, rfl⟩ rfl (by first | assumption | decide | omega) rfl (by decide) rfl (by first | assumption | decide | omega) ?_
          refine rn_iload_n (pc' := 27) rfl rfl rfl ?_
          refine rn_ic_ne (t := 34) (pc' := 30) rfl rfl rfl (fun h3 => ?_) (fun h3 => ?_)
          · refine rn_iconst (pc' := 35) (v := 0) rfl rfl (by decide) ?_
            refine key _ ?_
            simp [bI, rpid, rgrp, *]
          · refine rn_iconst (pc' := 31) (v := 1) rfl rfl (by decide) ?_
            refine rn_goto (pc' := 35) rfl rfl ?_
            refine key _ ?_
            simp [bI, rpid, rgrp, *]
  show Rn _ 105 (0, [some (vR 20 0), some (vI g), none, none], [], _) _
  refine rn_iconst (pc' := 1) (v := 0) rfl rfl (by decide) ?_
  refine rn_istore_n (pc' := 2) rfl rfl rfl (Nat.le_of_ble_eq_true rfl) rfl ?_
  refine rn_iconst (pc' := 3) (v := 0) rfl rfl (by decide) ?_
  refine rn_istore_n (pc' := 4) rfl rfl rfl (Nat.le_of_ble_eq_true rfl) rfl ?_
  exact loop 24 0 rfl
theorem r_howMany {d : Nat} (M : xM) (g : Int32) : Rn d 107 (0, xen 107 [vR 20 0, vI g], [], M) (fun r M' => r = some (vI (mbF M (fun k => decide (0 < rpid M k) && (decide (g < 0) || decide (rste M k = g))) 24)) ∧ M' = M) := by
  have loop : ∀ m i : Nat, i + m = 24 → Rn d 107 (4, [some (vR 20 0), some (vI g), some (vI (mbF M (fun k => decide (0 < rpid M k) && (decide (g < 0) || decide (rste M k = g))) i)), some (vI (nI i))], [], M) (fun r M' => r = some (vI (mbF M (fun k => decide (0 < rpid M k) && (decide (g < 0) || decide (rste M k = g))) 24)) ∧ M' = M) := by
    intro m
    induction m with
    | zero =>
      intro i hi
      obtain rfl : i = 24 := by omega
      refine rn_iload_n (pc' := 5) rfl rfl rfl ?_
      refine rn_bipush (pc' := 7) (v := 24) rfl rfl (by decide) ?_
      refine rn_ic_ge (t := 47) (pc' := 10) rfl rfl rfl (fun h1 => ?_) (fun h1 => ?_)
      · refine rn_iload_n (pc' := 48) rfl rfl rfl ?_
        refine rn_ireturn rfl rfl ?_
        exact ⟨rfl, rfl⟩
      · exact absurd ((lt24 (by omega)).mp h1) (by omega)
    | succ m ih =>
      intro i hi
      have he : i < 24 := by omega
      have ih := ih (i + 1) (by omega)
      have key : ∀ x, x = bI (decide (0 < rpid M i) && (decide (g < 0) || decide (rste M i = g))) → Rn d 107 (39, [some (vR 20 0), some (vI g), some (vI (mbF M (fun k => decide (0 < rpid M k) && (decide (g < 0) || decide (rste M k = g))) i)), some (vI (nI i))], [vI x, vI (mbF M (fun k => decide (0 < rpid M k) && (decide (g < 0) || decide (rste M k = g))) i)], M) (fun r M' => r = some (vI (mbF M (fun k => decide (0 < rpid M k) && (decide (g < 0) || decide (rste M k = g))) 24)) ∧ M' = M) := by
        intro x hx
        subst hx
        refine rn_iadd (pc' := 40) rfl rfl ?_
        refine rn_istore_n (pc' := 41) rfl rfl rfl (Nat.le_of_ble_eq_true rfl) rfl ?_
        refine rn_iinc (pc' := 44) rfl rfl rfl (nI_inc _) rfl (Nat.le_of_ble_eq_true rfl) rfl ?_
        refine rn_goto (pc' := 4) rfl rfl ?_
        exact ih
      refine rn_iload_n (pc' := 5) rfl rfl rfl ?_
      refine rn_bipush (pc' := 7) (v := 24) rfl rfl (by decide) ?_
      refine rn_ic_ge (t := 47) (pc' := 10) rfl rfl rfl (fun h1 => ?_) (fun h1 => ?_)
      · exact absurd ((lt24 (by omega)).mpr he) h1
      · refine rn_iload_n (pc' := 11) rfl rfl rfl ?_
        refine rn_aload_n (pc' := 12) rfl rfl rfl ?_
        refine rn_getF (N := 1) (t' := 25) (pc' := 15) rfl rfl rfl rfl rfl (by first | assumption | decide | omega) ?_
        refine rn_iload_n (pc' := 16) rfl rfl rfl ?_
        refine rn_iald (N := 1) (K := 24) (pc' := 17) rfl rfl ⟨rfl, rfl⟩ rfl (by first | assumption | decide | omega) rfl (by decide) rfl (by first | assumption | decide | omega) ?_
        refine rn_if_le (t := 38) (pc' := 20) rfl rfl rfl (fun h2 => ?_) (fun h2 => ?_)
        · refine rn_iconst (pc' := 39) (v := 0) rfl rfl (by decide) ?_
          refine key _ ?_
          first | (simp [bI, rpid, rste, *]; done) | simp_all [bI, rpid, rste]
        · refine rn_iload_n (pc' := 21) rfl rfl rfl ?_
          refine rn_if_lt (t := 34) (pc' := 24) rfl rfl rfl (fun h3 => ?_) (fun h3 => ?_)
          · refine rn_iconst (pc' := 35) (v := 1) rfl rfl (by decide) ?_
            refine rn_goto (pc' := 39) rfl rfl ?_
            refine key _ ?_
            first | (simp [bI, rpid, rste, *]; done) | simp_all [bI, rpid, rste]
          · refine rn_aload_n (pc' := 25) rfl rfl rfl ?_
            refine rn_getF (N := 1) (t' := 28) (pc' := 28) rfl rfl rfl rfl rfl (by first | assumption | decide | omega) ?_
            refine rn_iload_n (pc' := 29) rfl rfl rfl ?_
            refine rn_iald (N := 1) (K := 24) (pc' := 30) rfl rfl ⟨rfl, rfl⟩ rfl (by first | assumption | decide | omega) rfl (by decide) rfl (by first | assumption | decide | omega) ?_
            refine rn_iload_n (pc' := 31) rfl rfl rfl ?_
            refine rn_ic_ne (t := 38) (pc' := 34) rfl rfl rfl (fun h4 => ?_) (fun h4 => ?_)
            · refine rn_iconst (pc' := 39) (v := 0) rfl rfl (by decide) ?_
              refine key _ ?_
              first | (simp [bI, rpid, rste, *]; done) | simp_all [bI, rpid, rste]
            · refine rn_iconst (pc' := 35) (v := 1) rfl rfl (by decide) ?_
              refine rn_goto (pc' := 39) rfl rfl ?_
              refine key _ ?_
              first | (simp [bI, rpid, rste, *]; done) | simp_all [bI, rpid, rste]
  show Rn _ 107 (0, [some (vR 20 0), some (vI g), none, none], [], _) _
  refine rn_iconst (pc' := 1) (v := 0) rfl rfl (by decide) ?_
  refine rn_istore_n (pc' := 2) rfl rfl rfl (Nat.le_of_ble_eq_true rfl) rfl ?_
  refine rn_iconst (pc' := 3) (v := 0) rfl rfl (by decide) ?_
  refine rn_istore_n (pc' := 4) rfl rfl rfl (Nat.le_of_ble_eq_true rfl) rfl ?_
  exact loop 24 0 rfl
def ctV (M : xM) (w : Int32) : Int32 := if w.toInt = 0 then mbF M (fun k => decide (0 < rpid M k) && (decide ((-1 : Int32) < 0) || decide (rste M k = -1))) 24 else if w.toInt = 1 then mbF M (fun k => decide (0 < rpid M k) && (decide ((4 : Int32) < 0) || decide (rste M k = 4))) 24 else if w.toInt = 2 then mbF M (fun k => decide (0 < rpid M k) && (decide ((0 : Int32) < 0) || decide (rste M k = 0))) 24 else if w.toInt = 3 then M.1 20 0 26 else if w.toInt = 4 then M.1 20 0 34 else if w.toInt = 5 then M.1 20 0 35 else if w.toInt = 6 then M.1 20 0 36 else if w.toInt = 7 then M.1 20 0 37 else if w.toInt = 8 then M.1 20 0 38 else if w.toInt = 9 then M.1 20 0 39 else -1002
theorem r_count {d : Nat} (M : xM) (w : Int32) : Rn (d + 1) 108 (0, xen 108 [vR 20 0, vI w], [], M) (fun r M' => r = some (vI (ctV M w)) ∧ M' = M) := by
  show Rn _ 108 (0, [some (vR 20 0), some (vI w)], [], _) _
  refine rn_iload_n (pc' := 1) rfl rfl rfl ?_
  rcases x_sw w (0) 10 with hw | ⟨k_, hk_, hw⟩
  · refine rn_swOut (t := 109) rfl (by omega) rfl ?_
    refine rn_sipush (pc' := 112) (v := (-1002)) rfl rfl (by decide) ?_
    refine rn_ireturn rfl rfl ?_
    refine ⟨?_, rfl⟩
    unfold ctV
    first | (simp only [hw]; done) | (simp only [hw]; rfl) | (rw [if_neg (by omega), if_neg (by omega), if_neg (by omega), if_neg (by omega), if_neg (by omega), if_neg (by omega), if_neg (by omega), if_neg (by omega), if_neg (by omega), if_neg (by omega)])
  · rcases (show k_ = 0 ∨ k_ = 1 ∨ k_ = 2 ∨ k_ = 3 ∨ k_ = 4 ∨ k_ = 5 ∨ k_ = 6 ∨ k_ = 7 ∨ k_ = 8 ∨ k_ = 9 by omega) with rfl | rfl | rfl | rfl | rfl | rfl | rfl | rfl | rfl | rfl
    · refine rn_swIn (k := 0) (t := 56) rfl hw (by decide) rfl rfl ?_
      refine rn_aload_n (pc' := 57) rfl rfl rfl ?_
      refine rn_iconst (pc' := 58) (v := (-1)) rfl rfl (by decide) ?_
      refine rn_callV (pc' := 61) (as := [_]) rfl rfl rfl ⟨Nat.le_of_ble_eq_true rfl, rfl, rfl⟩ rfl (by first | assumption | decide | omega) (Nat.le_of_ble_eq_true rfl) (Nat.le_of_ble_eq_true rfl) rfl (r_howMany M _) (fun r2 M2 hz => ?_)
      obtain ⟨rfl, hm_⟩ := hz
      refine rn_mem hm_ ?_
      clear hm_
      refine rn_ireturn rfl rfl ?_
      refine ⟨?_, rfl⟩
      unfold ctV
      first | (simp only [hw]; done) | (simp only [hw]; rfl) | (rw [if_neg (by omega), if_neg (by omega), if_neg (by omega), if_neg (by omega), if_neg (by omega), if_neg (by omega), if_neg (by omega), if_neg (by omega), if_neg (by omega), if_neg (by omega)])
    · refine rn_swIn (k := 1) (t := 62) rfl hw (by decide) rfl rfl ?_
      refine rn_aload_n (pc' := 63) rfl rfl rfl ?_
      refine rn_iconst (pc' := 64) (v := 4) rfl rfl (by decide) ?_
      refine rn_callV (pc' := 67) (as := [_]) rfl rfl rfl ⟨Nat.le_of_ble_eq_true rfl, rfl, rfl⟩ rfl (by first | assumption | decide | omega) (Nat.le_of_ble_eq_true rfl) (Nat.le_of_ble_eq_true rfl) rfl (r_howMany M _) (fun r2 M2 hz => ?_)
      obtain ⟨rfl, hm_⟩ := hz
      refine rn_mem hm_ ?_
      clear hm_
      refine rn_ireturn rfl rfl ?_
      refine ⟨?_, rfl⟩
      unfold ctV
      first | (simp only [hw]; done) | (simp only [hw]; rfl) | (rw [if_neg (by omega), if_neg (by omega), if_neg (by omega), if_neg (by omega), if_neg (by omega), if_neg (by omega), if_neg (by omega), if_neg (by omega), if_neg (by omega), if_neg (by omega)])
    · refine rn_swIn (k := 2) (t := 68) rfl hw (by decide) rfl rfl ?_
      refine rn_aload_n (pc' := 69) rfl rfl rfl ?_
      refine rn_iconst (pc' := 70) (v := 0) rfl rfl (by decide) ?_
      refine rn_callV (pc' := 73) (as := [_]) rfl rfl rfl ⟨Nat.le_of_ble_eq_true rfl, rfl, rfl⟩ rfl (by first | assumption | decide | omega) (Nat.le_of_ble_eq_true rfl) (Nat.le_of_ble_eq_true rfl) rfl (r_howMany M _) (fun r2 M2 hz => ?_)
      obtain ⟨rfl, hm_⟩ := hz
      refine rn_mem hm_ ?_
      clear hm_
      refine rn_ireturn rfl rfl ?_
      refine ⟨?_, rfl⟩
      unfold ctV
      first | (simp only [hw]; done) | (simp only [hw]; rfl) | (rw [if_neg (by omega), if_neg (by omega), if_neg (by omega), if_neg (by omega), if_neg (by omega), if_neg (by omega), if_neg (by omega), if_neg (by omega), if_neg (by omega), if_neg (by omega)])
    · refine rn_swIn (k := 3) (t := 74) rfl hw (by decide) rfl rfl ?_
      refine rn_aload_n (pc' := 75) rfl rfl rfl ?_
      refine rn_getI (N := 1) (pc' := 78) rfl rfl rfl rfl (by decide) rfl (by first | assumption | decide | omega) ?_
      refine rn_ireturn rfl rfl ?_
      refine ⟨?_, rfl⟩
      unfold ctV
      first | (simp only [hw]; done) | (simp only [hw]; rfl) | (rw [if_neg (by omega), if_neg (by omega), if_neg (by omega), if_neg (by omega), if_neg (by omega), if_neg (by omega), if_neg (by omega), if_neg (by omega), if_neg (by omega), if_neg (by omega)])
    · refine rn_swIn (k := 4) (t := 79) rfl hw (by decide) rfl rfl ?_
      refine rn_aload_n (pc' := 80) rfl rfl rfl ?_
      refine rn_getI (N := 1) (pc' := 83) rfl rfl rfl rfl (by decide) rfl (by first | assumption | decide | omega) ?_
      refine rn_ireturn rfl rfl ?_
      refine ⟨?_, rfl⟩
      unfold ctV
      first | (simp only [hw]; done) | (simp only [hw]; rfl) | (rw [if_neg (by omega), if_neg (by omega), if_neg (by omega), if_neg (by omega), if_neg (by omega), if_neg (by omega), if_neg (by omega), if_neg (by omega), if_neg (by omega), if_neg (by omega)])
    · refine rn_swIn (k := 5) (t := 84) rfl hw (by decide) rfl rfl ?_
      refine rn_aload_n (pc' := 85) rfl rfl rfl ?_
      refine rn_getI (N := 1) (pc' := 88) rfl rfl rfl rfl (by decide) rfl (by first | assumption | decide | omega) ?_
      refine rn_ireturn rfl rfl ?_
      refine ⟨?_, rfl⟩
      unfold ctV
      first | (simp only [hw]; done) | (simp only [hw]; rfl) | (rw [if_neg (by omega), if_neg (by omega), if_neg (by omega), if_neg (by omega), if_neg (by omega), if_neg (by omega), if_neg (by omega), if_neg (by omega), if_neg (by omega), if_neg (by omega)])
    · refine rn_swIn (k := 6) (t := 89) rfl hw (by decide) rfl rfl ?_
      refine rn_aload_n (pc' := 90) rfl rfl rfl ?_
      refine rn_getI (N := 1) (pc' := 93) rfl rfl rfl rfl (by decide) rfl (by first | assumption | decide | omega) ?_
      refine rn_ireturn rfl rfl ?_
      refine ⟨?_, rfl⟩
      unfold ctV
      first | (simp only [hw]; done) | (simp only [hw]; rfl) | (rw [if_neg (by omega), if_neg (by omega), if_neg (by omega), if_neg (by omega), if_neg (by omega), if_neg (by omega), if_neg (by omega), if_neg (by omega), if_neg (by omega), if_neg (by omega)])
    · refine rn_swIn (k := 7) (t := 94) rfl hw (by decide) rfl rfl ?_
      refine rn_aload_n (pc' := 95) rfl rfl rfl ?_
      refine rn_getI (N := 1) (pc' := 98) rfl rfl rfl rfl (by decide) rfl (by first | assumption | decide | omega) ?_
      refine rn_ireturn rfl rfl ?_
      refine ⟨?_, rfl⟩
      unfold ctV
      first | (simp only [hw]; done) | (simp only [hw]; rfl) | (rw [if_neg (by omega), if_neg (by omega), if_neg (by omega), if_neg (by omega), if_neg (by omega), if_neg (by omega), if_neg (by omega), if_neg (by omega), if_neg (by omega), if_neg (by omega)])
    · refine rn_swIn (k := 8) (t := 99) rfl hw (by decide) rfl rfl ?_
      refine rn_aload_n (pc' := 100) rfl rfl rfl ?_
      refine rn_getI (N := 1) (pc' := 103) rfl rfl rfl rfl (by decide) rfl (by first | assumption | decide | omega) ?_
      refine rn_ireturn rfl rfl ?_
      refine ⟨?_, rfl⟩
      unfold ctV
      first | (simp only [hw]; done) | (simp only [hw]; rfl) | (rw [if_neg (by omega), if_neg (by omega), if_neg (by omega), if_neg (by omega), if_neg (by omega), if_neg (by omega), if_neg (by omega), if_neg (by omega), if_neg (by omega), if_neg (by omega)])
    · refine rn_swIn (k := 9) (t := 104) rfl hw (by decide) rfl rfl ?_
      refine rn_aload_n (pc' := 105) rfl rfl rfl ?_
      refine rn_getI (N := 1) (pc' := 108) rfl rfl rfl rfl (by decide) rfl (by first | assumption | decide | omega) ?_
      refine rn_ireturn rfl rfl ?_
      refine ⟨?_, rfl⟩
      unfold ctV
      first | (simp only [hw]; done) | (simp only [hw]; rfl) | (rw [if_neg (by omega), if_neg (by omega), if_neg (by omega), if_neg (by omega), if_neg (by omega), if_neg (by omega), if_neg (by omega), if_neg (by omega), if_neg (by omega), if_neg (by omega)])
/-! the log -/
theorem r_logO {d : Nat} (M : xM) (i w : Int32) (hw : ¬ (0 ≤ w.toInt64 ∧ w.toInt64 ≤ 1)) : Rn (d + 1) 106 (0, xen 106 [vR 20 0, vI i, vI w], [], M) (fun r M' => r = some (vI (-1002)) ∧ M' = M) := by
  show Rn _ 106 (0, [some (vR 20 0), some (vI i), some (vI w), none], [], _) _
  refine rn_iload_n (pc' := 1) rfl rfl rfl ?_
  refine rn_i2l (pc' := 2) rfl rfl ?_
  refine rn_lconst (pc' := 3) (v := 0) rfl rfl rfl ?_
  refine rn_lconst (pc' := 4) (v := 1) rfl rfl rfl ?_
  refine rn_callS (pc' := 7) (as := [_, _, _]) rfl rfl rfl ⟨rfl, rfl, rfl⟩ (Nat.le_of_ble_eq_true rfl) (Nat.le_of_ble_eq_true rfl) rfl (r_in M _ 0 1) (fun r1 M1 hz => ?_)
  obtain ⟨rfl, hm_⟩ := hz
  refine rn_mem hm_ ?_
  clear hm_
  refine rn_if_ne (t := 14) (pc' := 10) rfl rfl rfl (fun h2 => ?_) (fun h2 => ?_)
  · exact absurd (ite01.mpr hw) h2
  · refine rn_sipush (pc' := 13) (v := (-1002)) rfl rfl (by decide) ?_
    refine rn_ireturn rfl rfl ?_
    exact ⟨rfl, rfl⟩
theorem lt40 {i : Nat} (h : i < 2 ^ 31) : (nI i < 40) ↔ i < 40 := nI_ltI h (by decide)
def lgN (g : Nat) : Nat := if g < 40 then g else 40
theorem r_logN {d g : Nat} (M : xM) (i w : Int32) (hw : 0 ≤ w.toInt64 ∧ w.toInt64 ≤ 1) (hg : M.1 20 0 31 = nI g) (hg31 : g < 2 ^ 31) (hi : ¬ (0 ≤ i.toInt64 ∧ i.toInt64 ≤ (nI (lgN g) - 1).toInt64)) : Rn (d + 1) 106 (0, xen 106 [vR 20 0, vI i, vI w], [], M) (fun r M' => r = some (vI (-1)) ∧ M' = M) := by
  have k1 : Rn (d + 1) 106 (35, [some (vR 20 0), some (vI i), some (vI w), none], [vI (nI (lgN g)), vL 0, vL i.toInt64], M) (fun r M' => r = some (vI (-1)) ∧ M' = M) := by
    refine rn_iconst (pc' := 36) (v := 1) rfl rfl (by decide) ?_
    refine rn_isub (pc' := 37) rfl rfl ?_
    refine rn_i2l (pc' := 38) rfl rfl ?_
    refine rn_callS (pc' := 41) (as := [_, _, _]) rfl rfl rfl ⟨rfl, rfl, rfl⟩ (Nat.le_of_ble_eq_true rfl) (Nat.le_of_ble_eq_true rfl) rfl (r_in M _ 0 _) (fun r1 M1 hz => ?_)
    obtain ⟨rfl, hm_⟩ := hz
    refine rn_mem hm_ ?_
    clear hm_
    refine rn_if_ne (t := 46) (pc' := 44) rfl rfl rfl (fun h2 => ?_) (fun h2 => ?_)
    · exact absurd (ite01.mpr hi) h2
    · refine rn_iconst (pc' := 45) (v := (-1)) rfl rfl (by decide) ?_
      refine rn_ireturn rfl rfl ?_
      exact ⟨rfl, rfl⟩
  show Rn _ 106 (0, [some (vR 20 0), some (vI i), some (vI w), none], [], _) _
  refine rn_iload_n (pc' := 1) rfl rfl rfl ?_
  refine rn_i2l (pc' := 2) rfl rfl ?_
  refine rn_lconst (pc' := 3) (v := 0) rfl rfl rfl ?_
  refine rn_lconst (pc' := 4) (v := 1) rfl rfl rfl ?_
  refine rn_callS (pc' := 7) (as := [_, _, _]) rfl rfl rfl ⟨rfl, rfl, rfl⟩ (Nat.le_of_ble_eq_true rfl) (Nat.le_of_ble_eq_true rfl) rfl (r_in M _ 0 1) (fun r1 M1 hz => ?_)
  obtain ⟨rfl, hm_⟩ := hz
  refine rn_mem hm_ ?_
  clear hm_
  refine rn_if_ne (t := 14) (pc' := 10) rfl rfl rfl (fun h2 => ?_) (fun h2 => ?_)
  · refine rn_iload_n (pc' := 15) rfl rfl rfl ?_
    refine rn_i2l (pc' := 16) rfl rfl ?_
    refine rn_lconst (pc' := 17) (v := 0) rfl rfl rfl ?_
    refine rn_aload_n (pc' := 18) rfl rfl rfl ?_
    refine rn_getI (N := 1) (pc' := 21) rfl rfl rfl rfl (by decide) rfl (by first | assumption | decide | omega) ?_
    refine rn_bipush (pc' := 23) (v := 40) rfl rfl (by decide) ?_
    refine rn_ic_ge (t := 33) (pc' := 26) rfl rfl rfl (fun h3 => ?_) (fun h3 => ?_)
    · refine rn_bipush (pc' := 35) (v := 40) rfl rfl (by decide) ?_
      first | (refine rn_topI (show M.1 20 0 31 = nI (lgN g) by rw [hg] at h3 ⊢; unfold lgN; rw [if_pos ((lt40 hg31).mp h3)]) ?_; exact k1) | (refine rn_topI (show (40 : Int32) = nI (lgN g) by rw [hg] at h3; unfold lgN; rw [if_neg (fun q => h3 ((lt40 hg31).mpr q))]; exact rfl) ?_; exact k1)
    · refine rn_aload_n (pc' := 27) rfl rfl rfl ?_
      refine rn_getI (N := 1) (pc' := 30) rfl rfl rfl rfl (by decide) rfl (by first | assumption | decide | omega) ?_
      refine rn_goto (pc' := 35) rfl rfl ?_
      first | (refine rn_topI (show M.1 20 0 31 = nI (lgN g) by rw [hg] at h3 ⊢; unfold lgN; rw [if_pos ((lt40 hg31).mp h3)]) ?_; exact k1) | (refine rn_topI (show (40 : Int32) = nI (lgN g) by rw [hg] at h3; unfold lgN; rw [if_neg (fun q => h3 ((lt40 hg31).mpr q))]; exact rfl) ?_; exact k1)
  · exact absurd hw (ite01.mp h2)
theorem r_logY {d g k : Nat} (M : xM) (w : Int32) (hw : 0 ≤ w.toInt64 ∧ w.toInt64 ≤ 1) (hg : M.1 20 0 31 = nI g) (hg31 : g < 2 ^ 31) (hk : k < lgN g) (hi : 0 ≤ (nI k).toInt64 ∧ (nI k).toInt64 ≤ (nI (lgN g) - 1).toInt64) : Rn (d + 1) 106 (0, xen 106 [vR 20 0, vI (nI k), vI w], [], M) (fun r M' => r = some (vI (if w = 0 then M.1 47 0 ((g - 1 - k) % 40) else M.1 48 0 ((g - 1 - k) % 40))) ∧ M' = M) := by
  have hkg : k < g := by unfold lgN at hk; split at hk <;> omega
  have e1 : (M.1 20 0 31 - 1 - nI k) = nI (g - 1 - k) := by
    rw [hg, show nI g - 1 = nI (g - 1) from pk_sub (a := g) (b := 1) (by omega), pk_sub (by omega)]
  have e2 : (M.1 20 0 31 - 1 - nI k) - (M.1 20 0 31 - 1 - nI k) / 40 * 40 = nI ((g - 1 - k) % 40) := rem40 e1 (by omega)
  have k1 : Rn (d + 1) 106 (35, [some (vR 20 0), some (vI (nI k)), some (vI w), none], [vI (nI (lgN g)), vL 0, vL (nI k).toInt64], M) (fun r M' => r = some (vI (if w = 0 then M.1 47 0 ((g - 1 - k) % 40) else M.1 48 0 ((g - 1 - k) % 40))) ∧ M' = M) := by
    refine rn_iconst (pc' := 36) (v := 1) rfl rfl (by decide) ?_
    refine rn_isub (pc' := 37) rfl rfl ?_
    refine rn_i2l (pc' := 38) rfl rfl ?_
    refine rn_callS (pc' := 41) (as := [_, _, _]) rfl rfl rfl ⟨rfl, rfl, rfl⟩ (Nat.le_of_ble_eq_true rfl) (Nat.le_of_ble_eq_true rfl) rfl (r_in M _ 0 _) (fun r1 M1 hz => ?_)
    obtain ⟨rfl, hm_⟩ := hz
    refine rn_mem hm_ ?_
    clear hm_
    refine rn_if_ne (t := 46) (pc' := 44) rfl rfl rfl (fun h2 => ?_) (fun h2 => ?_)
    · refine rn_aload_n (pc' := 47) rfl rfl rfl ?_
      refine rn_getI (N := 1) (pc' := 50) rfl rfl rfl rfl (by decide) rfl (by first | assumption | decide | omega) ?_
      refine rn_iconst (pc' := 51) (v := 1) rfl rfl (by decide) ?_
      refine rn_isub (pc' := 52) rfl rfl ?_
      refine rn_iload_n (pc' := 53) rfl rfl rfl ?_
      refine rn_isub (pc' := 54) rfl rfl ?_
      refine rn_bipush (pc' := 56) (v := 40) rfl rfl (by decide) ?_
      refine rn_irem (pc' := 57) rfl rfl (by decide) ?_
      refine rn_topI e2 ?_
      refine rn_istore_n (pc' := 58) rfl rfl rfl (Nat.le_of_ble_eq_true rfl) rfl ?_
      refine rn_iload_n (pc' := 59) rfl rfl rfl ?_
      refine rn_if_ne (t := 71) (pc' := 62) rfl rfl rfl (fun h3 => ?_) (fun h3 => ?_)
      · refine rn_aload_n (pc' := 72) rfl rfl rfl ?_
        refine rn_getF (N := 1) (t' := 48) (pc' := 75) rfl rfl rfl rfl rfl (by first | assumption | decide | omega) ?_
        refine rn_iload_n (pc' := 76) rfl rfl rfl ?_
        refine rn_iald (N := 1) (K := 40) (pc' := 77) rfl rfl ⟨rfl, rfl⟩ rfl (by first | assumption | decide | omega) rfl (by decide) rfl (Nat.mod_lt _ (by decide)) ?_
        refine rn_ireturn rfl rfl ?_
        first | exact ⟨by rw [if_pos h3], rfl⟩ | exact ⟨by rw [if_neg h3], rfl⟩
      · refine rn_aload_n (pc' := 63) rfl rfl rfl ?_
        refine rn_getF (N := 1) (t' := 47) (pc' := 66) rfl rfl rfl rfl rfl (by first | assumption | decide | omega) ?_
        refine rn_iload_n (pc' := 67) rfl rfl rfl ?_
        refine rn_iald (N := 1) (K := 40) (pc' := 68) rfl rfl ⟨rfl, rfl⟩ rfl (by first | assumption | decide | omega) rfl (by decide) rfl (Nat.mod_lt _ (by decide)) ?_
        refine rn_goto (pc' := 77) rfl rfl ?_
        refine rn_ireturn rfl rfl ?_
        first | exact ⟨by rw [if_pos h3], rfl⟩ | exact ⟨by rw [if_neg h3], rfl⟩
    · exact absurd hi (ite01.mp h2)
  show Rn _ 106 (0, [some (vR 20 0), some (vI (nI k)), some (vI w), none], [], _) _
  refine rn_iload_n (pc' := 1) rfl rfl rfl ?_
  refine rn_i2l (pc' := 2) rfl rfl ?_
  refine rn_lconst (pc' := 3) (v := 0) rfl rfl rfl ?_
  refine rn_lconst (pc' := 4) (v := 1) rfl rfl rfl ?_
  refine rn_callS (pc' := 7) (as := [_, _, _]) rfl rfl rfl ⟨rfl, rfl, rfl⟩ (Nat.le_of_ble_eq_true rfl) (Nat.le_of_ble_eq_true rfl) rfl (r_in M _ 0 1) (fun r1 M1 hz => ?_)
  obtain ⟨rfl, hm_⟩ := hz
  refine rn_mem hm_ ?_
  clear hm_
  refine rn_if_ne (t := 14) (pc' := 10) rfl rfl rfl (fun h2 => ?_) (fun h2 => ?_)
  · refine rn_iload_n (pc' := 15) rfl rfl rfl ?_
    refine rn_i2l (pc' := 16) rfl rfl ?_
    refine rn_lconst (pc' := 17) (v := 0) rfl rfl rfl ?_
    refine rn_aload_n (pc' := 18) rfl rfl rfl ?_
    refine rn_getI (N := 1) (pc' := 21) rfl rfl rfl rfl (by decide) rfl (by first | assumption | decide | omega) ?_
    refine rn_bipush (pc' := 23) (v := 40) rfl rfl (by decide) ?_
    refine rn_ic_ge (t := 33) (pc' := 26) rfl rfl rfl (fun h3 => ?_) (fun h3 => ?_)
    · refine rn_bipush (pc' := 35) (v := 40) rfl rfl (by decide) ?_
      first | (refine rn_topI (show M.1 20 0 31 = nI (lgN g) by rw [hg] at h3 ⊢; unfold lgN; rw [if_pos ((lt40 hg31).mp h3)]) ?_; exact k1) | (refine rn_topI (show (40 : Int32) = nI (lgN g) by rw [hg] at h3; unfold lgN; rw [if_neg (fun q => h3 ((lt40 hg31).mpr q))]; exact rfl) ?_; exact k1)
    · refine rn_aload_n (pc' := 27) rfl rfl rfl ?_
      refine rn_getI (N := 1) (pc' := 30) rfl rfl rfl rfl (by decide) rfl (by first | assumption | decide | omega) ?_
      refine rn_goto (pc' := 35) rfl rfl ?_
      first | (refine rn_topI (show M.1 20 0 31 = nI (lgN g) by rw [hg] at h3 ⊢; unfold lgN; rw [if_pos ((lt40 hg31).mp h3)]) ?_; exact k1) | (refine rn_topI (show (40 : Int32) = nI (lgN g) by rw [hg] at h3; unfold lgN; rw [if_neg (fun q => h3 ((lt40 hg31).mpr q))]; exact rfl) ?_; exact k1)
  · exact absurd hw (ite01.mp h2)
/-! boot -/
theorem r_bootU {d : Nat} (M : xM) (p : Int32) (hp : ¬ isPr p) : Rn (d + 1) 76 (0, xen 76 [vR 20 0, vI p], [], M) (fun r M' => r = some (vI (-1001)) ∧ M' = M) := by
  show Rn _ 76 (0, [some (vR 20 0), some (vI p), none], [], _) _
  refine rn_iload_n (pc' := 1) rfl rfl rfl ?_
  refine rn_i2l (pc' := 2) rfl rfl ?_
  refine rn_lconst (pc' := 3) (v := 0) rfl rfl rfl ?_
  refine rn_ldc2_w (pc' := 6) (v := 15) rfl rfl rfl ?_
  refine rn_callS (pc' := 9) (as := [_, _, _]) rfl rfl rfl ⟨rfl, rfl, rfl⟩ (Nat.le_of_ble_eq_true rfl) (Nat.le_of_ble_eq_true rfl) rfl (r_in M _ 0 15) (fun r1 M1 hz => ?_)
  obtain ⟨rfl, hm_⟩ := hz
  refine rn_mem hm_ ?_
  clear hm_
  refine rn_if_ne (t := 16) (pc' := 12) rfl rfl rfl (fun h2 => ?_) (fun h2 => ?_)
  · exact absurd (ite01.mpr hp) h2
  · refine rn_sipush (pc' := 15) (v := (-1001)) rfl rfl (by decide) ?_
    refine rn_ireturn rfl rfl ?_
    exact ⟨rfl, rfl⟩
theorem r_bootS {d e : Nat} (M : xM) (p : Int32) (hp : isPr p) (h : eo M 1 = some e) : Rn (d + 1) 76 (0, xen 76 [vR 20 0, vI p], [], M) (fun r M' => r = some (vI (-1003)) ∧ M' = M) := by
  have hpe := nI_pos (n := e) (by have := eo_lt h; omega)
  show Rn _ 76 (0, [some (vR 20 0), some (vI p), none], [], _) _
  refine rn_iload_n (pc' := 1) rfl rfl rfl ?_
  refine rn_i2l (pc' := 2) rfl rfl ?_
  refine rn_lconst (pc' := 3) (v := 0) rfl rfl rfl ?_
  refine rn_ldc2_w (pc' := 6) (v := 15) rfl rfl rfl ?_
  refine rn_callS (pc' := 9) (as := [_, _, _]) rfl rfl rfl ⟨rfl, rfl, rfl⟩ (Nat.le_of_ble_eq_true rfl) (Nat.le_of_ble_eq_true rfl) rfl (r_in M _ 0 15) (fun r1 M1 hz => ?_)
  obtain ⟨rfl, hm_⟩ := hz
  refine rn_mem hm_ ?_
  clear hm_
  refine rn_if_ne (t := 16) (pc' := 12) rfl rfl rfl (fun h2 => ?_) (fun h2 => ?_)
  · refine rn_aload_n (pc' := 17) rfl rfl rfl ?_
    refine rn_iconst (pc' := 18) (v := 1) rfl rfl (by decide) ?_
    refine rn_callV (pc' := 21) (as := [_]) rfl rfl rfl ⟨Nat.le_of_ble_eq_true rfl, rfl, rfl⟩ rfl (by first | assumption | decide | omega) (Nat.le_of_ble_eq_true rfl) (Nat.le_of_ble_eq_true rfl) rfl (r_entryOf M 1) (fun r3 M3 hz => ?_)
    obtain ⟨rfl, hm_⟩ := hz
    refine rn_mem hm_ ?_
    clear hm_
    refine rn_topI (oI_some h) ?_
    refine rn_if_lt (t := 28) (pc' := 24) rfl rfl rfl (fun h4 => ?_) (fun h4 => ?_)
    · exact absurd h4 hpe
    · refine rn_sipush (pc' := 27) (v := (-1003)) rfl rfl (by decide) ?_
      refine rn_ireturn rfl rfl ?_
      exact ⟨rfl, rfl⟩
  · exact absurd hp (ite01.mp h2)
def f_boot1 (M : xM) (p : Int32) : xM := mI (mI (mJ (mI (mI (mI (mI (mI (mI (mI (mI (mI M 25 0 0 1) 26 0 0 0) 27 0 0 1) 28 0 0 0) 29 0 0 p) 30 0 0 0) 33 0 0 0) 34 0 0 0) 35 0 0 0) 38 0 0 0) 39 0 0 0) 42 0 0 0
def f_boot2 (M : xM) (p : Int32) : xM := mI (f_boot1 M p) 41 0 0 0
def z0F (r : Nat → Int32) (i : Nat) : Nat → Int32 := fun k => if k < i then 0 else r k
theorem z0_0 (r : Nat → Int32) : z0F r 0 = r := by funext k; unfold z0F; rw [if_neg (Nat.not_lt_zero k)]
theorem z0_S (r : Nat → Int32) (i : Nat) : upd (z0F r i) i 0 = z0F r (i + 1) := by
  funext k
  unfold upd z0F
  by_cases hk : k = i
  · subst hk; simp
  · by_cases hk2 : k < i
    · rw [if_neg hk, if_pos hk2, if_pos (by omega)]
    · rw [if_neg hk, if_neg hk2, if_neg (by omega)]
def f_bootA (M : xM) : xM := mRow M 25 0 (z0F (M.1 25 0) 24)
def f_bootB (N : xM) : xM := mRow (mRow N 31 0 (z0F (N.1 31 0) 8)) 32 0 (z0F ((mRow N 31 0 (z0F (N.1 31 0) 8)).1 32 0) 21)
def f_boot (M : xM) (p : Int32) : xM := mI (mI (f_bootB (f_boot2 (f_bootA M) p)) 20 0 24 1) 20 0 25 23
theorem r_bootY {d : Nat} (M : xM) (p : Int32) (hp : isPr p) (h : eo M 1 = none) : Rn (d + 1) 76 (0, xen 76 [vR 20 0, vI p], [], M) (fun r M' => r = some (vI 1) ∧ M' = f_boot M p) := by
  have ho := oI_neg (o := eo M 1) (fun e h => eo_lt h)
  unfold f_boot
  generalize hN : f_boot2 (f_bootA M) p = N
  have s3 : ∀ m i : Nat, i + m = 21 → ∀ A : xM, A = mRow N 31 0 (z0F (N.1 31 0) 8) → Rn (d + 1) 76 (163, [some (vR 20 0), some (vI p), some (vI (nI i))], [], mRow A 32 0 (z0F (A.1 32 0) i)) (fun r M' => r = some (vI 1) ∧ M' = mI (mI (f_bootB N) 20 0 24 1) 20 0 25 23) := by
    intro m
    induction m with
    | zero =>
      intro i hi A hA
      obtain rfl : i = 21 := by omega
      subst hA
      refine rn_iload_n (pc' := 164) rfl rfl rfl ?_
      refine rn_bipush (pc' := 166) (v := 21) rfl rfl (by decide) ?_
      refine rn_ic_ge (t := 182) (pc' := 169) rfl rfl rfl (fun h1 => ?_) (fun h1 => ?_)
      · refine rn_aload_n (pc' := 183) rfl rfl rfl ?_
        refine rn_iconst (pc' := 184) (v := 1) rfl rfl (by decide) ?_
        refine rn_putI (N := 1) (pc' := 187) rfl rfl rfl rfl rfl (by first | assumption | decide | omega) ?_
        refine rn_aload_n (pc' := 188) rfl rfl rfl ?_
        refine rn_bipush (pc' := 190) (v := 23) rfl rfl (by decide) ?_
        refine rn_putI (N := 1) (pc' := 193) rfl rfl rfl rfl rfl (by first | assumption | decide | omega) ?_
        refine rn_iconst (pc' := 194) (v := 1) rfl rfl (by decide) ?_
        refine rn_ireturn rfl rfl ?_
        exact ⟨rfl, rfl⟩
      · exact absurd ((lt21 (by omega)).mp h1) (by omega)
    | succ m ih =>
      intro i hi A hA
      have hi21 : i < 21 := by omega
      refine rn_iload_n (pc' := 164) rfl rfl rfl ?_
      refine rn_bipush (pc' := 166) (v := 21) rfl rfl (by decide) ?_
      refine rn_ic_ge (t := 182) (pc' := 169) rfl rfl rfl (fun h1 => ?_) (fun h1 => ?_)
      · exact absurd ((lt21 (by omega)).mpr hi21) h1
      · refine rn_aload_n (pc' := 170) rfl rfl rfl ?_
        refine rn_getF (N := 1) (t' := 32) (pc' := 173) rfl rfl rfl rfl rfl (by first | assumption | decide | omega) ?_
        refine rn_iload_n (pc' := 174) rfl rfl rfl ?_
        refine rn_iconst (pc' := 175) (v := 0) rfl rfl (by decide) ?_
        refine rn_iast (N := 1) (K := 504) (pc' := 176) rfl rfl ⟨rfl, rfl⟩ rfl (by first | assumption | decide | omega) rfl (by decide) rfl (by first | assumption | decide | omega) ?_
        rw [mRow_put, z0_S]
        refine rn_iinc (pc' := 179) rfl rfl rfl (nI_inc _) rfl (Nat.le_of_ble_eq_true rfl) rfl ?_
        refine rn_goto (pc' := 163) rfl rfl ?_
        exact ih (i + 1) (by omega) A hA
  have s2 : ∀ m i : Nat, i + m = 8 → Rn (d + 1) 76 (142, [some (vR 20 0), some (vI p), some (vI (nI i))], [], mRow N 31 0 (z0F (N.1 31 0) i)) (fun r M' => r = some (vI 1) ∧ M' = mI (mI (f_bootB N) 20 0 24 1) 20 0 25 23) := by
    intro m
    induction m with
    | zero =>
      intro i hi
      obtain rfl : i = 8 := by omega
      have s3 := s3 21 0 rfl _ rfl
      rw [z0_0, mRow_id] at s3
      refine rn_iload_n (pc' := 143) rfl rfl rfl ?_
      refine rn_bipush (pc' := 145) (v := 8) rfl rfl (by decide) ?_
      refine rn_ic_ge (t := 161) (pc' := 148) rfl rfl rfl (fun h1 => ?_) (fun h1 => ?_)
      · refine rn_iconst (pc' := 162) (v := 0) rfl rfl (by decide) ?_
        refine rn_istore_n (pc' := 163) rfl rfl rfl (Nat.le_of_ble_eq_true rfl) rfl ?_
        exact s3
      · exact absurd ((lt8 (by omega)).mp h1) (by omega)
    | succ m ih =>
      intro i hi
      have hi21 : i < 8 := by omega
      refine rn_iload_n (pc' := 143) rfl rfl rfl ?_
      refine rn_bipush (pc' := 145) (v := 8) rfl rfl (by decide) ?_
      refine rn_ic_ge (t := 161) (pc' := 148) rfl rfl rfl (fun h1 => ?_) (fun h1 => ?_)
      · exact absurd ((lt8 (by omega)).mpr hi21) h1
      · refine rn_aload_n (pc' := 149) rfl rfl rfl ?_
        refine rn_getF (N := 1) (t' := 31) (pc' := 152) rfl rfl rfl rfl rfl (by first | assumption | decide | omega) ?_
        refine rn_iload_n (pc' := 153) rfl rfl rfl ?_
        refine rn_iconst (pc' := 154) (v := 0) rfl rfl (by decide) ?_
        refine rn_iast (N := 1) (K := 192) (pc' := 155) rfl rfl ⟨rfl, rfl⟩ rfl (by first | assumption | decide | omega) rfl (by decide) rfl (by first | assumption | decide | omega) ?_
        rw [mRow_put, z0_S]
        refine rn_iinc (pc' := 158) rfl rfl rfl (nI_inc _) rfl (Nat.le_of_ble_eq_true rfl) rfl ?_
        refine rn_goto (pc' := 142) rfl rfl ?_
        exact ih (i + 1) (by omega)
  have s2 := s2 8 0 rfl
  rw [z0_0, mRow_id, ← hN] at s2
  rw [← hN]
  have s1 : ∀ m i : Nat, i + m = 24 → Rn (d + 1) 76 (30, [some (vR 20 0), some (vI p), some (vI (nI i))], [], mRow M 25 0 (z0F (M.1 25 0) i)) (fun r M' => r = some (vI 1) ∧ M' = mI (mI (f_bootB (f_boot2 (f_bootA M) p)) 20 0 24 1) 20 0 25 23) := by
    intro m
    induction m with
    | zero =>
      intro i hi
      obtain rfl : i = 24 := by omega
      refine rn_iload_n (pc' := 31) rfl rfl rfl ?_
      refine rn_bipush (pc' := 33) (v := 24) rfl rfl (by decide) ?_
      refine rn_ic_ge (t := 49) (pc' := 36) rfl rfl rfl (fun h1 => ?_) (fun h1 => ?_)
      · refine rn_aload_n (pc' := 50) rfl rfl rfl ?_
        refine rn_getF (N := 1) (t' := 25) (pc' := 53) rfl rfl rfl rfl rfl (by first | assumption | decide | omega) ?_
        refine rn_iconst (pc' := 54) (v := 0) rfl rfl (by decide) ?_
        refine rn_iconst (pc' := 55) (v := 1) rfl rfl (by decide) ?_
        refine rn_iast (k := 0) (N := 1) (K := 24) (pc' := 56) rfl rfl ⟨rfl, rfl⟩ rfl (by first | assumption | decide | omega) rfl (by decide) (by decide) (by first | assumption | decide | omega) ?_
        refine rn_aload_n (pc' := 57) rfl rfl rfl ?_
        refine rn_getF (N := 1) (t' := 26) (pc' := 60) rfl rfl rfl rfl rfl (by first | assumption | decide | omega) ?_
        refine rn_iconst (pc' := 61) (v := 0) rfl rfl (by decide) ?_
        refine rn_iconst (pc' := 62) (v := 0) rfl rfl (by decide) ?_
        refine rn_iast (k := 0) (N := 1) (K := 24) (pc' := 63) rfl rfl ⟨rfl, rfl⟩ rfl (by first | assumption | decide | omega) rfl (by decide) (by decide) (by first | assumption | decide | omega) ?_
        refine rn_aload_n (pc' := 64) rfl rfl rfl ?_
        refine rn_getF (N := 1) (t' := 27) (pc' := 67) rfl rfl rfl rfl rfl (by first | assumption | decide | omega) ?_
        refine rn_iconst (pc' := 68) (v := 0) rfl rfl (by decide) ?_
        refine rn_iconst (pc' := 69) (v := 1) rfl rfl (by decide) ?_
        refine rn_iast (k := 0) (N := 1) (K := 24) (pc' := 70) rfl rfl ⟨rfl, rfl⟩ rfl (by first | assumption | decide | omega) rfl (by decide) (by decide) (by first | assumption | decide | omega) ?_
        refine rn_aload_n (pc' := 71) rfl rfl rfl ?_
        refine rn_getF (N := 1) (t' := 28) (pc' := 74) rfl rfl rfl rfl rfl (by first | assumption | decide | omega) ?_
        refine rn_iconst (pc' := 75) (v := 0) rfl rfl (by decide) ?_
        refine rn_iconst (pc' := 76) (v := 0) rfl rfl (by decide) ?_
        refine rn_iast (k := 0) (N := 1) (K := 24) (pc' := 77) rfl rfl ⟨rfl, rfl⟩ rfl (by first | assumption | decide | omega) rfl (by decide) (by decide) (by first | assumption | decide | omega) ?_
        refine rn_aload_n (pc' := 78) rfl rfl rfl ?_
        refine rn_getF (N := 1) (t' := 29) (pc' := 81) rfl rfl rfl rfl rfl (by first | assumption | decide | omega) ?_
        refine rn_iconst (pc' := 82) (v := 0) rfl rfl (by decide) ?_
        refine rn_iload_n (pc' := 83) rfl rfl rfl ?_
        refine rn_iast (k := 0) (N := 1) (K := 24) (pc' := 84) rfl rfl ⟨rfl, rfl⟩ rfl (by first | assumption | decide | omega) rfl (by decide) (by decide) (by first | assumption | decide | omega) ?_
        refine rn_aload_n (pc' := 85) rfl rfl rfl ?_
        refine rn_getF (N := 1) (t' := 30) (pc' := 88) rfl rfl rfl rfl rfl (by first | assumption | decide | omega) ?_
        refine rn_iconst (pc' := 89) (v := 0) rfl rfl (by decide) ?_
        refine rn_iconst (pc' := 90) (v := 0) rfl rfl (by decide) ?_
        refine rn_iast (k := 0) (N := 1) (K := 24) (pc' := 91) rfl rfl ⟨rfl, rfl⟩ rfl (by first | assumption | decide | omega) rfl (by decide) (by decide) (by first | assumption | decide | omega) ?_
        refine rn_aload_n (pc' := 92) rfl rfl rfl ?_
        refine rn_getF (N := 1) (t' := 33) (pc' := 95) rfl rfl rfl rfl rfl (by first | assumption | decide | omega) ?_
        refine rn_iconst (pc' := 96) (v := 0) rfl rfl (by decide) ?_
        refine rn_iconst (pc' := 97) (v := 0) rfl rfl (by decide) ?_
        refine rn_iast (k := 0) (N := 1) (K := 24) (pc' := 98) rfl rfl ⟨rfl, rfl⟩ rfl (by first | assumption | decide | omega) rfl (by decide) (by decide) (by first | assumption | decide | omega) ?_
        refine rn_aload_n (pc' := 99) rfl rfl rfl ?_
        refine rn_getF (N := 1) (t' := 34) (pc' := 102) rfl rfl rfl rfl rfl (by first | assumption | decide | omega) ?_
        refine rn_iconst (pc' := 103) (v := 0) rfl rfl (by decide) ?_
        refine rn_iconst (pc' := 104) (v := 0) rfl rfl (by decide) ?_
        refine rn_iast (k := 0) (N := 1) (K := 24) (pc' := 105) rfl rfl ⟨rfl, rfl⟩ rfl (by first | assumption | decide | omega) rfl (by decide) (by decide) (by first | assumption | decide | omega) ?_
        refine rn_aload_n (pc' := 106) rfl rfl rfl ?_
        refine rn_getF (N := 1) (t' := 35) (pc' := 109) rfl rfl rfl rfl rfl (by first | assumption | decide | omega) ?_
        refine rn_iconst (pc' := 110) (v := 0) rfl rfl (by decide) ?_
        refine rn_iconst (pc' := 111) (v := 0) rfl rfl (by decide) ?_
        refine rn_iast (k := 0) (N := 1) (K := 24) (pc' := 112) rfl rfl ⟨rfl, rfl⟩ rfl (by first | assumption | decide | omega) rfl (by decide) (by decide) (by first | assumption | decide | omega) ?_
        refine rn_aload_n (pc' := 113) rfl rfl rfl ?_
        refine rn_getF (N := 1) (t' := 38) (pc' := 116) rfl rfl rfl rfl rfl (by first | assumption | decide | omega) ?_
        refine rn_iconst (pc' := 117) (v := 0) rfl rfl (by decide) ?_
        refine rn_lconst (pc' := 118) (v := 0) rfl rfl rfl ?_
        refine rn_last (k := 0) (N := 1) (K := 24) (pc' := 119) rfl rfl ⟨rfl, rfl⟩ rfl (by first | assumption | decide | omega) rfl (by decide) (by decide) (by first | assumption | decide | omega) ?_
        refine rn_aload_n (pc' := 120) rfl rfl rfl ?_
        refine rn_getF (N := 1) (t' := 39) (pc' := 123) rfl rfl rfl rfl rfl (by first | assumption | decide | omega) ?_
        refine rn_iconst (pc' := 124) (v := 0) rfl rfl (by decide) ?_
        refine rn_iconst (pc' := 125) (v := 0) rfl rfl (by decide) ?_
        refine rn_iast (k := 0) (N := 1) (K := 24) (pc' := 126) rfl rfl ⟨rfl, rfl⟩ rfl (by first | assumption | decide | omega) rfl (by decide) (by decide) (by first | assumption | decide | omega) ?_
        refine rn_aload_n (pc' := 127) rfl rfl rfl ?_
        refine rn_getF (N := 1) (t' := 42) (pc' := 130) rfl rfl rfl rfl rfl (by first | assumption | decide | omega) ?_
        refine rn_iconst (pc' := 131) (v := 0) rfl rfl (by decide) ?_
        refine rn_iconst (pc' := 132) (v := 0) rfl rfl (by decide) ?_
        refine rn_bast (k := 0) (N := 1) (K := 24) (pc' := 133) rfl rfl ⟨rfl, rfl⟩ rfl (by first | assumption | decide | omega) rfl (by decide) (by decide) (by first | assumption | decide | omega) (by decide) ?_
        refine rn_aload_n (pc' := 134) rfl rfl rfl ?_
        refine rn_getF (N := 1) (t' := 41) (pc' := 137) rfl rfl rfl rfl rfl (by first | assumption | decide | omega) ?_
        refine rn_iconst (pc' := 138) (v := 0) rfl rfl (by decide) ?_
        refine rn_iconst (pc' := 139) (v := 0) rfl rfl (by decide) ?_
        refine rn_bast (k := 0) (N := 1) (K := 24) (pc' := 140) rfl rfl ⟨rfl, rfl⟩ rfl (by first | assumption | decide | omega) rfl (by decide) (by decide) (by first | assumption | decide | omega) (by decide) ?_
        refine rn_iconst (pc' := 141) (v := 0) rfl rfl (by decide) ?_
        refine rn_istore_n (pc' := 142) rfl rfl rfl (Nat.le_of_ble_eq_true rfl) rfl ?_
        exact s2
      · exact absurd ((lt24 (by omega)).mp h1) (by omega)
    | succ m ih =>
      intro i hi
      have hi21 : i < 24 := by omega
      refine rn_iload_n (pc' := 31) rfl rfl rfl ?_
      refine rn_bipush (pc' := 33) (v := 24) rfl rfl (by decide) ?_
      refine rn_ic_ge (t := 49) (pc' := 36) rfl rfl rfl (fun h1 => ?_) (fun h1 => ?_)
      · exact absurd ((lt24 (by omega)).mpr hi21) h1
      · refine rn_aload_n (pc' := 37) rfl rfl rfl ?_
        refine rn_getF (N := 1) (t' := 25) (pc' := 40) rfl rfl rfl rfl rfl (by first | assumption | decide | omega) ?_
        refine rn_iload_n (pc' := 41) rfl rfl rfl ?_
        refine rn_iconst (pc' := 42) (v := 0) rfl rfl (by decide) ?_
        refine rn_iast (N := 1) (K := 24) (pc' := 43) rfl rfl ⟨rfl, rfl⟩ rfl (by first | assumption | decide | omega) rfl (by decide) rfl (by first | assumption | decide | omega) ?_
        rw [mRow_put, z0_S]
        refine rn_iinc (pc' := 46) rfl rfl rfl (nI_inc _) rfl (Nat.le_of_ble_eq_true rfl) rfl ?_
        refine rn_goto (pc' := 30) rfl rfl ?_
        exact ih (i + 1) (by omega)
  have s1 := s1 24 0 rfl
  rw [z0_0, mRow_id] at s1
  show Rn _ 76 (0, [some (vR 20 0), some (vI p), none], [], _) _
  refine rn_iload_n (pc' := 1) rfl rfl rfl ?_
  refine rn_i2l (pc' := 2) rfl rfl ?_
  refine rn_lconst (pc' := 3) (v := 0) rfl rfl rfl ?_
  refine rn_ldc2_w (pc' := 6) (v := 15) rfl rfl rfl ?_
  refine rn_callS (pc' := 9) (as := [_, _, _]) rfl rfl rfl ⟨rfl, rfl, rfl⟩ (Nat.le_of_ble_eq_true rfl) (Nat.le_of_ble_eq_true rfl) rfl (r_in M _ 0 15) (fun r1 M1 hz => ?_)
  obtain ⟨rfl, hm_⟩ := hz
  refine rn_mem hm_ ?_
  clear hm_
  refine rn_if_ne (t := 16) (pc' := 12) rfl rfl rfl (fun h2 => ?_) (fun h2 => ?_)
  · refine rn_aload_n (pc' := 17) rfl rfl rfl ?_
    refine rn_iconst (pc' := 18) (v := 1) rfl rfl (by decide) ?_
    refine rn_callV (pc' := 21) (as := [_]) rfl rfl rfl ⟨Nat.le_of_ble_eq_true rfl, rfl, rfl⟩ rfl (by first | assumption | decide | omega) (Nat.le_of_ble_eq_true rfl) (Nat.le_of_ble_eq_true rfl) rfl (r_entryOf M 1) (fun r3 M3 hz => ?_)
    obtain ⟨rfl, hm_⟩ := hz
    refine rn_mem hm_ ?_
    clear hm_
    refine rn_if_lt (t := 28) (pc' := 24) rfl rfl rfl (fun h4 => ?_) (fun h4 => ?_)
    · refine rn_iconst (pc' := 29) (v := 0) rfl rfl (by decide) ?_
      refine rn_istore_n (pc' := 30) rfl rfl rfl (Nat.le_of_ble_eq_true rfl) rfl ?_
      exact s1
    · exact absurd (ho.mpr h) h4
  · exact absurd hp (ite01.mp h2)
end
section
/-! THE REFERENCE: a turn, a tick, kill from outside -/
def trF (M : xM) (t : Nat) : Nat → Nat → Option Nat
  | 0, _ => none
  | m + 1, k => if 0 < rpid M ((t + k) % 24) ∧ rste M ((t + k) % 24) = 0 then some ((t + k) % 24) else trF M t m (k + 1)
def tr (M : xM) (t : Nat) : Option Nat := trF M t 24 1
theorem trF_lt {M : xM} {t e : Nat} : ∀ {m k : Nat}, trF M t m k = some e → e < 24 := by
  intro m
  induction m with
  | zero => intro k h; cases h
  | succ m ih =>
    intro k h
    unfold trF at h
    split at h
    · cases h; exact Nat.mod_lt _ (by decide)
    · exact ih h
theorem rem24 (t k : Nat) (h : t + k < 2 ^ 31) : (nI t + nI k) - (nI t + nI k) / 24 * 24 = nI ((t + k) % 24) := by
  rw [nI_add]
  exact pk_rem h (d := 24) (by decide) (by decide)
/-- which entry has the turn -/
theorem r_ttFind {d t : Nat} (M : xM) (Z : Option xV → xM → Prop) (ht : M.1 20 0 25 = nI t) (ht24 : t < 24) (k : ∀ x2 x3, Rn d 88 (54, [some (vR 20 0), some (vI (oI (tr M t))), x2, x3, none], [], M) Z) : Rn d 88 (0, xen 88 [vR 20 0], [], M) Z := by
  have ex : ∀ (e i : Nat) (x3 : Option xV), e < 24 → 1 ≤ i → i ≤ 25 → tr M t = some e → Rn d 88 (4, [some (vR 20 0), some (vI (nI e)), some (vI (nI i)), x3, none], [], M) Z := by
    intro e i x3 he hi hi2 hq
    have k := k (some (vI (nI i))) x3
    rw [hq] at k
    refine rn_iload_n (pc' := 5) rfl rfl rfl ?_
    refine rn_bipush (pc' := 7) (v := 24) rfl rfl (by decide) ?_
    refine rn_ic_gt (t := 54) (pc' := 10) rfl rfl rfl (fun h1 => ?_) (fun h1 => ?_)
    · exact k
    · refine rn_iload_n (pc' := 11) rfl rfl rfl ?_
      refine rn_if_ge (t := 54) (pc' := 14) rfl rfl rfl (fun h2 => ?_) (fun h2 => ?_)
      · exact k
      · exact absurd h2 (nI_pos (by omega))
  have loop : ∀ (m i : Nat) (x3 : Option xV), i + m = 25 → 1 ≤ i → trF M t m i = tr M t → Rn d 88 (4, [some (vR 20 0), some (vI (-1)), some (vI (nI i)), x3, none], [], M) Z := by
    intro m
    induction m with
    | zero =>
      intro i x3 hi hi1 hq
      obtain rfl : i = 25 := by omega
      have k := k (some (vI (nI 25))) x3
      rw [← hq] at k
      refine rn_iload_n (pc' := 5) rfl rfl rfl ?_
      refine rn_bipush (pc' := 7) (v := 24) rfl rfl (by decide) ?_
      refine rn_ic_gt (t := 54) (pc' := 10) rfl rfl rfl (fun h1 => ?_) (fun h1 => ?_)
      · exact k
      · exact absurd ((nI_ltI (a := 24) (b := 25) (by decide) (by decide)).mpr (by omega)) h1
    | succ m ih =>
      intro i x3 hi hi1 hq
      have hi24 : ¬ (24 : Int32) < nI i := fun q => absurd ((nI_ltI (a := 24) (b := i) (by decide) (by omega)).mp q) (by omega)
      have h9 : (t + i) % 24 < 24 := Nat.mod_lt _ (by decide)
      unfold trF at hq
      have er : (M.1 20 0 25 + nI i) - (M.1 20 0 25 + nI i) / 24 * 24 = nI ((t + i) % 24) := by rw [ht]; exact rem24 t i (by omega)
      have no : ¬ (0 < rpid M ((t + i) % 24) ∧ rste M ((t + i) % 24) = 0) → Rn d 88 (46, [some (vR 20 0), some (vI (-1)), some (vI (nI i)), some (vI (nI ((t + i) % 24))), none], [], M) Z := by
        intro hc
        rw [if_neg hc] at hq
        refine rn_iload_n (pc' := 47) rfl rfl rfl ?_
        refine rn_istore_n (pc' := 48) rfl rfl rfl (Nat.le_of_ble_eq_true rfl) rfl ?_
        refine rn_iinc (pc' := 51) rfl rfl rfl (nI_inc _) rfl (Nat.le_of_ble_eq_true rfl) rfl ?_
        refine rn_goto (pc' := 4) rfl rfl ?_
        exact ih (i + 1) _ (by omega) (by omega) hq
      refine rn_iload_n (pc' := 5) rfl rfl rfl ?_
      refine rn_bipush (pc' := 7) (v := 24) rfl rfl (by decide) ?_
      refine rn_ic_gt (t := 54) (pc' := 10) rfl rfl rfl (fun h1 => ?_) (fun h1 => ?_)
      · first | exact absurd h1 hi24 | exact absurd (show (-1 : Int32) < 0 by decide) h2
      · refine rn_iload_n (pc' := 11) rfl rfl rfl ?_
        refine rn_if_ge (t := 54) (pc' := 14) rfl rfl rfl (fun h2 => ?_) (fun h2 => ?_)
        · first | exact absurd h1 hi24 | exact absurd (show (-1 : Int32) < 0 by decide) h2
        · refine rn_aload_n (pc' := 15) rfl rfl rfl ?_
          refine rn_getI (N := 1) (pc' := 18) rfl rfl rfl rfl (by decide) rfl (by first | assumption | decide | omega) ?_
          refine rn_iload_n (pc' := 19) rfl rfl rfl ?_
          refine rn_iadd (pc' := 20) rfl rfl ?_
          refine rn_bipush (pc' := 22) (v := 24) rfl rfl (by decide) ?_
          refine rn_irem (pc' := 23) rfl rfl (by decide) ?_
          refine rn_topI er ?_
          refine rn_istore_n (pc' := 24) rfl rfl rfl (Nat.le_of_ble_eq_true rfl) rfl ?_
          refine rn_aload_n (pc' := 25) rfl rfl rfl ?_
          refine rn_getF (N := 1) (t' := 25) (pc' := 28) rfl rfl rfl rfl rfl (by first | assumption | decide | omega) ?_
          refine rn_iload_n (pc' := 29) rfl rfl rfl ?_
          refine rn_iald (N := 1) (K := 24) (pc' := 30) rfl rfl ⟨rfl, rfl⟩ rfl (by first | assumption | decide | omega) rfl (by decide) rfl (by first | assumption | decide | omega) ?_
          refine rn_if_le (t := 46) (pc' := 33) rfl rfl rfl (fun h3 => ?_) (fun h3 => ?_)
          · first | exact no (fun q => absurd q.2 h4) | exact no (fun q => absurd q.1 h3)
          · refine rn_aload_n (pc' := 34) rfl rfl rfl ?_
            refine rn_getF (N := 1) (t' := 28) (pc' := 37) rfl rfl rfl rfl rfl (by first | assumption | decide | omega) ?_
            refine rn_iload_n (pc' := 38) rfl rfl rfl ?_
            refine rn_iald (N := 1) (K := 24) (pc' := 39) rfl rfl ⟨rfl, rfl⟩ rfl (by first | assumption | decide | omega) rfl (by decide) rfl (by first | assumption | decide | omega) ?_
            refine rn_if_ne (t := 46) (pc' := 42) rfl rfl rfl (fun h4 => ?_) (fun h4 => ?_)
            · first | exact no (fun q => absurd q.2 h4) | exact no (fun q => absurd q.1 h3)
            · refine rn_iload_n (pc' := 43) rfl rfl rfl ?_
              refine rn_goto (pc' := 47) rfl rfl ?_
              refine rn_istore_n (pc' := 48) rfl rfl rfl (Nat.le_of_ble_eq_true rfl) rfl ?_
              refine rn_iinc (pc' := 51) rfl rfl rfl (nI_inc _) rfl (Nat.le_of_ble_eq_true rfl) rfl ?_
              refine rn_goto (pc' := 4) rfl rfl ?_
              (rw [if_pos ⟨h3, h4⟩] at hq; exact ex _ (i + 1) _ h9 (by omega) (by omega) hq.symm)
  show Rn _ 88 (0, [some (vR 20 0), none, none, none, none], [], _) _
  refine rn_iconst (pc' := 1) (v := (-1)) rfl rfl (by decide) ?_
  refine rn_istore_n (pc' := 2) rfl rfl rfl (Nat.le_of_ble_eq_true rfl) rfl ?_
  refine rn_iconst (pc' := 3) (v := 1) rfl rfl (by decide) ?_
  refine rn_istore_n (pc' := 4) rfl rfl rfl (Nat.le_of_ble_eq_true rfl) rfl ?_
  exact loop 24 1 none rfl (Nat.le_refl _) rfl
theorem r_ttN {d t : Nat} (M : xM) (ht : M.1 20 0 25 = nI t) (ht24 : t < 24) (h : tr M t = none) : Rn d 88 (0, xen 88 [vR 20 0], [], M) (fun r M' => r = some (vI 0) ∧ M' = M) := by
  refine r_ttFind M _ ht ht24 (fun x2 x3 => ?_)
  rw [h]
  refine rn_iload_n (pc' := 55) rfl rfl rfl ?_
  refine rn_if_ge (t := 60) (pc' := 58) rfl rfl rfl (fun h1 => ?_) (fun h1 => ?_)
  · exact absurd (by decide) h1
  · refine rn_iconst (pc' := 59) (v := 0) rfl rfl (by decide) ?_
    refine rn_zreturn rfl rfl (by decide) ?_
    exact ⟨rfl, rfl⟩
abbrev rdyV (M : xM) (e : Nat) : Int32 := rpnd M e &&& (rblk M e ^^^ (-1))
theorem r_ttH {d t e : Nat} (M F : xM) (ht : M.1 20 0 25 = nI t) (ht24 : t < 24) (h : tr M t = some e) (hr : ¬ rdyV M e = 0) (hc : Rn d 89 (0, xen 89 [vR 20 0, vI (nI e), vI (rdyV M e)], [], mI M 20 0 25 (nI e)) (fun r M' => r = none ∧ M' = F)) : Rn (d + 1) 88 (0, xen 88 [vR 20 0], [], M) (fun r M' => r = some (vI 1) ∧ M' = F) := by
  have he := trF_lt h
  refine r_ttFind M _ ht ht24 (fun x2 x3 => ?_)
  rw [oI_some h]
  refine rn_iload_n (pc' := 55) rfl rfl rfl ?_
  refine rn_if_ge (t := 60) (pc' := 58) rfl rfl rfl (fun h1 => ?_) (fun h1 => ?_)
  · refine rn_aload_n (pc' := 61) rfl rfl rfl ?_
    refine rn_iload_n (pc' := 62) rfl rfl rfl ?_
    refine rn_putI (N := 1) (pc' := 65) rfl rfl rfl rfl rfl (by first | assumption | decide | omega) ?_
    refine rn_aload_n (pc' := 66) rfl rfl rfl ?_
    refine rn_getF (N := 1) (t' := 33) (pc' := 69) rfl rfl rfl rfl rfl (by first | assumption | decide | omega) ?_
    refine rn_iload_n (pc' := 70) rfl rfl rfl ?_
    refine rn_iald (N := 1) (K := 24) (pc' := 71) rfl rfl ⟨rfl, rfl⟩ rfl (by first | assumption | decide | omega) rfl (by decide) rfl (by first | assumption | decide | omega) ?_
    refine rn_aload_n (pc' := 72) rfl rfl rfl ?_
    refine rn_getF (N := 1) (t' := 34) (pc' := 75) rfl rfl rfl rfl rfl (by first | assumption | decide | omega) ?_
    refine rn_iload_n (pc' := 76) rfl rfl rfl ?_
    refine rn_iald (N := 1) (K := 24) (pc' := 77) rfl rfl ⟨rfl, rfl⟩ rfl (by first | assumption | decide | omega) rfl (by decide) rfl (by first | assumption | decide | omega) ?_
    refine rn_iconst (pc' := 78) (v := (-1)) rfl rfl (by decide) ?_
    refine rn_ixor (pc' := 79) rfl rfl ?_
    refine rn_iand (pc' := 80) rfl rfl ?_
    refine rn_istore_n (pc' := 81) rfl rfl rfl (Nat.le_of_ble_eq_true rfl) rfl ?_
    refine rn_iload_n (pc' := 82) rfl rfl rfl ?_
    refine rn_if_eq (t := 93) (pc' := 85) rfl rfl rfl (fun h2 => ?_) (fun h2 => ?_)
    · exact absurd h2 hr
    · refine rn_aload_n (pc' := 86) rfl rfl rfl ?_
      refine rn_iload_n (pc' := 87) rfl rfl rfl ?_
      refine rn_iload_n (pc' := 88) rfl rfl rfl ?_
      refine rn_callV (pc' := 91) (as := [_, _]) rfl rfl rfl ⟨Nat.le_of_ble_eq_true rfl, rfl, rfl⟩ rfl (by first | assumption | decide | omega) (Nat.le_of_ble_eq_true rfl) (Nat.le_of_ble_eq_true rfl) rfl hc (fun r3 M3 hz => ?_)
      obtain ⟨rfl, hm_⟩ := hz
      refine rn_mem hm_ ?_
      clear hm_
      refine rn_iconst (pc' := 92) (v := 1) rfl rfl (by decide) ?_
      refine rn_zreturn rfl rfl (by decide) ?_
      exact ⟨rfl, rfl⟩
  · exact absurd h1 (nI_pos (by omega))
/-! behind an act: what is pending and let through happens -/
def hpc (M : xM) (e s : Nat) : Prop := ¬ (rpnd M e &&& (rblk M e ^^^ (-1))) &&& ((1 : Int32) <<< (nI s &&& 31)) = 0 ∧ rdoe M e s < 2
def clr (M : xM) (e s : Nat) : xM := mI M 33 0 e (rpnd M e &&& (((1 : Int32) <<< (nI s &&& 31)) ^^^ (-1)))
noncomputable def hpF (p : Int32) (e : Nat) : Nat → Nat → xM → xM
  | 0, _, M => M
  | m + 1, s, M => @ite _ (rpid M e = p ∧ ¬ rste M e = 4) (Classical.propDecidable _) (hpF p e m (s + 1) (@ite _ (hpc M e s) (Classical.propDecidable _) (f_happen (clr M e s) e s) M)) M
/-- what this loop needs at each step -/
def hpOk (M : xM) (e s n : Nat) : Prop := gOk M ∧ rok M n ∧ n < 4000 ∧ ∃ n', rok (f_happen (clr M e s) e s) n' ∧ n' ≤ 4000
theorem r_ttLoop {d e : Nat} (p : Int32) (he : e < 24) (P : xM → Nat → Prop) (hP : ∀ M s, P M s → 1 ≤ s → s < 21 → rpid M e = p → ¬ rste M e = 4 → (hpc M e s → (∃ n, hpOk M e s n) ∧ P (f_happen (clr M e s) e s) (s + 1)) ∧ (¬ hpc M e s → P M (s + 1))) : ∀ (m s : Nat) (M : xM) (x2 : Option xV), s + m = 21 → 1 ≤ s → P M s → Rn (d + 4) 88 (145, [some (vR 20 0), some (vI (nI e)), x2, some (vI p), some (vI (nI s))], [], M) (fun r M' => r = some (vI 1) ∧ M' = hpF p e m s M) := by
  intro m
  induction m with
  | zero =>
    intro s M x2 hs hs1 hp
    obtain rfl : s = 21 := by omega
    refine rn_iload (pc' := 147) rfl rfl rfl ?_
    refine rn_bipush (pc' := 149) (v := 21) rfl rfl (by decide) ?_
    refine rn_ic_ge (t := 239) (pc' := 152) rfl rfl rfl (fun h1 => ?_) (fun h1 => ?_)
    · refine rn_iconst (pc' := 240) (v := 1) rfl rfl (by decide) ?_
      refine rn_zreturn rfl rfl (by decide) ?_
      exact ⟨rfl, rfl⟩
    · exact absurd ((lt21 (by omega)).mp h1) (by omega)
  | succ m ih =>
    intro s M x2 hs hs1 hp
    have hs21 : s < 21 := by omega
    unfold hpF
    by_cases hc : rpid M e = p ∧ ¬ rste M e = 4
    · rw [if_pos hc]
      obtain ⟨q1, q2⟩ := hP M s hp hs1 hs21 hc.1 hc.2
      by_cases hh : hpc M e s
      · rw [if_pos hh]
        obtain ⟨⟨n, g1, g2, g3, g4⟩, q3⟩ := q1 hh
        have ih := ih (s + 1) _ x2 (by omega) (by omega) q3
        have hcl := r_happen (d := d) (M := clr M e s) he hs21 (fun k hk hp => g1 k hk hp) (n := n) g2 g3 g4
        have n9 : ¬ (2 : Int32) ≤ rdoe M e s := fun q => absurd hh.2 (Int32.not_lt.mpr q)
        refine rn_iload (pc' := 147) rfl rfl rfl ?_
        refine rn_bipush (pc' := 149) (v := 21) rfl rfl (by decide) ?_
        refine rn_ic_ge (t := 239) (pc' := 152) rfl rfl rfl (fun h1 => ?_) (fun h1 => ?_)
        · first | exact absurd ((lt21 (by omega)).mpr hs21) h1 | exact absurd hc.1 h2 | exact absurd h3 hc.2
        · refine rn_aload_n (pc' := 153) rfl rfl rfl ?_
          refine rn_getF (N := 1) (t' := 25) (pc' := 156) rfl rfl rfl rfl rfl (by first | assumption | decide | omega) ?_
          refine rn_iload_n (pc' := 157) rfl rfl rfl ?_
          refine rn_iald (N := 1) (K := 24) (pc' := 158) rfl rfl ⟨rfl, rfl⟩ rfl (by first | assumption | decide | omega) rfl (by decide) rfl (by first | assumption | decide | omega) ?_
          refine rn_iload_n (pc' := 159) rfl rfl rfl ?_
          refine rn_ic_ne (t := 239) (pc' := 162) rfl rfl rfl (fun h2 => ?_) (fun h2 => ?_)
          · first | exact absurd ((lt21 (by omega)).mpr hs21) h1 | exact absurd hc.1 h2 | exact absurd h3 hc.2
          · refine rn_aload_n (pc' := 163) rfl rfl rfl ?_
            refine rn_getF (N := 1) (t' := 28) (pc' := 166) rfl rfl rfl rfl rfl (by first | assumption | decide | omega) ?_
            refine rn_iload_n (pc' := 167) rfl rfl rfl ?_
            refine rn_iald (N := 1) (K := 24) (pc' := 168) rfl rfl ⟨rfl, rfl⟩ rfl (by first | assumption | decide | omega) rfl (by decide) rfl (by first | assumption | decide | omega) ?_
            refine rn_iconst (pc' := 169) (v := 4) rfl rfl (by decide) ?_
            refine rn_ic_eq (t := 239) (pc' := 172) rfl rfl rfl (fun h3 => ?_) (fun h3 => ?_)
            · first | exact absurd ((lt21 (by omega)).mpr hs21) h1 | exact absurd hc.1 h2 | exact absurd h3 hc.2
            · refine rn_aload_n (pc' := 173) rfl rfl rfl ?_
              refine rn_getF (N := 1) (t' := 33) (pc' := 176) rfl rfl rfl rfl rfl (by first | assumption | decide | omega) ?_
              refine rn_iload_n (pc' := 177) rfl rfl rfl ?_
              refine rn_iald (N := 1) (K := 24) (pc' := 178) rfl rfl ⟨rfl, rfl⟩ rfl (by first | assumption | decide | omega) rfl (by decide) rfl (by first | assumption | decide | omega) ?_
              refine rn_aload_n (pc' := 179) rfl rfl rfl ?_
              refine rn_getF (N := 1) (t' := 34) (pc' := 182) rfl rfl rfl rfl rfl (by first | assumption | decide | omega) ?_
              refine rn_iload_n (pc' := 183) rfl rfl rfl ?_
              refine rn_iald (N := 1) (K := 24) (pc' := 184) rfl rfl ⟨rfl, rfl⟩ rfl (by first | assumption | decide | omega) rfl (by decide) rfl (by first | assumption | decide | omega) ?_
              refine rn_iconst (pc' := 185) (v := (-1)) rfl rfl (by decide) ?_
              refine rn_ixor (pc' := 186) rfl rfl ?_
              refine rn_iand (pc' := 187) rfl rfl ?_
              refine rn_iconst (pc' := 188) (v := 1) rfl rfl (by decide) ?_
              refine rn_iload (pc' := 190) rfl rfl rfl ?_
              refine rn_ishl (pc' := 191) rfl rfl ?_
              refine rn_iand (pc' := 192) rfl rfl ?_
              refine rn_if_eq (t := 233) (pc' := 195) rfl rfl rfl (fun h4 => ?_) (fun h4 => ?_)
              · first | exact absurd h4 hh.1 | exact absurd hh.2 h5 | (refine rn_iinc (pc' := 236) rfl rfl rfl (nI_inc _) rfl (Nat.le_of_ble_eq_true rfl) rfl ?_; refine rn_goto (pc' := 145) rfl rfl ?_; exact ih)
              · refine rn_aload_n (pc' := 196) rfl rfl rfl ?_
                refine rn_getF (N := 1) (t' := 32) (pc' := 199) rfl rfl rfl rfl rfl (by first | assumption | decide | omega) ?_
                refine rn_bipush (pc' := 201) (v := 21) rfl rfl (by decide) ?_
                refine rn_iload_n (pc' := 202) rfl rfl rfl ?_
                refine rn_imul (pc' := 203) rfl rfl ?_
                refine rn_iload (pc' := 205) rfl rfl rfl ?_
                refine rn_iadd (pc' := 206) rfl rfl ?_
                refine rn_iald (k := 21 * e + s) (N := 1) (K := 504) (pc' := 207) rfl rfl ⟨rfl, rfl⟩ rfl (by first | assumption | decide | omega) rfl (by decide) (ix21 e s) (by first | assumption | decide | omega) ?_
                refine rn_iconst (pc' := 208) (v := 2) rfl rfl (by decide) ?_
                refine rn_ic_ge (t := 233) (pc' := 211) rfl rfl rfl (fun h5 => ?_) (fun h5 => ?_)
                · first | exact absurd h4 hh.1 | exact absurd hh.2 h5 | (refine rn_iinc (pc' := 236) rfl rfl rfl (nI_inc _) rfl (Nat.le_of_ble_eq_true rfl) rfl ?_; refine rn_goto (pc' := 145) rfl rfl ?_; exact ih)
                · refine rn_aload_n (pc' := 212) rfl rfl rfl ?_
                  refine rn_getF (N := 1) (t' := 33) (pc' := 215) rfl rfl rfl rfl rfl (by first | assumption | decide | omega) ?_
                  refine rn_iload_n (pc' := 216) rfl rfl rfl ?_
                  refine rn_dup2 (pc' := 217) rfl rfl ?_
                  refine rn_iald (N := 1) (K := 24) (pc' := 218) rfl rfl ⟨rfl, rfl⟩ rfl (by first | assumption | decide | omega) rfl (by decide) rfl (by first | assumption | decide | omega) ?_
                  refine rn_iconst (pc' := 219) (v := 1) rfl rfl (by decide) ?_
                  refine rn_iload (pc' := 221) rfl rfl rfl ?_
                  refine rn_ishl (pc' := 222) rfl rfl ?_
                  refine rn_iconst (pc' := 223) (v := (-1)) rfl rfl (by decide) ?_
                  refine rn_ixor (pc' := 224) rfl rfl ?_
                  refine rn_iand (pc' := 225) rfl rfl ?_
                  refine rn_iast (N := 1) (K := 24) (pc' := 226) rfl rfl ⟨rfl, rfl⟩ rfl (by first | assumption | decide | omega) rfl (by decide) rfl (by first | assumption | decide | omega) ?_
                  refine rn_aload_n (pc' := 227) rfl rfl rfl ?_
                  refine rn_iload_n (pc' := 228) rfl rfl rfl ?_
                  refine rn_iload (pc' := 230) rfl rfl rfl ?_
                  refine rn_callV (pc' := 233) (as := [_, _]) rfl rfl rfl ⟨Nat.le_of_ble_eq_true rfl, rfl, rfl⟩ rfl (by first | assumption | decide | omega) (Nat.le_of_ble_eq_true rfl) (Nat.le_of_ble_eq_true rfl) rfl hcl (fun r6 M6 hz => ?_)
                  obtain ⟨rfl, hm_⟩ := hz
                  refine rn_mem hm_ ?_
                  clear hm_
                  first | exact absurd h4 hh.1 | exact absurd hh.2 h5 | (refine rn_iinc (pc' := 236) rfl rfl rfl (nI_inc _) rfl (Nat.le_of_ble_eq_true rfl) rfl ?_; refine rn_goto (pc' := 145) rfl rfl ?_; exact ih)
      · rw [if_neg hh]
        have ih := ih (s + 1) _ x2 (by omega) (by omega) (q2 hh)
        refine rn_iload (pc' := 147) rfl rfl rfl ?_
        refine rn_bipush (pc' := 149) (v := 21) rfl rfl (by decide) ?_
        refine rn_ic_ge (t := 239) (pc' := 152) rfl rfl rfl (fun h1 => ?_) (fun h1 => ?_)
        · first | exact absurd ((lt21 (by omega)).mpr hs21) h1 | exact absurd hc.1 h2 | exact absurd h3 hc.2
        · refine rn_aload_n (pc' := 153) rfl rfl rfl ?_
          refine rn_getF (N := 1) (t' := 25) (pc' := 156) rfl rfl rfl rfl rfl (by first | assumption | decide | omega) ?_
          refine rn_iload_n (pc' := 157) rfl rfl rfl ?_
          refine rn_iald (N := 1) (K := 24) (pc' := 158) rfl rfl ⟨rfl, rfl⟩ rfl (by first | assumption | decide | omega) rfl (by decide) rfl (by first | assumption | decide | omega) ?_
          refine rn_iload_n (pc' := 159) rfl rfl rfl ?_
          refine rn_ic_ne (t := 239) (pc' := 162) rfl rfl rfl (fun h2 => ?_) (fun h2 => ?_)
          · first | exact absurd ((lt21 (by omega)).mpr hs21) h1 | exact absurd hc.1 h2 | exact absurd h3 hc.2
          · refine rn_aload_n (pc' := 163) rfl rfl rfl ?_
            refine rn_getF (N := 1) (t' := 28) (pc' := 166) rfl rfl rfl rfl rfl (by first | assumption | decide | omega) ?_
            refine rn_iload_n (pc' := 167) rfl rfl rfl ?_
            refine rn_iald (N := 1) (K := 24) (pc' := 168) rfl rfl ⟨rfl, rfl⟩ rfl (by first | assumption | decide | omega) rfl (by decide) rfl (by first | assumption | decide | omega) ?_
            refine rn_iconst (pc' := 169) (v := 4) rfl rfl (by decide) ?_
            refine rn_ic_eq (t := 239) (pc' := 172) rfl rfl rfl (fun h3 => ?_) (fun h3 => ?_)
            · first | exact absurd ((lt21 (by omega)).mpr hs21) h1 | exact absurd hc.1 h2 | exact absurd h3 hc.2
            · refine rn_aload_n (pc' := 173) rfl rfl rfl ?_
              refine rn_getF (N := 1) (t' := 33) (pc' := 176) rfl rfl rfl rfl rfl (by first | assumption | decide | omega) ?_
              refine rn_iload_n (pc' := 177) rfl rfl rfl ?_
              refine rn_iald (N := 1) (K := 24) (pc' := 178) rfl rfl ⟨rfl, rfl⟩ rfl (by first | assumption | decide | omega) rfl (by decide) rfl (by first | assumption | decide | omega) ?_
              refine rn_aload_n (pc' := 179) rfl rfl rfl ?_
              refine rn_getF (N := 1) (t' := 34) (pc' := 182) rfl rfl rfl rfl rfl (by first | assumption | decide | omega) ?_
              refine rn_iload_n (pc' := 183) rfl rfl rfl ?_
              refine rn_iald (N := 1) (K := 24) (pc' := 184) rfl rfl ⟨rfl, rfl⟩ rfl (by first | assumption | decide | omega) rfl (by decide) rfl (by first | assumption | decide | omega) ?_
              refine rn_iconst (pc' := 185) (v := (-1)) rfl rfl (by decide) ?_
              refine rn_ixor (pc' := 186) rfl rfl ?_
              refine rn_iand (pc' := 187) rfl rfl ?_
              refine rn_iconst (pc' := 188) (v := 1) rfl rfl (by decide) ?_
              refine rn_iload (pc' := 190) rfl rfl rfl ?_
              refine rn_ishl (pc' := 191) rfl rfl ?_
              refine rn_iand (pc' := 192) rfl rfl ?_
              refine rn_if_eq (t := 233) (pc' := 195) rfl rfl rfl (fun h4 => ?_) (fun h4 => ?_)
              · refine rn_iinc (pc' := 236) rfl rfl rfl (nI_inc _) rfl (Nat.le_of_ble_eq_true rfl) rfl ?_
                refine rn_goto (pc' := 145) rfl rfl ?_
                exact ih
              · refine rn_aload_n (pc' := 196) rfl rfl rfl ?_
                refine rn_getF (N := 1) (t' := 32) (pc' := 199) rfl rfl rfl rfl rfl (by first | assumption | decide | omega) ?_
                refine rn_bipush (pc' := 201) (v := 21) rfl rfl (by decide) ?_
                refine rn_iload_n (pc' := 202) rfl rfl rfl ?_
                refine rn_imul (pc' := 203) rfl rfl ?_
                refine rn_iload (pc' := 205) rfl rfl rfl ?_
                refine rn_iadd (pc' := 206) rfl rfl ?_
                refine rn_iald (k := 21 * e + s) (N := 1) (K := 504) (pc' := 207) rfl rfl ⟨rfl, rfl⟩ rfl (by first | assumption | decide | omega) rfl (by decide) (ix21 e s) (by first | assumption | decide | omega) ?_
                refine rn_iconst (pc' := 208) (v := 2) rfl rfl (by decide) ?_
                refine rn_ic_ge (t := 233) (pc' := 211) rfl rfl rfl (fun h5 => ?_) (fun h5 => ?_)
                · refine rn_iinc (pc' := 236) rfl rfl rfl (nI_inc _) rfl (Nat.le_of_ble_eq_true rfl) rfl ?_
                  refine rn_goto (pc' := 145) rfl rfl ?_
                  exact ih
                · exact absurd ⟨h4, h5⟩ hh
    · rw [if_neg hc]
      refine rn_iload (pc' := 147) rfl rfl rfl ?_
      refine rn_bipush (pc' := 149) (v := 21) rfl rfl (by decide) ?_
      refine rn_ic_ge (t := 239) (pc' := 152) rfl rfl rfl (fun h1 => ?_) (fun h1 => ?_)
      · refine rn_iconst (pc' := 240) (v := 1) rfl rfl (by decide) ?_
        refine rn_zreturn rfl rfl (by decide) ?_
        exact ⟨rfl, rfl⟩
      · refine rn_aload_n (pc' := 153) rfl rfl rfl ?_
        refine rn_getF (N := 1) (t' := 25) (pc' := 156) rfl rfl rfl rfl rfl (by first | assumption | decide | omega) ?_
        refine rn_iload_n (pc' := 157) rfl rfl rfl ?_
        refine rn_iald (N := 1) (K := 24) (pc' := 158) rfl rfl ⟨rfl, rfl⟩ rfl (by first | assumption | decide | omega) rfl (by decide) rfl (by first | assumption | decide | omega) ?_
        refine rn_iload_n (pc' := 159) rfl rfl rfl ?_
        refine rn_ic_ne (t := 239) (pc' := 162) rfl rfl rfl (fun h2 => ?_) (fun h2 => ?_)
        · refine rn_iconst (pc' := 240) (v := 1) rfl rfl (by decide) ?_
          refine rn_zreturn rfl rfl (by decide) ?_
          exact ⟨rfl, rfl⟩
        · refine rn_aload_n (pc' := 163) rfl rfl rfl ?_
          refine rn_getF (N := 1) (t' := 28) (pc' := 166) rfl rfl rfl rfl rfl (by first | assumption | decide | omega) ?_
          refine rn_iload_n (pc' := 167) rfl rfl rfl ?_
          refine rn_iald (N := 1) (K := 24) (pc' := 168) rfl rfl ⟨rfl, rfl⟩ rfl (by first | assumption | decide | omega) rfl (by decide) rfl (by first | assumption | decide | omega) ?_
          refine rn_iconst (pc' := 169) (v := 4) rfl rfl (by decide) ?_
          refine rn_ic_eq (t := 239) (pc' := 172) rfl rfl rfl (fun h3 => ?_) (fun h3 => ?_)
          · refine rn_iconst (pc' := 240) (v := 1) rfl rfl (by decide) ?_
            refine rn_zreturn rfl rfl (by decide) ?_
            exact ⟨rfl, rfl⟩
          · exact absurd ⟨h2, h3⟩ hc
theorem r_ttA {d t e pp : Nat} (M F : xM) (ht : M.1 20 0 25 = nI t) (ht24 : t < 24) (h : tr M t = some e) (hr : rdyV M e = 0) (hpp : rprg M e = nI pp) (hpp2 : pp < 16) (hin : 0 ≤ (rnxt M e).toInt64 ∧ (rnxt M e).toInt64 ≤ (M.1 21 0 pp - 1).toInt64) (hc : Rn (d + 3) 91 (0, xen 91 [vR 20 0, vI (nI e)], [], mI M 20 0 25 (nI e)) (fun r M' => r = none ∧ M' = F)) (P : xM → Nat → Prop) (hP : ∀ M' s, P M' s → 1 ≤ s → s < 21 → rpid M' e = rpid M e → ¬ rste M' e = 4 → (hpc M' e s → (∃ n, hpOk M' e s n) ∧ P (f_happen (clr M' e s) e s) (s + 1)) ∧ (¬ hpc M' e s → P M' (s + 1))) (hF : P F 1) : Rn (d + 4) 88 (0, xen 88 [vR 20 0], [], M) (fun r M' => r = some (vI 1) ∧ M' = hpF (rpid M e) e 20 1 F) := by
  have he := trF_lt h
  refine r_ttFind M _ ht ht24 (fun x2 x3 => ?_)
  rw [oI_some h]
  refine rn_iload_n (pc' := 55) rfl rfl rfl ?_
  refine rn_if_ge (t := 60) (pc' := 58) rfl rfl rfl (fun h1 => ?_) (fun h1 => ?_)
  · refine rn_aload_n (pc' := 61) rfl rfl rfl ?_
    refine rn_iload_n (pc' := 62) rfl rfl rfl ?_
    refine rn_putI (N := 1) (pc' := 65) rfl rfl rfl rfl rfl (by first | assumption | decide | omega) ?_
    refine rn_aload_n (pc' := 66) rfl rfl rfl ?_
    refine rn_getF (N := 1) (t' := 33) (pc' := 69) rfl rfl rfl rfl rfl (by first | assumption | decide | omega) ?_
    refine rn_iload_n (pc' := 70) rfl rfl rfl ?_
    refine rn_iald (N := 1) (K := 24) (pc' := 71) rfl rfl ⟨rfl, rfl⟩ rfl (by first | assumption | decide | omega) rfl (by decide) rfl (by first | assumption | decide | omega) ?_
    refine rn_aload_n (pc' := 72) rfl rfl rfl ?_
    refine rn_getF (N := 1) (t' := 34) (pc' := 75) rfl rfl rfl rfl rfl (by first | assumption | decide | omega) ?_
    refine rn_iload_n (pc' := 76) rfl rfl rfl ?_
    refine rn_iald (N := 1) (K := 24) (pc' := 77) rfl rfl ⟨rfl, rfl⟩ rfl (by first | assumption | decide | omega) rfl (by decide) rfl (by first | assumption | decide | omega) ?_
    refine rn_iconst (pc' := 78) (v := (-1)) rfl rfl (by decide) ?_
    refine rn_ixor (pc' := 79) rfl rfl ?_
    refine rn_iand (pc' := 80) rfl rfl ?_
    refine rn_istore_n (pc' := 81) rfl rfl rfl (Nat.le_of_ble_eq_true rfl) rfl ?_
    refine rn_iload_n (pc' := 82) rfl rfl rfl ?_
    refine rn_if_eq (t := 93) (pc' := 85) rfl rfl rfl (fun h2 => ?_) (fun h2 => ?_)
    · refine rn_aload_n (pc' := 94) rfl rfl rfl ?_
      refine rn_getF (N := 1) (t' := 25) (pc' := 97) rfl rfl rfl rfl rfl (by first | assumption | decide | omega) ?_
      refine rn_iload_n (pc' := 98) rfl rfl rfl ?_
      refine rn_iald (N := 1) (K := 24) (pc' := 99) rfl rfl ⟨rfl, rfl⟩ rfl (by first | assumption | decide | omega) rfl (by decide) rfl (by first | assumption | decide | omega) ?_
      refine rn_istore_n (pc' := 100) rfl rfl rfl (Nat.le_of_ble_eq_true rfl) rfl ?_
      refine rn_aload_n (pc' := 101) rfl rfl rfl ?_
      refine rn_getF (N := 1) (t' := 30) (pc' := 104) rfl rfl rfl rfl rfl (by first | assumption | decide | omega) ?_
      refine rn_iload_n (pc' := 105) rfl rfl rfl ?_
      refine rn_iald (N := 1) (K := 24) (pc' := 106) rfl rfl ⟨rfl, rfl⟩ rfl (by first | assumption | decide | omega) rfl (by decide) rfl (by first | assumption | decide | omega) ?_
      refine rn_i2l (pc' := 107) rfl rfl ?_
      refine rn_lconst (pc' := 108) (v := 0) rfl rfl rfl ?_
      refine rn_aload_n (pc' := 109) rfl rfl rfl ?_
      refine rn_getF (N := 1) (t' := 21) (pc' := 112) rfl rfl rfl rfl rfl (by first | assumption | decide | omega) ?_
      refine rn_aload_n (pc' := 113) rfl rfl rfl ?_
      refine rn_getF (N := 1) (t' := 29) (pc' := 116) rfl rfl rfl rfl rfl (by first | assumption | decide | omega) ?_
      refine rn_iload_n (pc' := 117) rfl rfl rfl ?_
      refine rn_iald (N := 1) (K := 24) (pc' := 118) rfl rfl ⟨rfl, rfl⟩ rfl (by first | assumption | decide | omega) rfl (by decide) rfl (by first | assumption | decide | omega) ?_
      refine rn_iald (k := pp) (N := 1) (K := 16) (pc' := 119) rfl rfl ⟨rfl, rfl⟩ rfl (by first | assumption | decide | omega) rfl (by decide) (hpp) (by first | assumption | decide | omega) ?_
      refine rn_iconst (pc' := 120) (v := 1) rfl rfl (by decide) ?_
      refine rn_isub (pc' := 121) rfl rfl ?_
      refine rn_i2l (pc' := 122) rfl rfl ?_
      refine rn_callS (pc' := 125) (as := [_, _, _]) rfl rfl rfl ⟨rfl, rfl, rfl⟩ (Nat.le_of_ble_eq_true rfl) (Nat.le_of_ble_eq_true rfl) rfl (r_in _ _ 0 _) (fun r3 M3 hz => ?_)
      obtain ⟨rfl, hm_⟩ := hz
      refine rn_mem hm_ ?_
      clear hm_
      refine rn_if_ne (t := 137) (pc' := 128) rfl rfl rfl (fun h4 => ?_) (fun h4 => ?_)
      · refine rn_aload_n (pc' := 138) rfl rfl rfl ?_
        refine rn_iload_n (pc' := 139) rfl rfl rfl ?_
        refine rn_callV (pc' := 142) (as := [_]) rfl rfl rfl ⟨Nat.le_of_ble_eq_true rfl, rfl, rfl⟩ rfl (by first | assumption | decide | omega) (Nat.le_of_ble_eq_true rfl) (Nat.le_of_ble_eq_true rfl) rfl hc (fun r5 M5 hz => ?_)
        obtain ⟨rfl, hm_⟩ := hz
        refine rn_mem hm_ ?_
        clear hm_
        refine rn_iconst (pc' := 143) (v := 1) rfl rfl (by decide) ?_
        refine rn_istore (pc' := 145) rfl rfl rfl (Nat.le_of_ble_eq_true rfl) rfl ?_
        exact r_ttLoop (rpid M e) he P hP 20 1 F _ rfl (Nat.le_refl _) hF
      · exact absurd hin (ite01.mp h4)
    · exact absurd hr h2
  · exact absurd h1 (nI_pos (by omega))
theorem r_ttE {d t e pp n : Nat} (M : xM) (ht : M.1 20 0 25 = nI t) (ht24 : t < 24) (h : tr M t = some e) (hr : rdyV M e = 0) (hpp : rprg M e = nI pp) (hpp2 : pp < 16) (hin : ¬ (0 ≤ (rnxt M e).toInt64 ∧ (rnxt M e).toInt64 ≤ (M.1 21 0 pp - 1).toInt64)) (hc : Rn (d + 3) 84 (0, xen 84 [vR 20 0, vI (nI e), vI 0], [], mI M 20 0 25 (nI e)) (fun r M' => r = none ∧ M' = f_end (mI M 20 0 25 (nI e)) e 0)) (hz : ¬ (rpid (f_end (mI M 20 0 25 (nI e)) e 0) e = rpid M e ∧ ¬ rste (f_end (mI M 20 0 25 (nI e)) e 0) e = 4)) : Rn (d + 4) 88 (0, xen 88 [vR 20 0], [], M) (fun r M' => r = some (vI 1) ∧ M' = f_end (mI M 20 0 25 (nI e)) e 0) := by
  have he := trF_lt h
  refine r_ttFind M _ ht ht24 (fun x2 x3 => ?_)
  rw [oI_some h]
  refine rn_iload_n (pc' := 55) rfl rfl rfl ?_
  refine rn_if_ge (t := 60) (pc' := 58) rfl rfl rfl (fun h1 => ?_) (fun h1 => ?_)
  · refine rn_aload_n (pc' := 61) rfl rfl rfl ?_
    refine rn_iload_n (pc' := 62) rfl rfl rfl ?_
    refine rn_putI (N := 1) (pc' := 65) rfl rfl rfl rfl rfl (by first | assumption | decide | omega) ?_
    refine rn_aload_n (pc' := 66) rfl rfl rfl ?_
    refine rn_getF (N := 1) (t' := 33) (pc' := 69) rfl rfl rfl rfl rfl (by first | assumption | decide | omega) ?_
    refine rn_iload_n (pc' := 70) rfl rfl rfl ?_
    refine rn_iald (N := 1) (K := 24) (pc' := 71) rfl rfl ⟨rfl, rfl⟩ rfl (by first | assumption | decide | omega) rfl (by decide) rfl (by first | assumption | decide | omega) ?_
    refine rn_aload_n (pc' := 72) rfl rfl rfl ?_
    refine rn_getF (N := 1) (t' := 34) (pc' := 75) rfl rfl rfl rfl rfl (by first | assumption | decide | omega) ?_
    refine rn_iload_n (pc' := 76) rfl rfl rfl ?_
    refine rn_iald (N := 1) (K := 24) (pc' := 77) rfl rfl ⟨rfl, rfl⟩ rfl (by first | assumption | decide | omega) rfl (by decide) rfl (by first | assumption | decide | omega) ?_
    refine rn_iconst (pc' := 78) (v := (-1)) rfl rfl (by decide) ?_
    refine rn_ixor (pc' := 79) rfl rfl ?_
    refine rn_iand (pc' := 80) rfl rfl ?_
    refine rn_istore_n (pc' := 81) rfl rfl rfl (Nat.le_of_ble_eq_true rfl) rfl ?_
    refine rn_iload_n (pc' := 82) rfl rfl rfl ?_
    refine rn_if_eq (t := 93) (pc' := 85) rfl rfl rfl (fun h2 => ?_) (fun h2 => ?_)
    · refine rn_aload_n (pc' := 94) rfl rfl rfl ?_
      refine rn_getF (N := 1) (t' := 25) (pc' := 97) rfl rfl rfl rfl rfl (by first | assumption | decide | omega) ?_
      refine rn_iload_n (pc' := 98) rfl rfl rfl ?_
      refine rn_iald (N := 1) (K := 24) (pc' := 99) rfl rfl ⟨rfl, rfl⟩ rfl (by first | assumption | decide | omega) rfl (by decide) rfl (by first | assumption | decide | omega) ?_
      refine rn_istore_n (pc' := 100) rfl rfl rfl (Nat.le_of_ble_eq_true rfl) rfl ?_
      refine rn_aload_n (pc' := 101) rfl rfl rfl ?_
      refine rn_getF (N := 1) (t' := 30) (pc' := 104) rfl rfl rfl rfl rfl (by first | assumption | decide | omega) ?_
      refine rn_iload_n (pc' := 105) rfl rfl rfl ?_
      refine rn_iald (N := 1) (K := 24) (pc' := 106) rfl rfl ⟨rfl, rfl⟩ rfl (by first | assumption | decide | omega) rfl (by decide) rfl (by first | assumption | decide | omega) ?_
      refine rn_i2l (pc' := 107) rfl rfl ?_
      refine rn_lconst (pc' := 108) (v := 0) rfl rfl rfl ?_
      refine rn_aload_n (pc' := 109) rfl rfl rfl ?_
      refine rn_getF (N := 1) (t' := 21) (pc' := 112) rfl rfl rfl rfl rfl (by first | assumption | decide | omega) ?_
      refine rn_aload_n (pc' := 113) rfl rfl rfl ?_
      refine rn_getF (N := 1) (t' := 29) (pc' := 116) rfl rfl rfl rfl rfl (by first | assumption | decide | omega) ?_
      refine rn_iload_n (pc' := 117) rfl rfl rfl ?_
      refine rn_iald (N := 1) (K := 24) (pc' := 118) rfl rfl ⟨rfl, rfl⟩ rfl (by first | assumption | decide | omega) rfl (by decide) rfl (by first | assumption | decide | omega) ?_
      refine rn_iald (k := pp) (N := 1) (K := 16) (pc' := 119) rfl rfl ⟨rfl, rfl⟩ rfl (by first | assumption | decide | omega) rfl (by decide) (hpp) (by first | assumption | decide | omega) ?_
      refine rn_iconst (pc' := 120) (v := 1) rfl rfl (by decide) ?_
      refine rn_isub (pc' := 121) rfl rfl ?_
      refine rn_i2l (pc' := 122) rfl rfl ?_
      refine rn_callS (pc' := 125) (as := [_, _, _]) rfl rfl rfl ⟨rfl, rfl, rfl⟩ (Nat.le_of_ble_eq_true rfl) (Nat.le_of_ble_eq_true rfl) rfl (r_in _ _ 0 _) (fun r3 M3 hz => ?_)
      obtain ⟨rfl, hm_⟩ := hz
      refine rn_mem hm_ ?_
      clear hm_
      refine rn_if_ne (t := 137) (pc' := 128) rfl rfl rfl (fun h4 => ?_) (fun h4 => ?_)
      · exact absurd (ite01.mpr hin) h4
      · refine rn_aload_n (pc' := 129) rfl rfl rfl ?_
        refine rn_iload_n (pc' := 130) rfl rfl rfl ?_
        refine rn_iconst (pc' := 131) (v := 0) rfl rfl (by decide) ?_
        refine rn_callV (pc' := 134) (as := [_, _]) rfl rfl rfl ⟨Nat.le_of_ble_eq_true rfl, rfl, rfl⟩ rfl (by first | assumption | decide | omega) (Nat.le_of_ble_eq_true rfl) (Nat.le_of_ble_eq_true rfl) rfl hc (fun r5 M5 hz => ?_)
        obtain ⟨rfl, hm_⟩ := hz
        refine rn_mem hm_ ?_
        clear hm_
        refine rn_goto (pc' := 142) rfl rfl ?_
        refine rn_iconst (pc' := 143) (v := 1) rfl rfl (by decide) ?_
        refine rn_istore (pc' := 145) rfl rfl rfl (Nat.le_of_ble_eq_true rfl) rfl ?_
        refine rn_iload (pc' := 147) rfl rfl rfl ?_
        refine rn_bipush (pc' := 149) (v := 21) rfl rfl (by decide) ?_
        refine rn_ic_ge (t := 239) (pc' := 152) rfl rfl rfl (fun h6 => ?_) (fun h6 => ?_)
        · refine rn_iconst (pc' := 240) (v := 1) rfl rfl (by decide) ?_
          refine rn_zreturn rfl rfl (by decide) ?_
          exact ⟨rfl, rfl⟩
        · refine rn_aload_n (pc' := 153) rfl rfl rfl ?_
          refine rn_getF (N := 1) (t' := 25) (pc' := 156) rfl rfl rfl rfl rfl (by first | assumption | decide | omega) ?_
          refine rn_iload_n (pc' := 157) rfl rfl rfl ?_
          refine rn_iald (N := 1) (K := 24) (pc' := 158) rfl rfl ⟨rfl, rfl⟩ rfl (by first | assumption | decide | omega) rfl (by decide) rfl (by first | assumption | decide | omega) ?_
          refine rn_iload_n (pc' := 159) rfl rfl rfl ?_
          refine rn_ic_ne (t := 239) (pc' := 162) rfl rfl rfl (fun h7 => ?_) (fun h7 => ?_)
          · refine rn_iconst (pc' := 240) (v := 1) rfl rfl (by decide) ?_
            refine rn_zreturn rfl rfl (by decide) ?_
            exact ⟨rfl, rfl⟩
          · refine rn_aload_n (pc' := 163) rfl rfl rfl ?_
            refine rn_getF (N := 1) (t' := 28) (pc' := 166) rfl rfl rfl rfl rfl (by first | assumption | decide | omega) ?_
            refine rn_iload_n (pc' := 167) rfl rfl rfl ?_
            refine rn_iald (N := 1) (K := 24) (pc' := 168) rfl rfl ⟨rfl, rfl⟩ rfl (by first | assumption | decide | omega) rfl (by decide) rfl (by first | assumption | decide | omega) ?_
            refine rn_iconst (pc' := 169) (v := 4) rfl rfl (by decide) ?_
            refine rn_ic_eq (t := 239) (pc' := 172) rfl rfl rfl (fun h8 => ?_) (fun h8 => ?_)
            · refine rn_iconst (pc' := 240) (v := 1) rfl rfl (by decide) ?_
              refine rn_zreturn rfl rfl (by decide) ?_
              exact ⟨rfl, rfl⟩
            · exact absurd ⟨‹_›, ‹_›⟩ hz
    · exact absurd hr h2
  · exact absurd h1 (nI_pos (by omega))
/-! a tick -/
def alF : Nat → Nat → xM → xM
  | 0, _, M => M
  | m + 1, i, M => alF m (i + 1) (if 0 < rpid M i ∧ 0 < ralm M i ∧ ralm M i ≤ (M.1 20 0 26).toInt64 then f_send (mJ M 38 0 i 0) i 14 else M)
abbrev nTick (M : xM) : xM := mI M 20 0 26 (M.1 20 0 26 + 1)
theorem r_tickO {d : Nat} (M : xM) (n : Int32) (h : ¬ (0 ≤ n.toInt64 ∧ n.toInt64 ≤ 200)) : Rn (d + 1) 87 (0, xen 87 [vR 20 0, vI n], [], M) (fun r M' => r = some (vI (-1002)) ∧ M' = M) := by
  show Rn _ 87 (0, [some (vR 20 0), some (vI n), none, none, none], [], _) _
  refine rn_iload_n (pc' := 1) rfl rfl rfl ?_
  refine rn_i2l (pc' := 2) rfl rfl ?_
  refine rn_lconst (pc' := 3) (v := 0) rfl rfl rfl ?_
  refine rn_ldc2_w (pc' := 6) (v := 200) rfl rfl rfl ?_
  refine rn_callS (pc' := 9) (as := [_, _, _]) rfl rfl rfl ⟨rfl, rfl, rfl⟩ (Nat.le_of_ble_eq_true rfl) (Nat.le_of_ble_eq_true rfl) rfl (r_in M _ 0 200) (fun r1 M1 hz => ?_)
  obtain ⟨rfl, hm_⟩ := hz
  refine rn_mem hm_ ?_
  clear hm_
  refine rn_if_ne (t := 16) (pc' := 12) rfl rfl rfl (fun h2 => ?_) (fun h2 => ?_)
  · exact absurd (ite01.mpr h) h2
  · refine rn_sipush (pc' := 15) (v := (-1002)) rfl rfl (by decide) ?_
    refine rn_ireturn rfl rfl ?_
    exact ⟨rfl, rfl⟩
theorem r_tick0 {d : Nat} (M : xM) (n : Int32) (Z : Option xV → xM → Prop) (h : 0 ≤ n.toInt64 ∧ n.toInt64 ≤ 200) (k : Rn (d + 1) 87 (20, [some (vR 20 0), some (vI n), some (vI 0), some (vI (nI 0)), none], [], M) Z) : Rn (d + 1) 87 (0, xen 87 [vR 20 0, vI n], [], M) Z := by
  show Rn _ 87 (0, [some (vR 20 0), some (vI n), none, none, none], [], _) _
  refine rn_iload_n (pc' := 1) rfl rfl rfl ?_
  refine rn_i2l (pc' := 2) rfl rfl ?_
  refine rn_lconst (pc' := 3) (v := 0) rfl rfl rfl ?_
  refine rn_ldc2_w (pc' := 6) (v := 200) rfl rfl rfl ?_
  refine rn_callS (pc' := 9) (as := [_, _, _]) rfl rfl rfl ⟨rfl, rfl, rfl⟩ (Nat.le_of_ble_eq_true rfl) (Nat.le_of_ble_eq_true rfl) rfl (r_in M _ 0 200) (fun r1 M1 hz => ?_)
  obtain ⟨rfl, hm_⟩ := hz
  refine rn_mem hm_ ?_
  clear hm_
  refine rn_if_ne (t := 16) (pc' := 12) rfl rfl rfl (fun h2 => ?_) (fun h2 => ?_)
  · refine rn_iconst (pc' := 17) (v := 0) rfl rfl (by decide) ?_
    refine rn_istore_n (pc' := 18) rfl rfl rfl (Nat.le_of_ble_eq_true rfl) rfl ?_
    refine rn_iconst (pc' := 19) (v := 0) rfl rfl (by decide) ?_
    refine rn_istore_n (pc' := 20) rfl rfl rfl (Nat.le_of_ble_eq_true rfl) rfl ?_
    exact k
  · exact absurd h (ite01.mp h2)
theorem r_tickE {d i n : Nat} (M : xM) (c : Int32) (x4 : Option xV) (h : ¬ i < n) (hi : i < 2 ^ 31) (hn : n < 2 ^ 31) : Rn d 87 (20, [some (vR 20 0), some (vI (nI n)), some (vI c), some (vI (nI i)), x4], [], M) (fun r M' => r = some (vI c) ∧ M' = M) := by
  refine rn_iload_n (pc' := 21) rfl rfl rfl ?_
  refine rn_iload_n (pc' := 22) rfl rfl rfl ?_
  refine rn_ic_ge (t := 134) (pc' := 25) rfl rfl rfl (fun h1 => ?_) (fun h1 => ?_)
  · refine rn_iload_n (pc' := 135) rfl rfl rfl ?_
    refine rn_ireturn rfl rfl ?_
    exact ⟨rfl, rfl⟩
  · exact absurd ((nI_ltI hi hn).mp h1) h
theorem r_tickS {d i n r0 : Nat} (M N2 N3 N4 : xM) (c t : Int32) (x4 : Option xV) (Z : Option xV → xM → Prop) (h : i < n) (hn : n < 2 ^ 31) (hr : rok M r0) (hr4 : r0 + 24 ≤ 4000) (ht : t = 0 ∨ t = 1)
    (h2 : Rn d 79 (0, [some (vR 20 0), none, none], [], alF 24 0 (nTick M)) (fun r M' => r = none ∧ M' = N2)) (h3 : Rn d 88 (0, xen 88 [vR 20 0], [], N2) (fun r M' => r = some (vI t) ∧ M' = N3)) (h4 : Rn d 79 (0, [some (vR 20 0), none, none], [], N3) (fun r M' => r = none ∧ M' = N4))
    (k : ∀ x4, Rn (d + 1) 87 (20, [some (vR 20 0), some (vI (nI n)), some (vI (c + t)), some (vI (nI (i + 1))), x4], [], N4) Z) : Rn (d + 1) 87 (20, [some (vR 20 0), some (vI (nI n)), some (vI c), some (vI (nI i)), x4], [], M) Z := by
  have fin : ∀ x4, Rn (d + 1) 87 (105, [some (vR 20 0), some (vI (nI n)), some (vI c), some (vI (nI i)), x4], [], alF 24 0 (nTick M)) Z := by
    intro x4
    have l1 : ∀ N : xM, Rn (d + 1) 87 (122, [some (vR 20 0), some (vI (nI n)), some (vI c), some (vI (nI i)), x4], [vI t, vI c], N3) Z := by
      intro _
      refine rn_iadd (pc' := 123) rfl rfl ?_
      refine rn_istore_n (pc' := 124) rfl rfl rfl (Nat.le_of_ble_eq_true rfl) rfl ?_
      refine rn_aload_n (pc' := 125) rfl rfl rfl ?_
      refine rn_callV (pc' := 128) (as := []) rfl rfl rfl ⟨Nat.le_of_ble_eq_true rfl, rfl, rfl⟩ rfl (by first | assumption | decide | omega) (Nat.le_of_ble_eq_true rfl) (Nat.le_of_ble_eq_true rfl) rfl h4 (fun r1 M1 hz => ?_)
      obtain ⟨rfl, hm_⟩ := hz
      refine rn_mem hm_ ?_
      clear hm_
      refine rn_iinc (pc' := 131) rfl rfl rfl (nI_inc _) rfl (Nat.le_of_ble_eq_true rfl) rfl ?_
      refine rn_goto (pc' := 20) rfl rfl ?_
      exact k x4
    rcases ht with rfl | rfl
    · refine rn_aload_n (pc' := 106) rfl rfl rfl ?_
      refine rn_callV (pc' := 109) (as := []) rfl rfl rfl ⟨Nat.le_of_ble_eq_true rfl, rfl, rfl⟩ rfl (by first | assumption | decide | omega) (Nat.le_of_ble_eq_true rfl) (Nat.le_of_ble_eq_true rfl) rfl h2 (fun r1 M1 hz => ?_)
      obtain ⟨rfl, hm_⟩ := hz
      refine rn_mem hm_ ?_
      clear hm_
      refine rn_iload_n (pc' := 110) rfl rfl rfl ?_
      refine rn_aload_n (pc' := 111) rfl rfl rfl ?_
      refine rn_callV (pc' := 114) (as := []) rfl rfl rfl ⟨Nat.le_of_ble_eq_true rfl, rfl, rfl⟩ rfl (by first | assumption | decide | omega) (Nat.le_of_ble_eq_true rfl) (Nat.le_of_ble_eq_true rfl) rfl h3 (fun r2 M2 hz => ?_)
      obtain ⟨rfl, hm_⟩ := hz
      refine rn_mem hm_ ?_
      clear hm_
      refine rn_if_eq (t := 121) (pc' := 117) rfl rfl rfl (fun h3 => ?_) (fun h3 => ?_)
      · refine rn_iconst (pc' := 122) (v := 0) rfl rfl (by decide) ?_
        exact l1 M
      · exact absurd rfl ‹¬ (0 : Int32) = 0›
    · refine rn_aload_n (pc' := 106) rfl rfl rfl ?_
      refine rn_callV (pc' := 109) (as := []) rfl rfl rfl ⟨Nat.le_of_ble_eq_true rfl, rfl, rfl⟩ rfl (by first | assumption | decide | omega) (Nat.le_of_ble_eq_true rfl) (Nat.le_of_ble_eq_true rfl) rfl h2 (fun r1 M1 hz => ?_)
      obtain ⟨rfl, hm_⟩ := hz
      refine rn_mem hm_ ?_
      clear hm_
      refine rn_iload_n (pc' := 110) rfl rfl rfl ?_
      refine rn_aload_n (pc' := 111) rfl rfl rfl ?_
      refine rn_callV (pc' := 114) (as := []) rfl rfl rfl ⟨Nat.le_of_ble_eq_true rfl, rfl, rfl⟩ rfl (by first | assumption | decide | omega) (Nat.le_of_ble_eq_true rfl) (Nat.le_of_ble_eq_true rfl) rfl h3 (fun r2 M2 hz => ?_)
      obtain ⟨rfl, hm_⟩ := hz
      refine rn_mem hm_ ?_
      clear hm_
      refine rn_if_eq (t := 121) (pc' := 117) rfl rfl rfl (fun h3 => ?_) (fun h3 => ?_)
      · exact absurd ‹(1 : Int32) = 0› (by decide)
      · refine rn_iconst (pc' := 118) (v := 1) rfl rfl (by decide) ?_
        refine rn_goto (pc' := 122) rfl rfl ?_
        exact l1 M
  have loop : ∀ (m a q : Nat) (N : xM), a + m = 24 → rok N q → q + m ≤ 4000 → alF m a N = alF 24 0 (nTick M) → Rn (d + 1) 87 (38, [some (vR 20 0), some (vI (nI n)), some (vI c), some (vI (nI i)), some (vI (nI a))], [], N) Z := by
    intro m
    induction m with
    | zero =>
      intro a q N ha hq hq4 he
      obtain rfl : a = 24 := by omega
      have fin := fin (some (vI (nI 24)))
      rw [← he] at fin
      refine rn_iload (pc' := 40) rfl rfl rfl ?_
      refine rn_bipush (pc' := 42) (v := 24) rfl rfl (by decide) ?_
      refine rn_ic_ge (t := 105) (pc' := 45) rfl rfl rfl (fun h1 => ?_) (fun h1 => ?_)
      · exact fin
      · exact absurd ((lt24 (by omega)).mp h1) (by omega)
    | succ m ih =>
      intro a q N ha hq hq4 he
      have ha24 : a < 24 := by omega
      unfold alF at he
      have no : ¬ (0 < rpid N a ∧ 0 < ralm N a ∧ ralm N a ≤ (N.1 20 0 26).toInt64) → Rn (d + 1) 87 (99, [some (vR 20 0), some (vI (nI n)), some (vI c), some (vI (nI i)), some (vI (nI a))], [], N) Z := by
        intro hc
        rw [if_neg hc] at he
        refine rn_iinc (pc' := 102) rfl rfl rfl (nI_inc _) rfl (Nat.le_of_ble_eq_true rfl) rfl ?_
        refine rn_goto (pc' := 38) rfl rfl ?_
        exact ih (a + 1) q N (by omega) hq (by omega) he
      have yes : (0 < rpid N a ∧ 0 < ralm N a ∧ ralm N a ≤ (N.1 20 0 26).toInt64) → Rn (d + 1) 87 (83, [some (vR 20 0), some (vI (nI n)), some (vI c), some (vI (nI i)), some (vI (nI a))], [], N) Z := by
        intro hc
        rw [if_pos hc] at he
        refine rn_aload_n (pc' := 84) rfl rfl rfl ?_
        refine rn_getF (N := 1) (t' := 38) (pc' := 87) rfl rfl rfl rfl rfl (by first | assumption | decide | omega) ?_
        refine rn_iload (pc' := 89) rfl rfl rfl ?_
        refine rn_lconst (pc' := 90) (v := 0) rfl rfl rfl ?_
        refine rn_last (N := 1) (K := 24) (pc' := 91) rfl rfl ⟨rfl, rfl⟩ rfl (by first | assumption | decide | omega) rfl (by decide) rfl (by first | assumption | decide | omega) ?_
        refine rn_aload_n (pc' := 92) rfl rfl rfl ?_
        refine rn_iload (pc' := 94) rfl rfl rfl ?_
        refine rn_bipush (pc' := 96) (v := 14) rfl rfl (by decide) ?_
        refine rn_callV (pc' := 99) (as := [_, _]) rfl rfl rfl ⟨Nat.le_of_ble_eq_true rfl, rfl, rfl⟩ rfl (by first | assumption | decide | omega) (Nat.le_of_ble_eq_true rfl) (Nat.le_of_ble_eq_true rfl) rfl (r_send _ 14 ha24 (n := q) hq (by omega)) (fun r1 M1 hz => ?_)
        obtain ⟨rfl, hm_⟩ := hz
        refine rn_mem hm_ ?_
        clear hm_
        refine rn_iinc (pc' := 102) rfl rfl rfl (nI_inc _) rfl (Nat.le_of_ble_eq_true rfl) rfl ?_
        refine rn_goto (pc' := 38) rfl rfl ?_
        exact ih (a + 1) (q + 1) _ (by omega) (rok_send (M := mJ N 38 0 a 0) hq a 14) (by omega) he
      refine rn_iload (pc' := 40) rfl rfl rfl ?_
      refine rn_bipush (pc' := 42) (v := 24) rfl rfl (by decide) ?_
      refine rn_ic_ge (t := 105) (pc' := 45) rfl rfl rfl (fun h1 => ?_) (fun h1 => ?_)
      · exact absurd ((lt24 (by omega)).mpr ha24) h1
      · refine rn_aload_n (pc' := 46) rfl rfl rfl ?_
        refine rn_getF (N := 1) (t' := 25) (pc' := 49) rfl rfl rfl rfl rfl (by first | assumption | decide | omega) ?_
        refine rn_iload (pc' := 51) rfl rfl rfl ?_
        refine rn_iald (N := 1) (K := 24) (pc' := 52) rfl rfl ⟨rfl, rfl⟩ rfl (by first | assumption | decide | omega) rfl (by decide) rfl (by first | assumption | decide | omega) ?_
        refine rn_if_le (t := 99) (pc' := 55) rfl rfl rfl (fun h2 => ?_) (fun h2 => ?_)
        · (simp only [lg_gt] at *; first | exact no (fun q => absurd q.1 h2) | exact no (fun q => absurd q.2.1 h3) | exact no (fun q => absurd q.2.2 (Int64.not_le.mpr h4)))
        · refine rn_aload_n (pc' := 56) rfl rfl rfl ?_
          refine rn_getF (N := 1) (t' := 38) (pc' := 59) rfl rfl rfl rfl rfl (by first | assumption | decide | omega) ?_
          refine rn_iload (pc' := 61) rfl rfl rfl ?_
          refine rn_lald (N := 1) (K := 24) (pc' := 62) rfl rfl ⟨rfl, rfl⟩ rfl (by first | assumption | decide | omega) rfl (by decide) rfl (by first | assumption | decide | omega) ?_
          refine rn_lconst (pc' := 63) (v := 0) rfl rfl rfl ?_
          refine rn_lcmp (pc' := 64) rfl rfl ?_
          refine rn_if_le (t := 99) (pc' := 67) rfl rfl rfl (fun h3 => ?_) (fun h3 => ?_)
          · (simp only [lg_gt] at *; first | exact no (fun q => absurd q.1 h2) | exact no (fun q => absurd q.2.1 h3) | exact no (fun q => absurd q.2.2 (Int64.not_le.mpr h4)))
          · refine rn_aload_n (pc' := 68) rfl rfl rfl ?_
            refine rn_getF (N := 1) (t' := 38) (pc' := 71) rfl rfl rfl rfl rfl (by first | assumption | decide | omega) ?_
            refine rn_iload (pc' := 73) rfl rfl rfl ?_
            refine rn_lald (N := 1) (K := 24) (pc' := 74) rfl rfl ⟨rfl, rfl⟩ rfl (by first | assumption | decide | omega) rfl (by decide) rfl (by first | assumption | decide | omega) ?_
            refine rn_aload_n (pc' := 75) rfl rfl rfl ?_
            refine rn_getI (N := 1) (pc' := 78) rfl rfl rfl rfl (by decide) rfl (by first | assumption | decide | omega) ?_
            refine rn_i2l (pc' := 79) rfl rfl ?_
            refine rn_lcmp (pc' := 80) rfl rfl ?_
            refine rn_if_gt (t := 99) (pc' := 83) rfl rfl rfl (fun h4 => ?_) (fun h4 => ?_)
            · (simp only [lg_gt] at *; first | exact no (fun q => absurd q.1 h2) | exact no (fun q => absurd q.2.1 h3) | exact no (fun q => absurd q.2.2 (Int64.not_le.mpr h4)))
            · (simp only [lg_gt] at *; exact yes ⟨h2, h3, Int64.not_lt.mp h4⟩)
  refine rn_iload_n (pc' := 21) rfl rfl rfl ?_
  refine rn_iload_n (pc' := 22) rfl rfl rfl ?_
  refine rn_ic_ge (t := 134) (pc' := 25) rfl rfl rfl (fun h1 => ?_) (fun h1 => ?_)
  · exact absurd ((nI_ltI (by omega) hn).mpr h) h1
  · refine rn_aload_n (pc' := 26) rfl rfl rfl ?_
    refine rn_dupA (pc' := 27) rfl rfl ?_
    refine rn_getI (N := 1) (pc' := 30) rfl rfl rfl rfl (by decide) rfl (by first | assumption | decide | omega) ?_
    refine rn_iconst (pc' := 31) (v := 1) rfl rfl (by decide) ?_
    refine rn_iadd (pc' := 32) rfl rfl ?_
    refine rn_putI (N := 1) (pc' := 35) rfl rfl rfl rfl rfl (by first | assumption | decide | omega) ?_
    refine rn_iconst (pc' := 36) (v := 0) rfl rfl (by decide) ?_
    refine rn_istore (pc' := 38) rfl rfl rfl (Nat.le_of_ble_eq_true rfl) rfl ?_
    exact loop 24 0 r0 _ rfl hr (by omega) rfl
/-! kill from outside -/
theorem r_killU {d : Nat} (M : xM) (p s : Int32) (h : eo M p = none) : Rn (d + 1) 99 (0, xen 99 [vR 20 0, vI p, vI s], [], M) (fun r M' => r = some (vI (-1001)) ∧ M' = M) := by
  have ho := oI_neg (o := eo M p) (fun e h => eo_lt h)
  show Rn _ 99 (0, [some (vR 20 0), some (vI p), some (vI s), none], [], _) _
  refine rn_aload_n (pc' := 1) rfl rfl rfl ?_
  refine rn_iload_n (pc' := 2) rfl rfl rfl ?_
  refine rn_callV (pc' := 5) (as := [_]) rfl rfl rfl ⟨Nat.le_of_ble_eq_true rfl, rfl, rfl⟩ rfl (by first | assumption | decide | omega) (Nat.le_of_ble_eq_true rfl) (Nat.le_of_ble_eq_true rfl) rfl (r_entryOf M p) (fun r1 M1 hz => ?_)
  obtain ⟨rfl, hm_⟩ := hz
  refine rn_mem hm_ ?_
  clear hm_
  refine rn_istore_n (pc' := 6) rfl rfl rfl (Nat.le_of_ble_eq_true rfl) rfl ?_
  refine rn_iload_n (pc' := 7) rfl rfl rfl ?_
  refine rn_if_ge (t := 14) (pc' := 10) rfl rfl rfl (fun h2 => ?_) (fun h2 => ?_)
  · exact absurd (ho.mpr h) h2
  · refine rn_sipush (pc' := 13) (v := (-1001)) rfl rfl (by decide) ?_
    refine rn_ireturn rfl rfl ?_
    exact ⟨rfl, rfl⟩
theorem r_killO {d e : Nat} (M : xM) (p s : Int32) (h : eo M p = some e) (hs : ¬ isS1 s) : Rn (d + 1) 99 (0, xen 99 [vR 20 0, vI p, vI s], [], M) (fun r M' => r = some (vI (-1002)) ∧ M' = M) := by
  have hp := nI_pos (n := e) (by have := eo_lt h; omega)
  show Rn _ 99 (0, [some (vR 20 0), some (vI p), some (vI s), none], [], _) _
  refine rn_aload_n (pc' := 1) rfl rfl rfl ?_
  refine rn_iload_n (pc' := 2) rfl rfl rfl ?_
  refine rn_callV (pc' := 5) (as := [_]) rfl rfl rfl ⟨Nat.le_of_ble_eq_true rfl, rfl, rfl⟩ rfl (by first | assumption | decide | omega) (Nat.le_of_ble_eq_true rfl) (Nat.le_of_ble_eq_true rfl) rfl (r_entryOf M p) (fun r1 M1 hz => ?_)
  obtain ⟨rfl, hm_⟩ := hz
  refine rn_mem hm_ ?_
  clear hm_
  refine rn_topI (oI_some h) ?_
  refine rn_istore_n (pc' := 6) rfl rfl rfl (Nat.le_of_ble_eq_true rfl) rfl ?_
  refine rn_iload_n (pc' := 7) rfl rfl rfl ?_
  refine rn_if_ge (t := 14) (pc' := 10) rfl rfl rfl (fun h2 => ?_) (fun h2 => ?_)
  · refine rn_iload_n (pc' := 15) rfl rfl rfl ?_
    refine rn_i2l (pc' := 16) rfl rfl ?_
    refine rn_lconst (pc' := 17) (v := 1) rfl rfl rfl ?_
    refine rn_ldc2_w (pc' := 20) (v := 20) rfl rfl rfl ?_
    refine rn_callS (pc' := 23) (as := [_, _, _]) rfl rfl rfl ⟨rfl, rfl, rfl⟩ (Nat.le_of_ble_eq_true rfl) (Nat.le_of_ble_eq_true rfl) rfl (r_in M _ 1 20) (fun r3 M3 hz => ?_)
    obtain ⟨rfl, hm_⟩ := hz
    refine rn_mem hm_ ?_
    clear hm_
    refine rn_if_ne (t := 30) (pc' := 26) rfl rfl rfl (fun h4 => ?_) (fun h4 => ?_)
    · exact absurd (ite01.mpr hs) h4
    · refine rn_sipush (pc' := 29) (v := (-1002)) rfl rfl (by decide) ?_
      refine rn_ireturn rfl rfl ?_
      exact ⟨rfl, rfl⟩
  · exact absurd h2 hp
theorem r_killOut {d e n : Nat} (M N : xM) (p s : Int32) (h : eo M p = some e) (hs : isS1 s) (hn : rok M n) (hn4 : n < 4000) (h2 : Rn d 79 (0, [some (vR 20 0), none, none], [], f_send M e s) (fun r M' => r = none ∧ M' = N)) : Rn (d + 1) 99 (0, xen 99 [vR 20 0, vI p, vI s], [], M) (fun r M' => r = some (vI 1) ∧ M' = N) := by
  have he := eo_lt h
  have hp := nI_pos (n := e) (by omega)
  show Rn _ 99 (0, [some (vR 20 0), some (vI p), some (vI s), none], [], _) _
  refine rn_aload_n (pc' := 1) rfl rfl rfl ?_
  refine rn_iload_n (pc' := 2) rfl rfl rfl ?_
  refine rn_callV (pc' := 5) (as := [_]) rfl rfl rfl ⟨Nat.le_of_ble_eq_true rfl, rfl, rfl⟩ rfl (by first | assumption | decide | omega) (Nat.le_of_ble_eq_true rfl) (Nat.le_of_ble_eq_true rfl) rfl (r_entryOf M p) (fun r1 M1 hz => ?_)
  obtain ⟨rfl, hm_⟩ := hz
  refine rn_mem hm_ ?_
  clear hm_
  refine rn_topI (oI_some h) ?_
  refine rn_istore_n (pc' := 6) rfl rfl rfl (Nat.le_of_ble_eq_true rfl) rfl ?_
  refine rn_iload_n (pc' := 7) rfl rfl rfl ?_
  refine rn_if_ge (t := 14) (pc' := 10) rfl rfl rfl (fun hb7 => ?_) (fun hb7 => ?_)
  · refine rn_iload_n (pc' := 15) rfl rfl rfl ?_
    refine rn_i2l (pc' := 16) rfl rfl ?_
    refine rn_lconst (pc' := 17) (v := 1) rfl rfl rfl ?_
    refine rn_ldc2_w (pc' := 20) (v := 20) rfl rfl rfl ?_
    refine rn_callS (pc' := 23) (as := [_, _, _]) rfl rfl rfl ⟨rfl, rfl, rfl⟩ (Nat.le_of_ble_eq_true rfl) (Nat.le_of_ble_eq_true rfl) rfl (r_in M _ 1 20) (fun r3 M3 hz => ?_)
    obtain ⟨rfl, hm_⟩ := hz
    refine rn_mem hm_ ?_
    clear hm_
    refine rn_if_ne (t := 30) (pc' := 26) rfl rfl rfl (fun hb23 => ?_) (fun hb23 => ?_)
    · refine rn_aload_n (pc' := 31) rfl rfl rfl ?_
      refine rn_iload_n (pc' := 32) rfl rfl rfl ?_
      refine rn_iload_n (pc' := 33) rfl rfl rfl ?_
      refine rn_callV (pc' := 36) (as := [_, _]) rfl rfl rfl ⟨Nat.le_of_ble_eq_true rfl, rfl, rfl⟩ rfl (by first | assumption | decide | omega) (Nat.le_of_ble_eq_true rfl) (Nat.le_of_ble_eq_true rfl) rfl (r_send M s he hn hn4) (fun r5 M5 hz => ?_)
      obtain ⟨rfl, hm_⟩ := hz
      refine rn_mem hm_ ?_
      clear hm_
      refine rn_aload_n (pc' := 37) rfl rfl rfl ?_
      refine rn_callV (pc' := 40) (as := []) rfl rfl rfl ⟨Nat.le_of_ble_eq_true rfl, rfl, rfl⟩ rfl (by first | assumption | decide | omega) (Nat.le_of_ble_eq_true rfl) (Nat.le_of_ble_eq_true rfl) rfl h2 (fun r6 M6 hz => ?_)
      obtain ⟨rfl, hm_⟩ := hz
      refine rn_mem hm_ ?_
      clear hm_
      refine rn_iconst (pc' := 41) (v := 1) rfl rfl (by decide) ?_
      refine rn_ireturn rfl rfl ?_
      exact ⟨rfl, rfl⟩
    · exact absurd hs (ite01.mp hb23)
  · exact absurd hb7 hp
end
section
/-! CLASS AND REFERENCE: what holds between the class's memory C and the reference's R, with n signals in the row -/
def fp : List (Nat × Nat) := [(0, 25), (2, 27), (3, 28), (4, 29), (5, 30), (9, 34), (12, 35), (14, 39), (16, 41), (17, 42)]
def sp : List (Nat × Nat) := [(10, 26), (11, 25), (12, 24), (13, 34), (14, 35), (15, 36), (16, 37), (17, 38), (18, 39)]
def A1l (C R : xM) : Prop := ∀ e, e < 24 → ∀ q ∈ fp, C.1 0 e q.1 = R.1 q.2 0 e
def A1 (C R : xM) : Prop := ∀ e, e < 24 → C.1 0 e 0 = R.1 25 0 e ∧ C.1 0 e 2 = R.1 27 0 e ∧ C.1 0 e 3 = R.1 28 0 e ∧ C.1 0 e 4 = R.1 29 0 e ∧ C.1 0 e 5 = R.1 30 0 e ∧ C.1 0 e 9 = R.1 34 0 e ∧ C.1 0 e 12 = R.1 35 0 e ∧ C.1 0 e 14 = R.1 39 0 e ∧ C.1 0 e 16 = R.1 41 0 e ∧ C.1 0 e 17 = R.1 42 0 e
theorem A1_l {C R : xM} : A1 C R ↔ A1l C R := by
  constructor
  · intro h e he q hq
    obtain ⟨h1, h2, h3, h4, h5, h6, h7, h8, h9, h10⟩ := h e he
    simp only [fp, List.mem_cons, List.not_mem_nil, or_false] at hq
    rcases hq with rfl | rfl | rfl | rfl | rfl | rfl | rfl | rfl | rfl | rfl <;> assumption
  · intro h e he
    exact ⟨h e he (0, 25) (by decide), h e he (2, 27) (by decide), h e he (3, 28) (by decide), h e he (4, 29) (by decide), h e he (5, 30) (by decide), h e he (9, 34) (by decide), h e he (12, 35) (by decide), h e he (14, 39) (by decide), h e he (16, 41) (by decide), h e he (17, 42) (by decide)⟩
def A2 (C R : xM) : Prop := ∀ e, e < 24 → ∀ r, r < 8 → C.1 1 e r = R.1 31 0 (8 * e + r)
def A3 (C R : xM) : Prop := ∀ e, e < 24 → ∀ s, s < 21 → C.1 2 e s = R.1 32 0 (21 * e + s)
def A4 (C R : xM) : Prop := ∀ e, e < 24 → ∀ k, k < 4 → C.1 3 e k = R.1 36 0 (4 * e + k) ∧ C.1 4 e k = R.1 37 0 (4 * e + k)
def A5 (C R : xM) : Prop := ∀ e, e < 24 → C.2.1 0 e 13 = R.2.1 38 0 e
def A6 (C R : xM) : Prop := ∀ e, e < 24 → (0 < R.1 25 0 e → C.1 0 e 8 = R.1 33 0 e) ∧ (R.1 25 0 e = 0 → C.1 0 e 8 = 0)
def A7 (C R : xM) : Prop := ∀ e, e < 24 → 0 < R.1 25 0 e → R.1 28 0 e = 3 → C.1 0 e 15 = R.1 40 0 e
def A8 (C R : xM) : Prop := ∀ e, e < 24 → 0 < R.1 25 0 e → (R.1 28 0 e = 1 ∨ R.1 28 0 e = 2) → C.1 0 e 18 = R.1 43 0 e ∧ R.1 30 0 e + 1 = R.1 44 0 e
def PR (C R : xM) (e : Nat) : Prop := (e = 0 ∧ C.2.2 0 e 1 = none ∧ R.1 26 0 e = 0) ∨ (¬ e = 0 ∧ ∃ q, q < 24 ∧ ¬ q = e ∧ C.2.2 0 e 1 = some q ∧ 0 < R.1 25 0 q ∧ ¬ R.1 28 0 q = 4 ∧ R.1 26 0 e = R.1 25 0 q)
def A9 (C R : xM) : Prop := ∀ e, e < 24 → 0 < R.1 25 0 e → PR C R e
def A10l (C R : xM) : Prop := ∀ q ∈ sp, C.1 9 0 q.1 = R.1 20 0 q.2
def A10 (C R : xM) : Prop := C.1 9 0 10 = R.1 20 0 26 ∧ C.1 9 0 11 = R.1 20 0 25 ∧ C.1 9 0 12 = R.1 20 0 24 ∧ C.1 9 0 13 = R.1 20 0 34 ∧ C.1 9 0 14 = R.1 20 0 35 ∧ C.1 9 0 15 = R.1 20 0 36 ∧ C.1 9 0 16 = R.1 20 0 37 ∧ C.1 9 0 17 = R.1 20 0 38 ∧ C.1 9 0 18 = R.1 20 0 39
theorem A10_l {C R : xM} : A10 C R ↔ A10l C R := by
  constructor
  · intro h q hq
    obtain ⟨h1, h2, h3, h4, h5, h6, h7, h8, h9⟩ := h
    simp only [sp, List.mem_cons, List.not_mem_nil, or_false] at hq
    rcases hq with rfl | rfl | rfl | rfl | rfl | rfl | rfl | rfl | rfl <;> assumption
  · intro h
    exact ⟨h (10, 26) (by decide), h (11, 25) (by decide), h (12, 24) (by decide), h (13, 34) (by decide), h (14, 35) (by decide), h (15, 36) (by decide), h (16, 37) (by decide), h (17, 38) (by decide), h (18, 39) (by decide)⟩
def A11 (C R : xM) : Prop := ∃ g, R.1 20 0 31 = nI g ∧ C.1 9 0 9 = nI (g % 40) ∧ C.1 9 0 8 = nI (lgN g) ∧ ∀ i, i < 40 → C.1 15 0 i = R.1 47 0 i ∧ C.1 16 0 i = R.1 48 0 i
def A12 (C R : xM) : Prop := ∀ p, p < 16 → C.1 5 p 3 = R.1 21 0 p ∧ ∀ i, i < 60 → C.1 6 p i = R.1 22 0 (60 * p + i) ∧ C.1 7 p i = R.1 23 0 (60 * p + i) ∧ C.1 8 p i = R.1 24 0 (60 * p + i)
/-- an element of the row -/
def RW (C R : xM) (i : Nat) : Prop := ∃ e s, e < 24 ∧ 1 ≤ s ∧ s < 21 ∧ C.2.2 12 0 i = some e ∧ C.1 13 0 i = nI s ∧ R.1 46 0 i = nI s ∧ 0 < R.1 45 0 i ∧ (∀ e', e' < 24 → R.1 25 0 e' = R.1 45 0 i → e' = e) ∧ (R.1 25 0 e = R.1 45 0 i ∨ R.1 25 0 e = 0)
def A13 (C R : xM) (n : Nat) : Prop := C.1 9 0 4 = nI n ∧ rok R n ∧ n ≤ 1224 ∧ ∀ i, i < n → RW C R i
/-- the reference by itself -/
def B1 (R : xM) : Prop := ∀ e, e < 24 → R.1 25 0 e = 0 ∨ ∃ p, 1 ≤ p ∧ p ≤ 999 ∧ R.1 25 0 e = nI p
def B2 (R : xM) : Prop := ∀ e e', e < 24 → e' < 24 → 0 < R.1 25 0 e → R.1 25 0 e' = R.1 25 0 e → e' = e
def B3 (R : xM) : Prop := R.1 25 0 0 = 1 ∨ ∀ e, e < 24 → R.1 25 0 e = 0
def B4 (R : xM) : Prop := ∀ e, e < 24 → 0 < R.1 25 0 e → ∃ g, 1 ≤ g ∧ g < 1000 ∧ R.1 27 0 e = nI g
def B5 (R : xM) : Prop := ∀ e, e < 24 → (∃ p, p < 16 ∧ R.1 29 0 e = nI p) ∧ (∃ h, h ≤ 4 ∧ R.1 35 0 e = nI h)
def B7 (R : xM) : Prop := ∀ e, e < 24 → 0 < R.1 25 0 e → R.1 33 0 e &&& 2097150 = R.1 33 0 e
def B8 (R : xM) (t : Nat) : Prop := R.1 20 0 26 = nI t ∧ t < 2 ^ 30 ∧ ∀ e, e < 24 → 0 < R.1 25 0 e → R.2.1 38 0 e = 0 ∨ (nI t).toInt64 < R.2.1 38 0 e
def B9 (R : xM) : Prop := ∀ e, e < 24 → (R.1 28 0 e = 1 ∨ R.1 28 0 e = 2) → ∃ w, w < 8 ∧ R.1 43 0 e = nI w
def B10 (R : xM) : Prop := (∀ e, e < 24 → 0 < R.1 25 0 e → ¬ R.1 28 0 e = 4 → R.1 39 0 e = 0) ∧ ¬ R.1 28 0 0 = 4
def B11 (R : xM) : Prop := (∃ l, l ≤ 999 ∧ R.1 20 0 24 = nI l) ∧ (∃ t, t < 24 ∧ R.1 20 0 25 = nI t) ∧ R.1 20 0 30 = nI (R.1 20 0 30).toNatClampNeg
def B14 (R : xM) : Prop := ∀ p, p < 16 → ∃ n, n ≤ 60 ∧ R.1 21 0 p = nI n
def IC (C R : xM) : Prop := A1 C R ∧ A2 C R ∧ A3 C R ∧ A4 C R ∧ A5 C R ∧ A6 C R ∧ A7 C R ∧ A8 C R ∧ A9 C R ∧ A10 C R ∧ A11 C R ∧ A12 C R
def IR (R : xM) : Prop := B1 R ∧ B2 R ∧ B3 R ∧ B4 R ∧ B5 R ∧ B7 R ∧ B9 R ∧ B10 R ∧ B11 R ∧ B14 R
def Inv (C R : xM) (n : Nat) : Prop := IC C R ∧ A13 C R n ∧ IR R
theorem fp_in {k t : Nat} (h : (k, t) ∈ fp) : ∀ q ∈ fp, (q.1 = k ↔ q.2 = t) := by
  have h0 : ∀ a ∈ fp, ∀ q ∈ fp, (q.1 = a.1 ↔ q.2 = a.2) := by decide
  exact h0 (k, t) h
theorem sp_in {k t : Nat} (h : (k, t) ∈ sp) : ∀ q ∈ sp, (q.1 = k ↔ q.2 = t) := by
  have h0 : ∀ a ∈ sp, ∀ q ∈ sp, (q.1 = a.1 ↔ q.2 = a.2) := by decide
  exact h0 (k, t) h
/-- a plain field of an entry set on both sides -/
theorem A1_set {C R : xM} {e k t : Nat} {v : Int32} (h : A1 C R) (hk : (k, t) ∈ fp) : A1 (mI C 0 e k v) (mI R t 0 e v) := by
  rw [A1_l] at h ⊢
  intro e' he' q hq
  have hi := fp_in hk q hq
  simp only [mI, xu, true_and]
  by_cases h1 : e' = e ∧ q.1 = k
  · rw [if_pos h1, if_pos ⟨hi.mp h1.2, h1.1⟩]
  · rw [if_neg h1, if_neg (fun z => h1 ⟨z.2, hi.mpr z.1⟩)]
    exact h e' he' q hq
theorem A2_set {C R : xM} {e r : Nat} {v : Int32} (h : A2 C R) (hr : r < 8) : A2 (mI C 1 e r v) (mI R 31 0 (8 * e + r) v) := by
  intro e' he' r' hr'
  simp only [mI, xu, true_and]
  by_cases h1 : e' = e ∧ r' = r
  · rw [if_pos h1, if_pos (by omega)]
  · rw [if_neg h1, if_neg (by omega)]
    exact h e' he' r' hr'
theorem A3_set {C R : xM} {e r : Nat} {v : Int32} (h : A3 C R) (hr : r < 21) : A3 (mI C 2 e r v) (mI R 32 0 (21 * e + r) v) := by
  intro e' he' r' hr'
  simp only [mI, xu, true_and]
  by_cases h1 : e' = e ∧ r' = r
  · rw [if_pos h1, if_pos (by omega)]
  · rw [if_neg h1, if_neg (by omega)]
    exact h e' he' r' hr'
theorem A10_set {C R : xM} {k t : Nat} {v : Int32} (h : A10 C R) (hk : (k, t) ∈ sp) : A10 (mI C 9 0 k v) (mI R 20 0 t v) := by
  rw [A10_l] at h ⊢
  intro q hq
  have hi := sp_in hk q hq
  simp only [mI, xu, true_and]
  by_cases h1 : q.1 = k
  · rw [if_pos h1, if_pos (hi.mp h1)]
  · rw [if_neg h1, if_neg (fun z => h1 (hi.mpr z))]
    exact h q hq
theorem f1 {C R : xM} (h : A1 C R) {e : Nat} (he : e < 24) {k t : Nat} (hk : (k, t) ∈ fp) : C.1 0 e k = R.1 t 0 e := A1_l.mp h e he (k, t) hk
theorem lv_or {R : xM} (h : B1 R) {e : Nat} (he : e < 24) : R.1 25 0 e = 0 ∨ 0 < R.1 25 0 e := by
  rcases h e he with h | ⟨p, h1, h2, h3⟩
  · exact Or.inl h
  · right
    rw [h3]
    exact nI_lt (a := 0) (by omega) (by omega)
/-- the state of an entry set on both sides, to what is no sleep, no stop, no end -/
theorem Inv_ste0 {C R : xM} {n e : Nat} (h : Inv C R n) (h4 : ¬ R.1 28 0 e = 4) : Inv (mI C 0 e 3 0) (mI R 28 0 e 0) n := by
  obtain ⟨⟨a1, a2, a3, a4, a5, a6, a7, a8, a9, a10, a11, a12⟩, a13, b1, b2, b3, b4, b5, b7, b9, b10, b11, b14⟩ := h
  have hs : ∀ e', (mI R 28 0 e 0).1 28 0 e' = if e' = e then 0 else R.1 28 0 e' := fun e' => by simp [mI, xu]
  refine ⟨⟨A1_set a1 (by decide), a2, a3, a4, a5, ?_, ?_, ?_, ?_, a10, a11, a12⟩, a13, b1, b2, b3, b4, b5, b7, ?_, ?_, b11, b14⟩
  · intro e' he'
    have := a6 e' he'
    exact ⟨fun q => by simpa [mI, xu] using this.1 q, fun q => by simpa [mI, xu] using this.2 q⟩
  · intro e' he' hl h3
    rw [hs] at h3
    by_cases hc : e' = e
    · rw [if_pos hc] at h3; exact absurd h3 (by decide)
    · rw [if_neg hc] at h3
      have := a7 e' he' hl h3
      simpa [mI, xu] using this
  · intro e' he' hl h3
    rw [hs] at h3
    by_cases hc : e' = e
    · rw [if_pos hc] at h3; exact absurd h3 (by decide)
    · rw [if_neg hc] at h3
      have := a8 e' he' hl h3
      simpa [mI, xu] using this
  · intro e' he' hl
    rcases a9 e' he' hl with h | ⟨h1, q, h2, h3, h5, h6, h7, h8⟩
    · exact Or.inl h
    · refine Or.inr ⟨h1, q, h2, h3, h5, h6, ?_, h8⟩
      rw [hs]
      split
      · decide
      · exact h7
  · intro e' he' h3
    rw [hs] at h3
    by_cases hc : e' = e
    · rw [if_pos hc] at h3; exact absurd h3 (by decide)
    · rw [if_neg hc] at h3
      exact b9 e' he' h3
  · refine ⟨?_, ?_⟩
    · intro e' he' hl h3
      rw [hs] at h3
      by_cases hc : e' = e
      · subst hc
        exact b10.1 e' he' hl h4
      · rw [if_neg hc] at h3
        exact b10.1 e' he' hl h3
    · rw [hs]
      split
      · decide
      · exact b10.2
end
section
/-! THE CLASS: small methods, against the reference's functions -/
theorem rn_topO {d j pc t : Nat} {L : xLs} {st : List xV} {M : xM} {Z : Option xV → xM → Prop} {o o' : Option Nat} (e : o = o') (h : Rn d j (pc, L, vO t o' :: st, M) Z) : Rn d j (pc, L, vO t o :: st, M) Z := by rw [e]; exact h
theorem eo_is {R : xM} (h2 : B2 R) {e : Nat} (he : e < 24) {p : Int32} (hp : 0 < p) (h : R.1 25 0 e = p) : eo R p = some e := by
  cases hq : eo R p with
  | none => exact absurd ⟨hp, h⟩ (eoF_none hq e he)
  | some e' =>
    obtain ⟨q1, q2, q3⟩ := eoF_some hq
    have := h2 e e' he q1 (by rw [h]; exact hp) (by rw [h]; exact q3)
    rw [this]
theorem eo_no {R : xM} {p : Int32} (h : ∀ e, e < 24 → ¬ (0 < p ∧ R.1 25 0 e = p)) : eo R p = none := by
  cases hq : eo R p with
  | none => rfl
  | some e' =>
    obtain ⟨q1, q2, q3⟩ := eoF_some hq
    exact absurd ⟨q2, q3⟩ (h e' q1)
theorem c_find {d : Nat} {C R : xM} (p : Int32) (a1 : A1 C R) (b2 : B2 R) : Rn d 16 (0, xen 16 [vR 9 0, vI p], [], C) (fun r C' => r = some (vO 0 (eo R p)) ∧ C' = C) := by
  by_cases hp : 0 < p
  · have loop : ∀ (m i : Nat) (x5 : Option xV), i + m = 24 → (∀ e, e < i → ¬ R.1 25 0 e = p) → Rn d 16 (17, [some (vR 9 0), some (vI p), some (vR 11 0), some (vI 24), some (vI (nI i)), x5], [], C) (fun r C' => r = some (vO 0 (eo R p)) ∧ C' = C) := by
      intro m
      induction m with
      | zero =>
        intro i x5 hi hq
        obtain rfl : i = 24 := by omega
        have e0 : eo R p = none := eo_no (fun e he q => hq e he q.2)
        rw [e0]
        refine rn_iload (pc' := 19) rfl rfl rfl ?_
        refine rn_iload_n (pc' := 20) rfl rfl rfl ?_
        refine rn_ic_ge (t := 47) (pc' := 23) rfl rfl rfl (fun h1 => ?_) (fun h1 => ?_)
        · refine rn_aconst_null (pc' := 48) rfl rfl ?_
          refine rn_areturn rfl rfl ?_
          exact ⟨rfl, rfl⟩
        · exact absurd ((lt24 (by omega)).mp h1) (by omega)
      | succ m ih =>
        intro i x5 hi hq
        have hi24 : i < 24 := by omega
        have f1' : C.1 0 i 0 = R.1 25 0 i := f1 a1 hi24 (by decide)
        refine rn_iload (pc' := 19) rfl rfl rfl ?_
        refine rn_iload_n (pc' := 20) rfl rfl rfl ?_
        refine rn_ic_ge (t := 47) (pc' := 23) rfl rfl rfl (fun h1 => ?_) (fun h1 => ?_)
        · exact absurd ((lt24 (by omega)).mpr hi24) h1
        · refine rn_aload_n (pc' := 24) rfl rfl rfl ?_
          refine rn_iload (pc' := 26) rfl rfl rfl ?_
          refine rn_aaldF (t' := 0) (N := 1) (K := 24) (pc' := 27) rfl rfl rfl rfl rfl (by first | assumption | decide | omega) rfl (by decide) rfl (by first | assumption | decide | omega) ?_
          refine rn_astore (pc' := 29) rfl rfl rfl (Nat.le_of_ble_eq_true rfl) rfl ?_
          refine rn_aload (pc' := 31) rfl rfl rfl ?_
          refine rn_getI (N := 24) (pc' := 34) rfl rfl rfl rfl (by decide) rfl (by first | assumption | decide | omega) ?_
          refine rn_iload_n (pc' := 35) rfl rfl rfl ?_
          refine rn_ic_ne (t := 41) (pc' := 38) rfl rfl rfl (fun h2 => ?_) (fun h2 => ?_)
          · refine rn_iinc (pc' := 44) rfl rfl rfl (nI_inc _) rfl (Nat.le_of_ble_eq_true rfl) rfl ?_
            refine rn_goto (pc' := 17) rfl rfl ?_
            (rw [f1'] at h2; exact ih (i + 1) _ (by omega) (fun e he => by by_cases hee : e = i; (· subst hee; exact h2); exact hq e (by omega)))
          · refine rn_aload (pc' := 40) rfl rfl rfl ?_
            refine rn_areturn rfl rfl ?_
            (rw [f1'] at h2; rw [eo_is b2 hi24 hp h2]; exact ⟨rfl, rfl⟩)
    show Rn _ 16 (0, [some (vR 9 0), some (vI p), none, none, none, none], [], _) _
    refine rn_iload_n (pc' := 1) rfl rfl rfl ?_
    refine rn_if_gt (t := 6) (pc' := 4) rfl rfl rfl (fun h1 => ?_) (fun h1 => ?_)
    · refine rn_aload_n (pc' := 7) rfl rfl rfl ?_
      refine rn_getF (N := 1) (t' := 11) (pc' := 10) rfl rfl rfl rfl rfl (by first | assumption | decide | omega) ?_
      refine rn_astore_n (pc' := 11) rfl rfl rfl (Nat.le_of_ble_eq_true rfl) rfl ?_
      refine rn_aload_n (pc' := 12) rfl rfl rfl ?_
      refine rn_alen (N := 1) (K := 24) (pc' := 13) (v := 24) rfl rfl rfl rfl (by first | assumption | decide | omega) rfl rfl ?_
      refine rn_istore_n (pc' := 14) rfl rfl rfl (Nat.le_of_ble_eq_true rfl) rfl ?_
      refine rn_iconst (pc' := 15) (v := 0) rfl rfl (by decide) ?_
      refine rn_istore (pc' := 17) rfl rfl rfl (Nat.le_of_ble_eq_true rfl) rfl ?_
      exact loop 24 0 none rfl (fun e he => absurd he (Nat.not_lt_zero e))
    · exact absurd hp h1
  · have e0 : eo R p = none := eo_no (fun e he q => hp q.1)
    rw [e0]
    show Rn _ 16 (0, [some (vR 9 0), some (vI p), none, none, none, none], [], _) _
    refine rn_iload_n (pc' := 1) rfl rfl rfl ?_
    refine rn_if_gt (t := 6) (pc' := 4) rfl rfl rfl (fun h1 => ?_) (fun h1 => ?_)
    · exact absurd h1 hp
    · refine rn_aconst_null (pc' := 5) rfl rfl ?_
      refine rn_areturn rfl rfl ?_
      exact ⟨rfl, rfl⟩
theorem c_wake {d n e : Nat} {C R : xM} {p : Int32} (h : Inv C R n) (hp : eo R p = some e) : Rn d 4 (0, xen 4 [vR 0 e], [], C) (fun r C' => r = none ∧ Inv C' (f_wake R p) n ∧ C'.1 14 = C.1 14) := by
  have he := eo_lt hp
  have hs : C.1 0 e 3 = R.1 28 0 e := f1 h.1.1 he (by decide)
  unfold f_wake
  rw [hp]
  by_cases h1 : rste R e = 1
  · simp only [if_pos h1]
    show Rn _ 4 (0, [some (vR 0 e)], [], _) _
    refine rn_aload_n (pc' := 1) rfl rfl rfl ?_
    refine rn_getI (N := 24) (pc' := 4) rfl rfl rfl rfl (by decide) rfl (by first | assumption | decide | omega) ?_
    refine rn_iconst (pc' := 5) (v := 1) rfl rfl (by decide) ?_
    refine rn_ic_ne (t := 13) (pc' := 8) rfl rfl rfl (fun h9 => ?_) (fun h9 => ?_)
    · refine rn_return rfl rfl ?_
      first | exact absurd (hs.trans h1) h9 | exact ⟨rfl, Inv_ste0 h (by rw [show R.1 28 0 e = 1 from h1]; decide), rfl⟩
    · refine rn_aload_n (pc' := 9) rfl rfl rfl ?_
      refine rn_iconst (pc' := 10) (v := 0) rfl rfl (by decide) ?_
      refine rn_putI (N := 24) (pc' := 13) rfl rfl rfl rfl rfl (by first | assumption | decide | omega) ?_
      refine rn_return rfl rfl ?_
      first | exact absurd (hs.trans h1) h9 | exact ⟨rfl, Inv_ste0 h (by rw [show R.1 28 0 e = 1 from h1]; decide), rfl⟩
  · simp only [if_neg h1]
    show Rn _ 4 (0, [some (vR 0 e)], [], _) _
    refine rn_aload_n (pc' := 1) rfl rfl rfl ?_
    refine rn_getI (N := 24) (pc' := 4) rfl rfl rfl rfl (by decide) rfl (by first | assumption | decide | omega) ?_
    refine rn_iconst (pc' := 5) (v := 1) rfl rfl (by decide) ?_
    refine rn_ic_ne (t := 13) (pc' := 8) rfl rfl rfl (fun h9 => ?_) (fun h9 => ?_)
    · refine rn_return rfl rfl ?_
      exact ⟨rfl, h, rfl⟩
    · exact absurd (hs.symm.trans h9) h1
theorem c_handles {d e s : Nat} {C : xM} (he : e < 24) (hs : s < 21) : Rn d 7 (0, xen 7 [vR 0 e, vI (nI s)], [], C) (fun r C' => r = some (vI (bI (decide (2 ≤ C.1 2 e s)))) ∧ C' = C) := by
  show Rn _ 7 (0, [some (vR 0 e), some (vI (nI s))], [], _) _
  refine rn_aload_n (pc' := 1) rfl rfl rfl ?_
  refine rn_getF (N := 24) (t' := 2) (pc' := 4) rfl rfl rfl rfl rfl (by first | assumption | decide | omega) ?_
  refine rn_iload_n (pc' := 5) rfl rfl rfl ?_
  refine rn_iald (N := 24) (K := 21) (pc' := 6) rfl rfl ⟨rfl, rfl⟩ rfl (by first | assumption | decide | omega) rfl (by decide) rfl (by first | assumption | decide | omega) ?_
  refine rn_iconst (pc' := 7) (v := 2) rfl rfl (by decide) ?_
  refine rn_ic_lt (t := 14) (pc' := 10) rfl rfl rfl (fun h1 => ?_) (fun h1 => ?_)
  · refine rn_iconst (pc' := 15) (v := 0) rfl rfl (by decide) ?_
    refine rn_zreturn rfl rfl (by decide) ?_
    refine ⟨?_, rfl⟩
    first | (rw [decide_eq_false (Int32.not_le.mpr h1)]; rfl) | (rw [decide_eq_true (Int32.not_lt.mp h1)]; rfl)
  · refine rn_iconst (pc' := 11) (v := 1) rfl rfl (by decide) ?_
    refine rn_goto (pc' := 15) rfl rfl ?_
    refine rn_zreturn rfl rfl (by decide) ?_
    refine ⟨?_, rfl⟩
    first | (rw [decide_eq_false (Int32.not_le.mpr h1)]; rfl) | (rw [decide_eq_true (Int32.not_lt.mp h1)]; rfl)
theorem c_blocks {d e s : Nat} {C : xM} (he : e < 24) : Rn d 8 (0, xen 8 [vR 0 e, vI (nI s)], [], C) (fun r C' => r = some (vI (bI (!decide (C.1 0 e 9 &&& ((1 : Int32) <<< (nI s &&& 31)) = 0)))) ∧ C' = C) := by
  show Rn _ 8 (0, [some (vR 0 e), some (vI (nI s))], [], _) _
  refine rn_aload_n (pc' := 1) rfl rfl rfl ?_
  refine rn_getI (N := 24) (pc' := 4) rfl rfl rfl rfl (by decide) rfl (by first | assumption | decide | omega) ?_
  refine rn_iconst (pc' := 5) (v := 1) rfl rfl (by decide) ?_
  refine rn_iload_n (pc' := 6) rfl rfl rfl ?_
  refine rn_ishl (pc' := 7) rfl rfl ?_
  refine rn_iand (pc' := 8) rfl rfl ?_
  refine rn_if_eq (t := 15) (pc' := 11) rfl rfl rfl (fun h1 => ?_) (fun h1 => ?_)
  · refine rn_iconst (pc' := 16) (v := 0) rfl rfl (by decide) ?_
    refine rn_zreturn rfl rfl (by decide) ?_
    refine ⟨?_, rfl⟩
    simp [bI, h1]
  · refine rn_iconst (pc' := 12) (v := 1) rfl rfl (by decide) ?_
    refine rn_goto (pc' := 16) rfl rfl ?_
    refine rn_zreturn rfl rfl (by decide) ?_
    refine ⟨?_, rfl⟩
    simp [bI, h1]
/-! sending -/
theorem Inv_send {C R : xM} {n e s : Nat} (h : Inv C R n) (hn : n < 1224) (he : e < 24) (hl : 0 < R.1 25 0 e) (hs1 : 1 ≤ s) (hs : s < 21) : Inv (mI (mI (mI (mR C 12 0 n (some e)) 13 0 n (nI s)) 9 0 4 (nI (n + 1))) 9 0 16 (C.1 9 0 16 + 1)) (f_send R e (nI s)) (n + 1) := by
  obtain ⟨⟨a1, a2, a3, a4, a5, a6, a7, a8, a9, a10, a11, a12⟩, ⟨c1, c2, c3, c4⟩, b1, b2, b3, b4, b5, b7, b9, b10, b11, b14⟩ := h
  have hc : (R.1 20 0 29).toNatClampNeg = n := by rw [show R.1 20 0 29 = nI n from c2]; exact nI_clamp (by omega)
  have hR : f_send R e (nI s) = mI (mI (mI (mI R 45 0 n (R.1 25 0 e)) 46 0 n (nI s)) 20 0 29 (R.1 20 0 29 + 1)) 20 0 37 (R.1 20 0 37 + 1) := by unfold f_send; rw [hc]
  rw [hR]
  refine ⟨⟨a1, a2, a3, a4, a5, a6, a7, a8, a9, ?_, a11, a12⟩, ⟨rfl, ?_, by omega, ?_⟩, b1, b2, b3, b4, b5, b7, b9, b10, b11, b14⟩
  · have h16 : C.1 9 0 16 = R.1 20 0 37 := A10_l.mp a10 (16, 37) (by decide)
    rw [h16]
    exact A10_set (C := mI (mI (mR C 12 0 n (some e)) 13 0 n (nI s)) 9 0 4 (nI (n + 1))) (R := mI (mI (mI R 45 0 n (R.1 25 0 e)) 46 0 n (nI s)) 20 0 29 (R.1 20 0 29 + 1)) (k := 16) (t := 37) a10 (by decide)
  · show R.1 20 0 29 + 1 = nI (n + 1)
    rw [show R.1 20 0 29 = nI n from c2]
    exact nI_1 n
  · intro i hi
    by_cases hin : i = n
    · subst hin
      refine ⟨e, s, he, hs1, hs, by simp [mI, mR, xu], by simp [mI, mR, xu], by simp [mI, xu], ?_, ?_, ?_⟩
      · have : (mI (mI (mI (mI R 45 0 i (R.1 25 0 e)) 46 0 i (nI s)) 20 0 29 (R.1 20 0 29 + 1)) 20 0 37 (R.1 20 0 37 + 1)).1 45 0 i = R.1 25 0 e := by simp [mI, xu]
        rw [this]; exact hl
      · intro e' he' q
        have : (mI (mI (mI (mI R 45 0 i (R.1 25 0 e)) 46 0 i (nI s)) 20 0 29 (R.1 20 0 29 + 1)) 20 0 37 (R.1 20 0 37 + 1)).1 45 0 i = R.1 25 0 e := by simp [mI, xu]
        rw [this] at q
        exact b2 e e' he he' hl q
      · left
        simp [mI, xu]
    · obtain ⟨e1, s1, w1, w2, w3, w4, w5, w6, w7, w8, w9⟩ := c4 i (by omega)
      have x1 : (mI (mI (mI (mI R 45 0 n (R.1 25 0 e)) 46 0 n (nI s)) 20 0 29 (R.1 20 0 29 + 1)) 20 0 37 (R.1 20 0 37 + 1)).1 45 0 i = R.1 45 0 i := by simp [mI, xu, hin]
      refine ⟨e1, s1, w1, w2, w3, by simp [mI, mR, xu, hin, w4], by simp [mI, mR, xu, hin, w5], by simp [mI, xu, hin, w6], ?_, ?_, ?_⟩
      · rw [x1]; exact w7
      · rw [x1]; exact w8
      · rw [x1]; exact w9
theorem c_send {d n e s : Nat} {C R : xM} (h : Inv C R n) (hn : n < 1224) (he : e < 24) (hl : 0 < R.1 25 0 e) (hs1 : 1 ≤ s) (hs : s < 21) : Rn d 23 (0, xen 23 [vR 9 0, vR 0 e, vI (nI s)], [], C) (fun r C' => r = none ∧ Inv C' (f_send R e (nI s)) (n + 1) ∧ C'.1 14 = C.1 14) := by
  have hr := h.2.1.1
  have hlt : C.1 9 0 4 < 1224 := by rw [hr]; exact (nI_ltI (a := n) (b := 1224) (by omega) (by decide)).mpr hn
  have e1 : C.1 9 0 4 + 1 = nI (n + 1) := by rw [hr]; exact nI_1 n
  show Rn _ 23 (0, [some (vR 9 0), some (vR 0 e), some (vI (nI s))], [], _) _
  refine rn_aload_n (pc' := 1) rfl rfl rfl ?_
  refine rn_ifnull (t := 14) (pc' := 4) rfl rfl rfl (fun h8 => ?_) (fun h8 => ?_)
  · refine rn_return rfl rfl ?_
    first | exact absurd hlt h9 | exact nomatch h8
  · refine rn_aload_n (pc' := 5) rfl rfl rfl ?_
    refine rn_getI (N := 1) (pc' := 8) rfl rfl rfl rfl (by decide) rfl (by first | assumption | decide | omega) ?_
    refine rn_sipush (pc' := 11) (v := 1224) rfl rfl (by decide) ?_
    refine rn_ic_lt (t := 15) (pc' := 14) rfl rfl rfl (fun h9 => ?_) (fun h9 => ?_)
    · refine rn_aload_n (pc' := 16) rfl rfl rfl ?_
      refine rn_getF (N := 1) (t' := 12) (pc' := 19) rfl rfl rfl rfl rfl (by first | assumption | decide | omega) ?_
      refine rn_aload_n (pc' := 20) rfl rfl rfl ?_
      refine rn_getI (N := 1) (pc' := 23) rfl rfl rfl rfl (by decide) rfl (by first | assumption | decide | omega) ?_
      refine rn_aload_n (pc' := 24) rfl rfl rfl ?_
      refine rn_aast (t' := 0) (k := n) (N := 1) (K := 1224) (pc' := 25) rfl rfl rfl rfl (by decide) rfl (by first | assumption | decide | omega) rfl (by first | assumption | decide | omega) rfl (by decide) (hr) (by first | assumption | decide | omega) ?_
      refine rn_aload_n (pc' := 26) rfl rfl rfl ?_
      refine rn_getF (N := 1) (t' := 13) (pc' := 29) rfl rfl rfl rfl rfl (by first | assumption | decide | omega) ?_
      refine rn_aload_n (pc' := 30) rfl rfl rfl ?_
      refine rn_getI (N := 1) (pc' := 33) rfl rfl rfl rfl (by decide) rfl (by first | assumption | decide | omega) ?_
      refine rn_iload_n (pc' := 34) rfl rfl rfl ?_
      refine rn_iast (k := n) (N := 1) (K := 1224) (pc' := 35) rfl rfl ⟨rfl, rfl⟩ rfl (by first | assumption | decide | omega) rfl (by decide) (hr) (by first | assumption | decide | omega) ?_
      refine rn_aload_n (pc' := 36) rfl rfl rfl ?_
      refine rn_dupA (pc' := 37) rfl rfl ?_
      refine rn_getI (N := 1) (pc' := 40) rfl rfl rfl rfl (by decide) rfl (by first | assumption | decide | omega) ?_
      refine rn_iconst (pc' := 41) (v := 1) rfl rfl (by decide) ?_
      refine rn_iadd (pc' := 42) rfl rfl ?_
      refine rn_topI (y := nI (n + 1)) e1 ?_
      refine rn_putI (N := 1) (pc' := 45) rfl rfl rfl rfl rfl (by first | assumption | decide | omega) ?_
      refine rn_aload_n (pc' := 46) rfl rfl rfl ?_
      refine rn_dupA (pc' := 47) rfl rfl ?_
      refine rn_getI (N := 1) (pc' := 50) rfl rfl rfl rfl (by decide) rfl (by first | assumption | decide | omega) ?_
      refine rn_iconst (pc' := 51) (v := 1) rfl rfl (by decide) ?_
      refine rn_iadd (pc' := 52) rfl rfl ?_
      refine rn_putI (N := 1) (pc' := 55) rfl rfl rfl rfl rfl (by first | assumption | decide | omega) ?_
      refine rn_return rfl rfl ?_
      exact ⟨rfl, Inv_send h hn he hl hs1 hs, rfl⟩
    · refine rn_return rfl rfl ?_
      first | exact absurd hlt h9 | exact nomatch h8
/-! orphaned groups -/
theorem oAll_false {R : xM} {g : Int32} {i : Nat} (h : oAll R g i = false) : ∀ m, oAll R g (i + m) = false := by
  intro m
  induction m with
  | zero => exact h
  | succ m ih => show (oAll R g (i + m) && _) = false; rw [ih]; rfl
theorem c_isOrphaned {d n : Nat} {C R : xM} (h : Inv C R n) (g : Int32) : Rn d 36 (0, xen 36 [vR 9 0, vI g], [], C) (fun r C' => r = some (vI (bI (orph R g))) ∧ C' = C) := by
  obtain ⟨⟨a1, a2, a3, a4, a5, a6, a7, a8, a9, a10, a11, a12⟩, a13, b1, b2, b3, b4, b5, b7, b9, b10, b11, b14⟩ := h
  have loop : ∀ (m i : Nat) (x6 : Option xV), i + m = 24 → oAll R g i = true → Rn d 36 (14, [some (vR 9 0), some (vI g), some (vI (bI (oAny R g i))), some (vR 11 0), some (vI 24), some (vI (nI i)), x6], [], C) (fun r C' => r = some (vI (bI (orph R g))) ∧ C' = C) := by
    intro m
    induction m with
    | zero =>
      intro i x6 hi ha
      obtain rfl : i = 24 := by omega
      refine rn_iload (pc' := 16) rfl rfl rfl ?_
      refine rn_iload (pc' := 18) rfl rfl rfl ?_
      refine rn_ic_ge (t := 98) (pc' := 21) rfl rfl rfl (fun h1 => ?_) (fun h1 => ?_)
      · refine rn_iload_n (pc' := 99) rfl rfl rfl ?_
        refine rn_zreturn rfl rfl (bI_01 _) ?_
        exact ⟨by unfold orph; rw [ha, Bool.and_true], rfl⟩
      · exact absurd ((lt24 (by omega)).mp h1) (by omega)
    | succ m ih =>
      intro i x6 hi ha
      have hi24 : i < 24 := by omega
      have v0 : C.1 0 i 0 = R.1 25 0 i := f1 a1 hi24 (by decide)
      have v2 : C.1 0 i 2 = R.1 27 0 i := f1 a1 hi24 (by decide)
      have v3 : C.1 0 i 3 = R.1 28 0 i := f1 a1 hi24 (by decide)
      have next : ∀ b, b = oAny R g (i + 1) → (oMem R g i = false ∨ oOk R g i = true) → Rn d 36 (92, [some (vR 9 0), some (vI g), some (vI (bI b)), some (vR 11 0), some (vI 24), some (vI (nI i)), some (vR 0 i)], [], C) (fun r C' => r = some (vI (bI (orph R g))) ∧ C' = C) := by
        intro b hb hc
        subst hb
        have ha' : oAll R g (i + 1) = true := by
          show (oAll R g i && (!oMem R g i || oOk R g i)) = true
          rw [ha]
          rcases hc with hc | hc <;> simp [hc]
        refine rn_iinc (pc' := 95) rfl rfl rfl (nI_inc _) rfl (Nat.le_of_ble_eq_true rfl) rfl ?_
        refine rn_goto (pc' := 14) rfl rfl ?_
        exact ih (i + 1) _ (by omega) ha'
      have skip_ : oMem R g i = false → Rn d 36 (92, [some (vR 9 0), some (vI g), some (vI (bI (oAny R g i))), some (vR 11 0), some (vI 24), some (vI (nI i)), some (vR 0 i)], [], C) (fun r C' => r = some (vI (bI (orph R g))) ∧ C' = C) := by
        intro hm
        refine next _ ?_ (Or.inl hm)
        show _ = (oAny R g i || oMem R g i)
        rw [hm, Bool.or_false]
      have mid : oMem R g i = true → 0 < R.1 25 0 i → Rn d 36 (56, [some (vR 9 0), some (vI g), some (vI (bI (oAny R g i))), some (vR 11 0), some (vI 24), some (vI (nI i)), some (vR 0 i)], [], C) (fun r C' => r = some (vI (bI (orph R g))) ∧ C' = C) := by
        intro hm hl
        have nx1 : oOk R g i = true → Rn d 36 (92, [some (vR 9 0), some (vI g), some (vI 1), some (vR 11 0), some (vI 24), some (vI (nI i)), some (vR 0 i)], [], C) (fun r C' => r = some (vI (bI (orph R g))) ∧ C' = C) := by
          intro ho
          refine next true ?_ (Or.inr ho)
          show _ = (oAny R g i || oMem R g i)
          rw [hm, Bool.or_true]
        have bad : oOk R g i = false → orph R g = false := by
          intro ho
          have h1 : oAll R g (i + 1) = false := by
            show (oAll R g i && (!oMem R g i || oOk R g i)) = false
            rw [ha, hm, ho]; rfl
          have := oAll_false h1 (24 - (i + 1))
          rw [show i + 1 + (24 - (i + 1)) = 24 by omega] at this
          unfold orph
          rw [this, Bool.and_false]
        rcases a9 i hi24 hl with ⟨h0, hp, hr⟩ | ⟨h0, q, hq, hqe, hp, hql, hqs, hr⟩
        · have ho : oOk R g i = false := by
            unfold oOk
            rw [show rpar R i = 0 from hr, eo_no (fun e he q => absurd q.1 (by decide))]
            rfl
          refine rn_iconst (pc' := 57) (v := 1) rfl rfl (by decide) ?_
          refine rn_istore_n (pc' := 58) rfl rfl rfl (Nat.le_of_ble_eq_true rfl) rfl ?_
          refine rn_aload (pc' := 60) rfl rfl rfl ?_
          refine rn_getV (N := 24) (t' := 0) (pc' := 63) rfl rfl rfl rfl (by decide) rfl (by first | assumption | decide | omega) ?_
          refine rn_topO hp ?_
          refine rn_ifnull (t := 90) (pc' := 66) rfl rfl rfl (fun h7 => ?_) (fun h7 => ?_)
          · refine rn_iconst (pc' := 91) (v := 0) rfl rfl (by decide) ?_
            refine rn_zreturn rfl rfl (by decide) ?_
            exact ⟨by rw [bad ho]; rfl, rfl⟩
          · exact absurd rfl h7
        · have g2 : C.1 0 q 2 = R.1 27 0 q := f1 a1 hq (by decide)
          have g0 : C.1 0 q 0 = R.1 25 0 q := f1 a1 hq (by decide)
          have ho : oOk R g i = (decide (R.1 25 0 q = 1) || decide (R.1 27 0 q = g)) := by
            unfold oOk
            rw [show rpar R i = R.1 25 0 q from hr, eo_is b2 hq hql rfl]
          refine rn_iconst (pc' := 57) (v := 1) rfl rfl (by decide) ?_
          refine rn_istore_n (pc' := 58) rfl rfl rfl (Nat.le_of_ble_eq_true rfl) rfl ?_
          refine rn_aload (pc' := 60) rfl rfl rfl ?_
          refine rn_getV (N := 24) (t' := 0) (pc' := 63) rfl rfl rfl rfl (by decide) rfl (by first | assumption | decide | omega) ?_
          refine rn_topO hp ?_
          refine rn_ifnull (t := 90) (pc' := 66) rfl rfl rfl (fun h7 => ?_) (fun h7 => ?_)
          · refine rn_iconst (pc' := 91) (v := 0) rfl rfl (by decide) ?_
            refine rn_zreturn rfl rfl (by decide) ?_
            first | (rw [g2] at h8; rw [g0] at h9; exact ⟨by rw [bad (by rw [ho]; simp [h8, h9])]; rfl, rfl⟩) | exact nomatch h7
          · refine rn_aload (pc' := 68) rfl rfl rfl ?_
            refine rn_getV (N := 24) (t' := 0) (pc' := 71) rfl rfl rfl rfl (by decide) rfl (by first | assumption | decide | omega) ?_
            refine rn_topO hp ?_
            refine rn_getI (N := 24) (pc' := 74) rfl rfl rfl rfl (by decide) rfl (by first | assumption | decide | omega) ?_
            refine rn_iload_n (pc' := 75) rfl rfl rfl ?_
            refine rn_ic_eq (t := 92) (pc' := 78) rfl rfl rfl (fun h8 => ?_) (fun h8 => ?_)
            · (refine nx1 ?_; first | (rw [g2] at h8; rw [ho]; simp [h8]; done) | (rw [g0] at h9; rw [ho]; simp [h9]))
            · refine rn_aload (pc' := 80) rfl rfl rfl ?_
              refine rn_getV (N := 24) (t' := 0) (pc' := 83) rfl rfl rfl rfl (by decide) rfl (by first | assumption | decide | omega) ?_
              refine rn_topO hp ?_
              refine rn_getI (N := 24) (pc' := 86) rfl rfl rfl rfl (by decide) rfl (by first | assumption | decide | omega) ?_
              refine rn_iconst (pc' := 87) (v := 1) rfl rfl (by decide) ?_
              refine rn_ic_eq (t := 92) (pc' := 90) rfl rfl rfl (fun h9 => ?_) (fun h9 => ?_)
              · (refine nx1 ?_; first | (rw [g2] at h8; rw [ho]; simp [h8]; done) | (rw [g0] at h9; rw [ho]; simp [h9]))
              · refine rn_iconst (pc' := 91) (v := 0) rfl rfl (by decide) ?_
                refine rn_zreturn rfl rfl (by decide) ?_
                first | (rw [g2] at h8; rw [g0] at h9; exact ⟨by rw [bad (by rw [ho]; simp [h8, h9])]; rfl, rfl⟩) | exact nomatch h7
      rcases lv_or b1 hi24 with hz | hl
      · refine rn_iload (pc' := 16) rfl rfl rfl ?_
        refine rn_iload (pc' := 18) rfl rfl rfl ?_
        refine rn_ic_ge (t := 98) (pc' := 21) rfl rfl rfl (fun h1 => ?_) (fun h1 => ?_)
        · exact absurd ((lt24 (by omega)).mpr hi24) h1
        · refine rn_aload_n (pc' := 22) rfl rfl rfl ?_
          refine rn_iload (pc' := 24) rfl rfl rfl ?_
          refine rn_aaldF (t' := 0) (N := 1) (K := 24) (pc' := 25) rfl rfl rfl rfl rfl (by first | assumption | decide | omega) rfl (by decide) rfl (by first | assumption | decide | omega) ?_
          refine rn_astore (pc' := 27) rfl rfl rfl (Nat.le_of_ble_eq_true rfl) rfl ?_
          refine rn_aload (pc' := 29) rfl rfl rfl ?_
          refine rn_getI (N := 24) (pc' := 32) rfl rfl rfl rfl (by decide) rfl (by first | assumption | decide | omega) ?_
          refine rn_if_eq (t := 92) (pc' := 35) rfl rfl rfl (fun h2 => ?_) (fun h2 => ?_)
          · exact skip_ (by unfold oMem; rw [show rpid R i = 0 from hz]; simp)
          · exact absurd (v0.trans hz) h2
      · have hne : ¬ C.1 0 i 0 = 0 := by rw [v0]; exact fun q => by rw [q] at hl; exact absurd hl (by decide)
        refine rn_iload (pc' := 16) rfl rfl rfl ?_
        refine rn_iload (pc' := 18) rfl rfl rfl ?_
        refine rn_ic_ge (t := 98) (pc' := 21) rfl rfl rfl (fun h1 => ?_) (fun h1 => ?_)
        · exact absurd ((lt24 (by omega)).mpr hi24) h1
        · refine rn_aload_n (pc' := 22) rfl rfl rfl ?_
          refine rn_iload (pc' := 24) rfl rfl rfl ?_
          refine rn_aaldF (t' := 0) (N := 1) (K := 24) (pc' := 25) rfl rfl rfl rfl rfl (by first | assumption | decide | omega) rfl (by decide) rfl (by first | assumption | decide | omega) ?_
          refine rn_astore (pc' := 27) rfl rfl rfl (Nat.le_of_ble_eq_true rfl) rfl ?_
          refine rn_aload (pc' := 29) rfl rfl rfl ?_
          refine rn_getI (N := 24) (pc' := 32) rfl rfl rfl rfl (by decide) rfl (by first | assumption | decide | omega) ?_
          refine rn_if_eq (t := 92) (pc' := 35) rfl rfl rfl (fun h2 => ?_) (fun h2 => ?_)
          · first | exact absurd h2 hne | (rw [v3] at h4; exact skip_ (by simp [oMem, rpid, rgrp, rste, *])) | (rw [v2] at h3; exact skip_ (by simp [oMem, rpid, rgrp, rste, *]))
          · refine rn_aload (pc' := 37) rfl rfl rfl ?_
            refine rn_getI (N := 24) (pc' := 40) rfl rfl rfl rfl (by decide) rfl (by first | assumption | decide | omega) ?_
            refine rn_iload_n (pc' := 41) rfl rfl rfl ?_
            refine rn_ic_ne (t := 92) (pc' := 44) rfl rfl rfl (fun h3 => ?_) (fun h3 => ?_)
            · first | exact absurd h2 hne | (rw [v3] at h4; exact skip_ (by simp [oMem, rpid, rgrp, rste, *])) | (rw [v2] at h3; exact skip_ (by simp [oMem, rpid, rgrp, rste, *]))
            · refine rn_aload (pc' := 46) rfl rfl rfl ?_
              refine rn_getI (N := 24) (pc' := 49) rfl rfl rfl rfl (by decide) rfl (by first | assumption | decide | omega) ?_
              refine rn_iconst (pc' := 50) (v := 4) rfl rfl (by decide) ?_
              refine rn_ic_ne (t := 56) (pc' := 53) rfl rfl rfl (fun h4 => ?_) (fun h4 => ?_)
              · (rw [v2] at h3; rw [v3] at h4; exact mid (by simp [oMem, rpid, rgrp, rste, *]) hl)
              · refine rn_goto (pc' := 92) rfl rfl ?_
                first | exact absurd h2 hne | (rw [v3] at h4; exact skip_ (by simp [oMem, rpid, rgrp, rste, *])) | (rw [v2] at h3; exact skip_ (by simp [oMem, rpid, rgrp, rste, *]))
  show Rn _ 36 (0, [some (vR 9 0), some (vI g), none, none, none, none, none], [], _) _
  refine rn_iconst (pc' := 1) (v := 0) rfl rfl (by decide) ?_
  refine rn_istore_n (pc' := 2) rfl rfl rfl (Nat.le_of_ble_eq_true rfl) rfl ?_
  refine rn_aload_n (pc' := 3) rfl rfl rfl ?_
  refine rn_getF (N := 1) (t' := 11) (pc' := 6) rfl rfl rfl rfl rfl (by first | assumption | decide | omega) ?_
  refine rn_astore_n (pc' := 7) rfl rfl rfl (Nat.le_of_ble_eq_true rfl) rfl ?_
  refine rn_aload_n (pc' := 8) rfl rfl rfl ?_
  refine rn_alen (N := 1) (K := 24) (pc' := 9) (v := 24) rfl rfl rfl rfl (by first | assumption | decide | omega) rfl rfl ?_
  refine rn_istore (pc' := 11) rfl rfl rfl (Nat.le_of_ble_eq_true rfl) rfl ?_
  refine rn_iconst (pc' := 12) (v := 0) rfl rfl (by decide) ?_
  refine rn_istore (pc' := 14) rfl rfl rfl (Nat.le_of_ble_eq_true rfl) rfl ?_
  exact loop 24 0 none rfl rfl
end
section
/-! THE CLASS: the end of a process, its pieces -/
theorem mI_comm (M : xM) {t t' : Nat} (a b a' b' : Nat) (v w : Int32) (h : ¬ t = t') : mI (mI M t a b v) t' a' b' w = mI (mI M t' a' b' w) t a b v := by
  refine xM_ext (fun x y z => ?_) rfl
  simp only [mI, xu]
  by_cases h1 : x = t' ∧ y = a' ∧ z = b'
  · rw [if_pos h1, if_neg (fun q => h (q.1.symm.trans h1.1)), if_pos h1]
  · rw [if_neg h1]
    by_cases h2 : x = t ∧ y = a ∧ z = b
    · rw [if_pos h2, if_pos h2]
    · rw [if_neg h2, if_neg h2, if_neg h1]
theorem B3_0 {R : xM} (b1 : B1 R) (b3 : B3 R) {e : Nat} (he : e < 24) (hl : 0 < R.1 25 0 e) : R.1 25 0 0 = 1 := by
  rcases b3 with h | h
  · exact h
  · rw [h e he] at hl; exact absurd hl (by decide)
/-- an entry's parent becomes PID 1 -/
theorem Inv_par0 {C R : xM} {n i : Nat} (h : Inv C R n) (hi : i < 24) (hi0 : ¬ i = 0) (hl : 0 < R.1 25 0 i) : Inv (mR C 0 i 1 (some 0)) (mI R 26 0 i 1) n := by
  obtain ⟨⟨a1, a2, a3, a4, a5, a6, a7, a8, a9, a10, a11, a12⟩, a13, b1, b2, b3, b4, b5, b7, b9, b10, b11, b14⟩ := h
  have p0 := B3_0 b1 b3 hi hl
  refine ⟨⟨a1, a2, a3, a4, a5, a6, a7, a8, ?_, a10, a11, a12⟩, a13, b1, b2, b3, b4, b5, b7, b9, b10, b11, b14⟩
  intro e' he' hl'
  by_cases hc : e' = i
  · subst hc
    refine Or.inr ⟨hi0, 0, by omega, fun q => hi0 q.symm, by simp [mR, xu], ?_, b10.2, ?_⟩
    · show 0 < R.1 25 0 0
      rw [p0]; decide
    · show (mI R 26 0 e' 1).1 26 0 e' = R.1 25 0 0
      rw [p0]; simp [mI, xu]
  · have x1 : (mR C 0 i 1 (some 0)).2.2 0 e' 1 = C.2.2 0 e' 1 := by simp [mR, xu, hc]
    have x2 : (mI R 26 0 i 1).1 26 0 e' = R.1 26 0 e' := by simp [mI, xu, hc]
    rcases a9 e' he' hl' with ⟨q1, q2, q3⟩ | ⟨q1, q, q2, q3, q4, q5, q6, q7⟩
    · exact Or.inl ⟨q1, x1.trans q2, x2.trans q3⟩
    · exact Or.inr ⟨q1, q, q2, q3, x1.trans q4, q5, q6, x2.trans q7⟩
/-- it ends: state, how, alarm, pending -/
theorem Inv_endC {C R : xM} {n e : Nat} {how : Int32} (h : Inv C R n) (he : e < 24) (he0 : ¬ e = 0) (hch : ∀ k, k < 24 → 0 < R.1 25 0 k → ¬ C.2.2 0 k 1 = some e) : Inv (mI (mJ (mI (mI C 0 e 3 4) 0 e 14 how) 0 e 13 0) 0 e 8 0) (f_endC R e how) n := by
  obtain ⟨⟨a1, a2, a3, a4, a5, a6, a7, a8, a9, a10, a11, a12⟩, a13, b1, b2, b3, b4, b5, b7, b9, b10, b11, b14⟩ := h
  have hs : ∀ e', (f_endC R e how).1 28 0 e' = if e' = e then 4 else R.1 28 0 e' := fun e' => by simp [f_endC, mI, mJ, xu]
  have hp : ∀ e', (f_endC R e how).1 33 0 e' = if e' = e then 0 else R.1 33 0 e' := fun e' => by simp [f_endC, mI, mJ, xu]
  have hw : ∀ e', (f_endC R e how).1 39 0 e' = if e' = e then how else R.1 39 0 e' := fun e' => by simp [f_endC, mI, mJ, xu]
  refine ⟨⟨?_, a2, a3, a4, ?_, ?_, ?_, ?_, ?_, a10, a11, a12⟩, a13, b1, b2, b3, b4, b5, ?_, ?_, ?_, b11, b14⟩
  · intro e' he'
    have := a1 e' he'
    by_cases hc : e' = e
    · subst hc
      obtain ⟨x1, x2, x3, x4, x5, x6, x7, x8, x9, x10⟩ := this
      simp [f_endC, mI, mJ, xu, *]
    · simpa [f_endC, mI, mJ, xu, hc] using this
  · intro e' he'
    have := a5 e' he'
    by_cases hc : e' = e
    · subst hc
      simp [f_endC, mI, mJ, xu]
    · simpa [f_endC, mI, mJ, xu, hc] using this
  · intro e' he'
    have := a6 e' he'
    rw [hp]
    by_cases hc : e' = e
    · subst hc
      simp [mI, mJ, xu]
    · rw [if_neg hc]
      refine ⟨fun q => ?_, fun q => ?_⟩
      · have := this.1 q
        simpa [mI, mJ, xu, hc] using this
      · have := this.2 q
        simpa [mI, mJ, xu, hc] using this
  · intro e' he' hl h3
    rw [hs] at h3
    by_cases hc : e' = e
    · rw [if_pos hc] at h3; exact absurd h3 (by decide)
    · rw [if_neg hc] at h3
      have := a7 e' he' hl h3
      simpa [f_endC, mI, mJ, xu, hc] using this
  · intro e' he' hl h3
    rw [hs] at h3
    by_cases hc : e' = e
    · rw [if_pos hc] at h3; exact absurd h3 (by decide)
    · rw [if_neg hc] at h3
      have := a8 e' he' hl h3
      simpa [f_endC, mI, mJ, xu, hc] using this
  · intro e' he' hl
    rcases a9 e' he' hl with h | ⟨h1, q, h2, h3, h5, h6, h7, h8⟩
    · exact Or.inl h
    · refine Or.inr ⟨h1, q, h2, h3, h5, h6, ?_, h8⟩
      rw [hs]
      split
      · rename_i hq
        subst hq
        exact absurd h5 (hch e' he' hl)
      · exact h7
  · intro e' he' hl
    rw [hp]
    split
    · decide
    · exact b7 e' he' hl
  · intro e' he' h3
    rw [hs] at h3
    by_cases hc : e' = e
    · rw [if_pos hc] at h3; exact absurd h3 (by decide)
    · rw [if_neg hc] at h3
      exact b9 e' he' h3
  · refine ⟨?_, ?_⟩
    · intro e' he' hl h3
      rw [hs] at h3
      by_cases hc : e' = e
      · rw [if_pos hc] at h3; exact absurd rfl h3
      · rw [if_neg hc] at h3
        rw [hw, if_neg hc]
        exact b10.1 e' he' hl h3
    · rw [hs, if_neg (fun q => he0 q.symm)]
      exact b10.2
/-- an entry is free -/
theorem Inv_free {C R : xM} {n e : Nat} (h : Inv C R n) (he0 : ¬ e = 0) (hch : ∀ k, k < 24 → 0 < R.1 25 0 k → ¬ C.2.2 0 k 1 = some e) : Inv (mI (mR (mI C 0 e 0 0) 0 e 1 none) 0 e 8 0) (mI R 25 0 e 0) n := by
  obtain ⟨⟨a1, a2, a3, a4, a5, a6, a7, a8, a9, a10, a11, a12⟩, ⟨c1, c2, c3, c4⟩, b1, b2, b3, b4, b5, b7, b9, b10, b11, b14⟩ := h
  have hp : ∀ e', (mI R 25 0 e 0).1 25 0 e' = if e' = e then 0 else R.1 25 0 e' := fun e' => by simp [mI, xu]
  have hl' : ∀ e', 0 < (mI R 25 0 e 0).1 25 0 e' → ¬ e' = e ∧ 0 < R.1 25 0 e' := fun e' q => by
    rw [hp] at q
    split at q
    · exact absurd q (by decide)
    · exact ⟨‹_›, q⟩
  refine ⟨⟨?_, a2, a3, a4, a5, ?_, ?_, ?_, ?_, a10, a11, a12⟩, ⟨c1, c2, c3, ?_⟩, ?_, ?_, ?_, ?_, b5, ?_, b9, ?_, b11, b14⟩
  · intro e' he'
    have := a1 e' he'
    by_cases hc : e' = e
    · subst hc
      simpa [mI, mR, xu] using this.2
    · simpa [mI, mR, xu, hc] using this
  · intro e' he'
    have := a6 e' he'
    by_cases hc : e' = e
    · subst hc
      simp [mI, mR, xu]
    · rw [hp, if_neg hc]
      refine ⟨fun q => ?_, fun q => ?_⟩
      · have := this.1 q
        simpa [mI, mR, xu, hc] using this
      · have := this.2 q
        simpa [mI, mR, xu, hc] using this
  · intro e' he' hl h3
    obtain ⟨hc, hl⟩ := hl' e' hl
    have := a7 e' he' hl h3
    simpa [mI, mR, xu, hc] using this
  · intro e' he' hl h3
    obtain ⟨hc, hl⟩ := hl' e' hl
    have := a8 e' he' hl h3
    simpa [mI, mR, xu, hc] using this
  · intro e' he' hl
    obtain ⟨hc, hl⟩ := hl' e' hl
    have x1 : (mI (mR (mI C 0 e 0 0) 0 e 1 none) 0 e 8 0).2.2 0 e' 1 = C.2.2 0 e' 1 := by simp [mI, mR, xu, hc]
    rcases a9 e' he' hl with ⟨q1, q2, q3⟩ | ⟨q1, q, q2, q3, q4, q5, q6, q7⟩
    · exact Or.inl ⟨q1, x1.trans q2, q3⟩
    · have hqe : ¬ q = e := fun z => hch e' he' hl (by rw [← z]; exact q4)
      refine Or.inr ⟨q1, q, q2, q3, x1.trans q4, ?_, q6, ?_⟩
      · rw [hp, if_neg hqe]; exact q5
      · rw [hp, if_neg hqe]; exact q7
  · intro i hi
    obtain ⟨e1, s1, w1, w2, w3, w4, w5, w6, w7, w8, w9⟩ := c4 i hi
    refine ⟨e1, s1, w1, w2, w3, ?_, w5, w6, w7, ?_, ?_⟩
    · simpa [mI, mR, xu] using w4
    · intro e' he' q
      rw [hp] at q
      split at q
      · exact absurd w7 (by rw [show R.1 45 0 i = 0 from q.symm]; decide)
      · exact w8 e' he' q
    · rw [hp]
      split
      · exact Or.inr rfl
      · exact w9
  · intro e' he'
    rw [hp]
    split
    · exact Or.inl rfl
    · exact b1 e' he'
  · intro x y hx hy hl q
    obtain ⟨hc, hl⟩ := hl' x hl
    rw [hp, hp, if_neg hc] at q
    split at q
    · rw [← q] at hl; exact absurd hl (by decide)
    · exact b2 x y hx hy hl q
  · rcases b3 with h | h
    · left
      rw [hp, if_neg (fun q => he0 q.symm)]
      exact h
    · right
      intro e' he'
      rw [hp]
      split
      · rfl
      · exact h e' he'
  · intro e' he' hl
    obtain ⟨hc, hl⟩ := hl' e' hl
    exact b4 e' he' hl
  · intro e' he' hl
    obtain ⟨hc, hl⟩ := hl' e' hl
    exact b7 e' he' hl
  · refine ⟨?_, b10.2⟩
    intro e' he' hl h3
    obtain ⟨hc, hl⟩ := hl' e' hl
    exact b10.1 e' he' hl h3
theorem c_leave {d e : Nat} (C : xM) (he : e < 24) : Rn d 3 (0, xen 3 [vR 0 e], [], C) (fun r C' => r = none ∧ C' = mI (mR (mI C 0 e 0 0) 0 e 1 none) 0 e 8 0) := by
  show Rn _ 3 (0, [some (vR 0 e)], [], _) _
  refine rn_aload_n (pc' := 1) rfl rfl rfl ?_
  refine rn_iconst (pc' := 2) (v := 0) rfl rfl (by decide) ?_
  refine rn_putI (N := 24) (pc' := 5) rfl rfl rfl rfl rfl (by first | assumption | decide | omega) ?_
  refine rn_aload_n (pc' := 6) rfl rfl rfl ?_
  refine rn_aconst_null (pc' := 7) rfl rfl ?_
  refine rn_putV (N := 24) (t' := 0) (o := none) (pc' := 10) rfl rfl rfl rfl (by decide) rfl (by first | assumption | decide | omega) ?_
  refine rn_aload_n (pc' := 11) rfl rfl rfl ?_
  refine rn_iconst (pc' := 12) (v := 0) rfl rfl (by decide) ?_
  refine rn_putI (N := 24) (pc' := 15) rfl rfl rfl rfl rfl (by first | assumption | decide | omega) ?_
  refine rn_return rfl rfl ?_
  exact ⟨rfl, rfl⟩
/-! its children -/
def wk (b : Bool) (X : xM) : xM := if b = true then f_wake X 1 else X
theorem eo_row {X Y : xM} (h : ∀ e, X.1 25 0 e = Y.1 25 0 e) (p : Int32) : eo X p = eo Y p := eo_congr h p
theorem wake_25 (M : xM) (p : Int32) (t : Nat) (ht : ¬ t = 28) : (f_wake M p).1 t = M.1 t := by
  unfold f_wake
  split
  · rfl
  · split
    · funext a b; simp [mI, xu, ht]
    · rfl
theorem wk_25 (b : Bool) (M : xM) (t : Nat) (ht : ¬ t = 28) : (wk b M).1 t = M.1 t := by
  unfold wk
  split
  · exact wake_25 M 1 t ht
  · rfl
theorem wake_eq {M : xM} {p : Int32} {e : Nat} (h : eo M p = some e) : f_wake M p = if rste M e = 1 then mI M 28 0 e 0 else M := by unfold f_wake; rw [h]
theorem wake_no {M : xM} {p : Int32} (h : eo M p = none) : f_wake M p = M := by unfold f_wake; rw [h]
theorem wk_step (b : Bool) (X : xM) (i : Nat) (v : Int32) : f_wake (mI (wk b X) 26 0 i v) 1 = f_wake (mI X 26 0 i v) 1 := by
  cases b with
  | false => rfl
  | true =>
    have e1 : eo (mI (f_wake X 1) 26 0 i v) 1 = eo X 1 := eo_row (fun e => by show (f_wake X 1).1 25 0 e = _; rw [wake_25 X 1 25 (by decide)]) 1
    have e2 : eo (mI X 26 0 i v) 1 = eo X 1 := eo_row (fun e => rfl) 1
    show f_wake (mI (f_wake X 1) 26 0 i v) 1 = _
    cases h : eo X 1 with
    | none => rw [wake_no h]
    | some e =>
      rw [wake_eq (e1.trans h), wake_eq (e2.trans h)]
      by_cases h1 : rste X e = 1
      · have hw : f_wake X 1 = mI X 28 0 e 0 := by rw [wake_eq h, if_pos h1]
        have s1 : ¬ rste (mI (f_wake X 1) 26 0 i v) e = 1 := by
          rw [hw]
          show ¬ (mI X 28 0 e 0).1 28 0 e = 1
          simp [mI, xu]
        have s2 : rste (mI X 26 0 i v) e = 1 := h1
        rw [if_neg s1, if_pos s2, hw]
        exact mI_comm X 0 e 0 i 0 v (by decide)
      · have hw : f_wake X 1 = X := by rw [wake_eq h, if_neg h1]
        rw [hw]
/-- a child of e, told by the class and by the reference -/
theorem ch_iff {C R : xM} {n e k : Nat} (h : Inv C R n) (he : e < 24) (hl : 0 < R.1 25 0 e) (hk : k < 24) (hlk : 0 < R.1 25 0 k) : C.2.2 0 k 1 = some e ↔ R.1 26 0 k = R.1 25 0 e := by
  obtain ⟨⟨a1, a2, a3, a4, a5, a6, a7, a8, a9, a10, a11, a12⟩, a13, b1, b2, b3, b4, b5, b7, b9, b10, b11, b14⟩ := h
  rcases a9 k hk hlk with ⟨q1, q2, q3⟩ | ⟨q1, q, q2, q3, q4, q5, q6, q7⟩
  · rw [q2, q3]
    constructor
    · intro z; cases z
    · intro z; rw [← z] at hl; exact absurd hl (by decide)
  · rw [q4, q7]
    constructor
    · intro z; cases z; rfl
    · intro z; rw [b2 e q he q2 hl z]
theorem c_leaveChildren {d n e : Nat} {C R : xM} (h : Inv C R n) (he : e < 24) (hl : 0 < R.1 25 0 e) (he0 : ¬ e = 0) : Rn (d + 1) 32 (0, xen 32 [vR 9 0, vR 0 e], [], C) (fun r C' => r = none ∧ Inv C' (f_endB R e) n ∧ C'.1 14 = C.1 14) := by
  have ef : f_endB R e = wk (acF R e 24) (mRow R 26 0 (rpF R e 24)) := by unfold f_endB wk; rfl
  rw [ef]
  have b1 := h.2.2.1
  have p25 : ∀ b i, (wk b (mRow R 26 0 (rpF R e i))).1 25 = R.1 25 := fun b i => by rw [wk_25 _ _ _ (by decide)]; rfl
  have p26 : ∀ b i k, (wk b (mRow R 26 0 (rpF R e i))).1 26 0 k = rpF R e i k := fun b i k => by rw [wk_25 _ _ _ (by decide)]; rfl
  have loop : ∀ (m i : Nat) (D : xM) (x6 : Option xV), i + m = 24 → Inv D (wk (acF R e i) (mRow R 26 0 (rpF R e i))) n → D.1 14 = C.1 14 → Rn (d + 1) 32 (19, [some (vR 9 0), some (vR 0 e), some (vR 0 0), some (vR 11 0), some (vI 24), some (vI (nI i)), x6], [], D) (fun r C' => r = none ∧ Inv C' (wk (acF R e 24) (mRow R 26 0 (rpF R e 24))) n ∧ C'.1 14 = C.1 14) := by
    intro m
    induction m with
    | zero =>
      intro i D x6 hi hD h14
      obtain rfl : i = 24 := by omega
      refine rn_iload (pc' := 21) rfl rfl rfl ?_
      refine rn_iload (pc' := 23) rfl rfl rfl ?_
      refine rn_ic_ge (t := 65) (pc' := 26) rfl rfl rfl (fun h1 => ?_) (fun h1 => ?_)
      · refine rn_return rfl rfl ?_
        exact ⟨rfl, hD, h14⟩
      · exact absurd ((lt24 (by omega)).mp h1) (by omega)
    | succ m ih =>
      intro i D x6 hi hD h14
      have hi24 : i < 24 := by omega
      have v0 : D.1 0 i 0 = R.1 25 0 i := by
        have := f1 hD.1.1 hi24 (k := 0) (t := 25) (by decide)
        rw [this, p25]
      have rpi : rpF R e i i = R.1 26 0 i := by unfold rpF; rw [if_neg (fun q => absurd q.1 (Nat.lt_irrefl _))]
      have cf : 0 < R.1 25 0 i → (D.2.2 0 i 1 = some e ↔ R.1 26 0 i = R.1 25 0 e) := fun hli => by
        have := ch_iff hD he (by rw [p25]; exact hl) hi24 (by rw [p25]; exact hli)
        rw [p25, p26, rpi] at this
        exact this
      have skip_ : ¬ (0 < R.1 25 0 i ∧ R.1 26 0 i = R.1 25 0 e) → Rn (d + 1) 32 (59, [some (vR 9 0), some (vR 0 e), some (vR 0 0), some (vR 11 0), some (vI 24), some (vI (nI i)), some (vR 0 i)], [], D) (fun r C' => r = none ∧ Inv C' (wk (acF R e 24) (mRow R 26 0 (rpF R e 24))) n ∧ C'.1 14 = C.1 14) := by
        intro hc
        have e1 : acF R e (i + 1) = acF R e i := by
          show (acF R e i || (decide (0 < rpid R i) && decide (rpar R i = rpid R e))) = acF R e i
          have : (decide (0 < rpid R i) && decide (rpar R i = rpid R e)) = false := by simp; exact fun q1 q2 => hc ⟨q1, q2⟩
          rw [this, Bool.or_false]
        have e2 : rpF R e (i + 1) = rpF R e i := by
          funext k
          unfold rpF
          by_cases hk : k = i
          · subst hk
            rw [if_neg (fun q => hc q.2), if_neg (fun q => hc q.2)]
          · by_cases hk2 : k < i ∧ 0 < rpid R k ∧ rpar R k = rpid R e
            · rw [if_pos ⟨by omega, hk2.2⟩, if_pos hk2]
            · rw [if_neg (fun q => hk2 ⟨by omega, q.2⟩), if_neg hk2]
        have := ih (i + 1) D (some (vR 0 i)) (by omega) (by rw [e1, e2]; exact hD) h14
        refine rn_iinc (pc' := 62) rfl rfl rfl (nI_inc _) rfl (Nat.le_of_ble_eq_true rfl) rfl ?_
        refine rn_goto (pc' := 19) rfl rfl ?_
        exact this
      rcases lv_or b1 hi24 with hz | hli
      · refine rn_iload (pc' := 21) rfl rfl rfl ?_
        refine rn_iload (pc' := 23) rfl rfl rfl ?_
        refine rn_ic_ge (t := 65) (pc' := 26) rfl rfl rfl (fun h1 => ?_) (fun h1 => ?_)
        · exact absurd ((lt24 (by omega)).mpr hi24) h1
        · refine rn_aload_n (pc' := 27) rfl rfl rfl ?_
          refine rn_iload (pc' := 29) rfl rfl rfl ?_
          refine rn_aaldF (t' := 0) (N := 1) (K := 24) (pc' := 30) rfl rfl rfl rfl rfl (by first | assumption | decide | omega) rfl (by decide) rfl (by first | assumption | decide | omega) ?_
          refine rn_astore (pc' := 32) rfl rfl rfl (Nat.le_of_ble_eq_true rfl) rfl ?_
          refine rn_aload (pc' := 34) rfl rfl rfl ?_
          refine rn_getI (N := 24) (pc' := 37) rfl rfl rfl rfl (by decide) rfl (by first | assumption | decide | omega) ?_
          refine rn_if_eq (t := 59) (pc' := 40) rfl rfl rfl (fun h2 => ?_) (fun h2 => ?_)
          · exact skip_ (fun q => by rw [hz] at q; exact absurd q.1 (by decide))
          · exact absurd (v0.trans hz) h2
      · have hne : ¬ D.1 0 i 0 = 0 := by rw [v0]; exact fun q => by rw [q] at hli; exact absurd hli (by decide)
        by_cases hc : R.1 26 0 i = R.1 25 0 e
        · have hpe : D.2.2 0 i 1 = some e := (cf hli).mpr hc
          have hi0 : ¬ i = 0 := fun q => by
            subst q
            rcases hD.1.2.2.2.2.2.2.2.2.1 0 (by omega) (by rw [p25]; exact hli) with ⟨q1, q2, q3⟩ | ⟨q1, -⟩
            · rw [q2] at hpe; cases hpe
            · exact q1 rfl
          have hD2 := Inv_par0 hD hi24 hi0 (by rw [p25]; exact hli)
          have p0 : R.1 25 0 0 = 1 := B3_0 b1 h.2.2.2.2.1 hi24 hli
          have heo : eo (mI (wk (acF R e i) (mRow R 26 0 (rpF R e i))) 26 0 i 1) 1 = some 0 := by
            refine eo_is (e := 0) ?_ (by omega) (by decide) ?_
            · exact hD2.2.2.2.1
            · show (wk (acF R e i) (mRow R 26 0 (rpF R e i))).1 25 0 0 = 1
              rw [p25]; exact p0
          have hw := c_wake (d := d) hD2 heo
          have e1 : acF R e (i + 1) = true := by
            show (acF R e i || (decide (0 < rpid R i) && decide (rpar R i = rpid R e))) = true
            simp [rpid, rpar, hli, hc]
          have e2 : upd (rpF R e i) i 1 = rpF R e (i + 1) := by
            funext k
            unfold upd rpF
            by_cases hk : k = i
            · subst hk
              simp only [if_true]
              rw [if_pos ⟨Nat.lt_succ_self _, hli, hc⟩]
            · by_cases hk2 : k < i ∧ 0 < rpid R k ∧ rpar R k = rpid R e
              · rw [if_neg hk, if_pos hk2, if_pos ⟨by omega, hk2.2⟩]
              · rw [if_neg hk, if_neg hk2, if_neg (fun q => hk2 ⟨by omega, q.2⟩)]
          have e3 : f_wake (mI (wk (acF R e i) (mRow R 26 0 (rpF R e i))) 26 0 i 1) 1 = wk (acF R e (i + 1)) (mRow R 26 0 (rpF R e (i + 1))) := by
            rw [wk_step, mRow_put, e2, e1]
            rfl
          rw [e3] at hw
          have fin : ∀ E : xM, Inv E (wk (acF R e (i + 1)) (mRow R 26 0 (rpF R e (i + 1)))) n → E.1 14 = C.1 14 → Rn (d + 1) 32 (59, [some (vR 9 0), some (vR 0 e), some (vR 0 0), some (vR 11 0), some (vI 24), some (vI (nI i)), some (vR 0 i)], [], E) (fun r C' => r = none ∧ Inv C' (wk (acF R e 24) (mRow R 26 0 (rpF R e 24))) n ∧ C'.1 14 = C.1 14) := by
            intro E hE hE14
            have := ih (i + 1) E (some (vR 0 i)) (by omega) hE hE14
            refine rn_iinc (pc' := 62) rfl rfl rfl (nI_inc _) rfl (Nat.le_of_ble_eq_true rfl) rfl ?_
            refine rn_goto (pc' := 19) rfl rfl ?_
            exact this
          refine rn_iload (pc' := 21) rfl rfl rfl ?_
          refine rn_iload (pc' := 23) rfl rfl rfl ?_
          refine rn_ic_ge (t := 65) (pc' := 26) rfl rfl rfl (fun h1 => ?_) (fun h1 => ?_)
          · exact absurd ((lt24 (by omega)).mpr hi24) h1
          · refine rn_aload_n (pc' := 27) rfl rfl rfl ?_
            refine rn_iload (pc' := 29) rfl rfl rfl ?_
            refine rn_aaldF (t' := 0) (N := 1) (K := 24) (pc' := 30) rfl rfl rfl rfl rfl (by first | assumption | decide | omega) rfl (by decide) rfl (by first | assumption | decide | omega) ?_
            refine rn_astore (pc' := 32) rfl rfl rfl (Nat.le_of_ble_eq_true rfl) rfl ?_
            refine rn_aload (pc' := 34) rfl rfl rfl ?_
            refine rn_getI (N := 24) (pc' := 37) rfl rfl rfl rfl (by decide) rfl (by first | assumption | decide | omega) ?_
            refine rn_if_eq (t := 59) (pc' := 40) rfl rfl rfl (fun h2 => ?_) (fun h2 => ?_)
            · first | exact fin _ hI (h149.trans h14) | exact absurd h2 hne | exact absurd rfl h3
            · refine rn_aload (pc' := 42) rfl rfl rfl ?_
              refine rn_getV (N := 24) (t' := 0) (pc' := 45) rfl rfl rfl rfl (by decide) rfl (by first | assumption | decide | omega) ?_
              refine rn_topO hpe ?_
              refine rn_aload_n (pc' := 46) rfl rfl rfl ?_
              refine rn_ac_ne (t := 59) (pc' := 49) rfl rfl rfl (decide_eq_true he) (decide_eq_true he) (fun h3 => ?_) (fun h3 => ?_)
              · first | exact fin _ hI (h149.trans h14) | exact absurd h2 hne | exact absurd rfl h3
              · refine rn_aload (pc' := 51) rfl rfl rfl ?_
                refine rn_aload_n (pc' := 52) rfl rfl rfl ?_
                refine rn_putV (N := 24) (t' := 0) (o := (some 0)) (pc' := 55) rfl rfl rfl rfl (by decide) rfl (by first | assumption | decide | omega) ?_
                refine rn_aload_n (pc' := 56) rfl rfl rfl ?_
                refine rn_callV (pc' := 59) (as := []) rfl rfl rfl ⟨Nat.le_of_ble_eq_true rfl, rfl, rfl⟩ rfl (by first | assumption | decide | omega) (Nat.le_of_ble_eq_true rfl) (Nat.le_of_ble_eq_true rfl) rfl hw (fun r9 D9 hz9 => ?_)
                obtain ⟨rfl, hI, h149⟩ := hz9
                first | exact fin _ hI (h149.trans h14) | exact absurd h2 hne | exact absurd rfl h3
        · rcases hD.1.2.2.2.2.2.2.2.2.1 i hi24 (by rw [p25]; exact hli) with ⟨q1, q2, q3⟩ | ⟨q1, q, q2, q3, q4, q5, q6, q7⟩
          · refine rn_iload (pc' := 21) rfl rfl rfl ?_
            refine rn_iload (pc' := 23) rfl rfl rfl ?_
            refine rn_ic_ge (t := 65) (pc' := 26) rfl rfl rfl (fun h1 => ?_) (fun h1 => ?_)
            · exact absurd ((lt24 (by omega)).mpr hi24) h1
            · refine rn_aload_n (pc' := 27) rfl rfl rfl ?_
              refine rn_iload (pc' := 29) rfl rfl rfl ?_
              refine rn_aaldF (t' := 0) (N := 1) (K := 24) (pc' := 30) rfl rfl rfl rfl rfl (by first | assumption | decide | omega) rfl (by decide) rfl (by first | assumption | decide | omega) ?_
              refine rn_astore (pc' := 32) rfl rfl rfl (Nat.le_of_ble_eq_true rfl) rfl ?_
              refine rn_aload (pc' := 34) rfl rfl rfl ?_
              refine rn_getI (N := 24) (pc' := 37) rfl rfl rfl rfl (by decide) rfl (by first | assumption | decide | omega) ?_
              refine rn_if_eq (t := 59) (pc' := 40) rfl rfl rfl (fun h2 => ?_) (fun h2 => ?_)
              · exact skip_ (fun q => hc q.2)
              · refine rn_aload (pc' := 42) rfl rfl rfl ?_
                refine rn_getV (N := 24) (t' := 0) (pc' := 45) rfl rfl rfl rfl (by decide) rfl (by first | assumption | decide | omega) ?_
                refine rn_topO q2 ?_
                refine rn_aload_n (pc' := 46) rfl rfl rfl ?_
                refine rn_ac_ne (t := 59) (pc' := 49) rfl rfl rfl rfl (decide_eq_true he) (fun h3 => ?_) (fun h3 => ?_)
                · exact skip_ (fun q => hc q.2)
                · exact nomatch h3
          · have hqe : ¬ q = e := fun z => hc ((cf hli).mp (by rw [← z]; exact q4))
            refine rn_iload (pc' := 21) rfl rfl rfl ?_
            refine rn_iload (pc' := 23) rfl rfl rfl ?_
            refine rn_ic_ge (t := 65) (pc' := 26) rfl rfl rfl (fun h1 => ?_) (fun h1 => ?_)
            · exact absurd ((lt24 (by omega)).mpr hi24) h1
            · refine rn_aload_n (pc' := 27) rfl rfl rfl ?_
              refine rn_iload (pc' := 29) rfl rfl rfl ?_
              refine rn_aaldF (t' := 0) (N := 1) (K := 24) (pc' := 30) rfl rfl rfl rfl rfl (by first | assumption | decide | omega) rfl (by decide) rfl (by first | assumption | decide | omega) ?_
              refine rn_astore (pc' := 32) rfl rfl rfl (Nat.le_of_ble_eq_true rfl) rfl ?_
              refine rn_aload (pc' := 34) rfl rfl rfl ?_
              refine rn_getI (N := 24) (pc' := 37) rfl rfl rfl rfl (by decide) rfl (by first | assumption | decide | omega) ?_
              refine rn_if_eq (t := 59) (pc' := 40) rfl rfl rfl (fun h2 => ?_) (fun h2 => ?_)
              · exact skip_ (fun q => hc q.2)
              · refine rn_aload (pc' := 42) rfl rfl rfl ?_
                refine rn_getV (N := 24) (t' := 0) (pc' := 45) rfl rfl rfl rfl (by decide) rfl (by first | assumption | decide | omega) ?_
                refine rn_topO q4 ?_
                refine rn_aload_n (pc' := 46) rfl rfl rfl ?_
                refine rn_ac_ne (t := 59) (pc' := 49) rfl rfl rfl (decide_eq_true q2) (decide_eq_true he) (fun h3 => ?_) (fun h3 => ?_)
                · exact skip_ (fun q => hc q.2)
                · (have hh := Option.some.inj h3; exact absurd (congrArg Prod.snd hh) hqe)
  have l0 := loop 24 0 C none rfl (by
    have e0 : rpF R e 0 = R.1 26 0 := by
      funext k
      unfold rpF
      rw [if_neg (fun q => absurd q.1 (Nat.not_lt_zero _))]
    show Inv C (wk (acF R e 0) (mRow R 26 0 (rpF R e 0))) n
    rw [e0, mRow_id]
    exact h) rfl
  show Rn _ 32 (0, [some (vR 9 0), some (vR 0 e), none, none, none, none, none], [], _) _
  refine rn_aload_n (pc' := 1) rfl rfl rfl ?_
  refine rn_getF (N := 1) (t' := 11) (pc' := 4) rfl rfl rfl rfl rfl (by first | assumption | decide | omega) ?_
  refine rn_iconst (pc' := 5) (v := 0) rfl rfl (by decide) ?_
  refine rn_aaldF (t' := 0) (k := 0) (N := 1) (K := 24) (pc' := 6) rfl rfl rfl rfl rfl (by first | assumption | decide | omega) rfl (by decide) (by decide) (by first | assumption | decide | omega) ?_
  refine rn_astore_n (pc' := 7) rfl rfl rfl (Nat.le_of_ble_eq_true rfl) rfl ?_
  refine rn_aload_n (pc' := 8) rfl rfl rfl ?_
  refine rn_getF (N := 1) (t' := 11) (pc' := 11) rfl rfl rfl rfl rfl (by first | assumption | decide | omega) ?_
  refine rn_astore_n (pc' := 12) rfl rfl rfl (Nat.le_of_ble_eq_true rfl) rfl ?_
  refine rn_aload_n (pc' := 13) rfl rfl rfl ?_
  refine rn_alen (N := 1) (K := 24) (pc' := 14) (v := 24) rfl rfl rfl rfl (by first | assumption | decide | omega) rfl rfl ?_
  refine rn_istore (pc' := 16) rfl rfl rfl (Nat.le_of_ble_eq_true rfl) rfl ?_
  refine rn_iconst (pc' := 17) (v := 0) rfl rfl (by decide) ?_
  refine rn_istore (pc' := 19) rfl rfl rfl (Nat.le_of_ble_eq_true rfl) rfl ?_
  exact l0
/-! which stopped ones were in care -/
def care (R : xM) (e k : Nat) : Bool := !decide (k = e) && (decide (0 < R.1 25 0 k) && (decide (R.1 28 0 k = 3) && !orph R (R.1 27 0 k)))
theorem Inv_14 {C R : xM} {n : Nat} (h : Inv C R n) (f : Nat → Int32) : Inv (mRow C 14 0 f) R n := h
theorem c_note {d n e : Nat} {C R : xM} (h : Inv C R n) (he : e < 24) : Rn (d + 1) 33 (0, xen 33 [vR 9 0, vR 0 e], [], C) (fun r C' => r = none ∧ Inv C' R n ∧ ∀ k, k < 24 → C'.1 14 0 k = bI (care R e k)) := by
  have a1 := h.1.1
  have b1 := h.2.2.1
  have loop : ∀ (m i : Nat) (D : xM) (x3 : Option xV), i + m = 24 → Inv D R n → (∀ k, k < i → D.1 14 0 k = bI (care R e k)) → Rn (d + 1) 33 (2, [some (vR 9 0), some (vR 0 e), some (vI (nI i)), x3], [], D) (fun r C' => r = none ∧ Inv C' R n ∧ ∀ k, k < 24 → C'.1 14 0 k = bI (care R e k)) := by
    intro m
    induction m with
    | zero =>
      intro i D x3 hi hD hq
      obtain rfl : i = 24 := by omega
      refine rn_iload_n (pc' := 3) rfl rfl rfl ?_
      refine rn_bipush (pc' := 5) (v := 24) rfl rfl (by decide) ?_
      refine rn_ic_ge (t := 63) (pc' := 8) rfl rfl rfl (fun h1 => ?_) (fun h1 => ?_)
      · refine rn_return rfl rfl ?_
        exact ⟨rfl, hD, hq⟩
      · exact absurd ((lt24 (by omega)).mp h1) (by omega)
    | succ m ih =>
      intro i D x3 hi hD hq
      have hi24 : i < 24 := by omega
      have v0 : D.1 0 i 0 = R.1 25 0 i := f1 hD.1.1 hi24 (by decide)
      have v2 : D.1 0 i 2 = R.1 27 0 i := f1 hD.1.1 hi24 (by decide)
      have v3 : D.1 0 i 3 = R.1 28 0 i := f1 hD.1.1 hi24 (by decide)
      have key : ∀ x, x = bI (care R e i) → Rn (d + 1) 33 (56, [some (vR 9 0), some (vR 0 e), some (vI (nI i)), some (vR 0 i)], [vI x, vI (nI i), vR 14 0], D) (fun r C' => r = none ∧ Inv C' R n ∧ ∀ k, k < 24 → C'.1 14 0 k = bI (care R e k)) := by
        intro x hx
        subst hx
        have := ih (i + 1) (mI D 14 0 i (bI (care R e i))) (some (vR 0 i)) (by omega) hD (fun k hk => by
          by_cases hki : k = i
          · subst hki; simp [mI, xu]
          · have := hq k (by omega)
            simpa [mI, xu, hki] using this)
        refine rn_bast (N := 1) (K := 24) (pc' := 57) rfl rfl ⟨rfl, rfl⟩ rfl (by first | assumption | decide | omega) rfl (by decide) rfl (by first | assumption | decide | omega) (bI_01 _) ?_
        refine rn_iinc (pc' := 60) rfl rfl rfl (nI_inc _) rfl (Nat.le_of_ble_eq_true rfl) rfl ?_
        refine rn_goto (pc' := 2) rfl rfl ?_
        exact this
      have hio := c_isOrphaned (d := d) hD (R.1 27 0 i)
      have ho5 : ¬ bI (orph R (R.1 27 0 i)) = 0 → orph R (R.1 27 0 i) = true := fun q => by simpa [bI_0] using q
      have hzero : ∀ x : Int32, x = 0 → ¬ 0 < x := fun x hx => by rw [hx]; decide
      have hpos : ¬ R.1 25 0 i = 0 → 0 < R.1 25 0 i := fun q => (lv_or b1 hi24).resolve_left q
      refine rn_iload_n (pc' := 3) rfl rfl rfl ?_
      refine rn_bipush (pc' := 5) (v := 24) rfl rfl (by decide) ?_
      refine rn_ic_ge (t := 63) (pc' := 8) rfl rfl rfl (fun h1 => ?_) (fun h1 => ?_)
      · exact absurd ((lt24 (by omega)).mpr hi24) h1
      · refine rn_aload_n (pc' := 9) rfl rfl rfl ?_
        refine rn_getF (N := 1) (t' := 11) (pc' := 12) rfl rfl rfl rfl rfl (by first | assumption | decide | omega) ?_
        refine rn_iload_n (pc' := 13) rfl rfl rfl ?_
        refine rn_aaldF (t' := 0) (N := 1) (K := 24) (pc' := 14) rfl rfl rfl rfl rfl (by first | assumption | decide | omega) rfl (by decide) rfl (by first | assumption | decide | omega) ?_
        refine rn_astore_n (pc' := 15) rfl rfl rfl (Nat.le_of_ble_eq_true rfl) rfl ?_
        refine rn_aload_n (pc' := 16) rfl rfl rfl ?_
        refine rn_getF (N := 1) (t' := 14) (pc' := 19) rfl rfl rfl rfl rfl (by first | assumption | decide | omega) ?_
        refine rn_iload_n (pc' := 20) rfl rfl rfl ?_
        refine rn_aload_n (pc' := 21) rfl rfl rfl ?_
        refine rn_aload_n (pc' := 22) rfl rfl rfl ?_
        refine rn_ac_eq (t := 55) (pc' := 25) rfl rfl rfl (decide_eq_true hi24) (decide_eq_true he) (fun h2 => ?_) (fun h2 => ?_)
        · refine rn_iconst (pc' := 56) (v := 0) rfl rfl (by decide) ?_
          (refine key _ ?_; first | (have ho := (bI_0 _).mp h5; rw [v0] at h3; rw [v3] at h4; have h2' : ¬ i = e := fun z => h2 (by rw [z]); simp [care, bI, ho, h2', hpos h3, h4]; done) | (have ho := ho5 h5; simp [care, bI, ho]; done) | (have h2' : i = e := congrArg Prod.snd (Option.some.inj h2); simp [care, bI, h2']; done) | (rw [v3] at h4; simp [care, bI, h4]; done) | (rw [v0] at h3; simp [care, bI, hzero _ h3]; done))
        · refine rn_aload_n (pc' := 26) rfl rfl rfl ?_
          refine rn_getI (N := 24) (pc' := 29) rfl rfl rfl rfl (by decide) rfl (by first | assumption | decide | omega) ?_
          refine rn_if_eq (t := 55) (pc' := 32) rfl rfl rfl (fun h3 => ?_) (fun h3 => ?_)
          · refine rn_iconst (pc' := 56) (v := 0) rfl rfl (by decide) ?_
            (refine key _ ?_; first | (have ho := (bI_0 _).mp h5; rw [v0] at h3; rw [v3] at h4; have h2' : ¬ i = e := fun z => h2 (by rw [z]); simp [care, bI, ho, h2', hpos h3, h4]; done) | (have ho := ho5 h5; simp [care, bI, ho]; done) | (have h2' : i = e := congrArg Prod.snd (Option.some.inj h2); simp [care, bI, h2']; done) | (rw [v3] at h4; simp [care, bI, h4]; done) | (rw [v0] at h3; simp [care, bI, hzero _ h3]; done))
          · refine rn_aload_n (pc' := 33) rfl rfl rfl ?_
            refine rn_getI (N := 24) (pc' := 36) rfl rfl rfl rfl (by decide) rfl (by first | assumption | decide | omega) ?_
            refine rn_iconst (pc' := 37) (v := 3) rfl rfl (by decide) ?_
            refine rn_ic_ne (t := 55) (pc' := 40) rfl rfl rfl (fun h4 => ?_) (fun h4 => ?_)
            · refine rn_iconst (pc' := 56) (v := 0) rfl rfl (by decide) ?_
              (refine key _ ?_; first | (have ho := (bI_0 _).mp h5; rw [v0] at h3; rw [v3] at h4; have h2' : ¬ i = e := fun z => h2 (by rw [z]); simp [care, bI, ho, h2', hpos h3, h4]; done) | (have ho := ho5 h5; simp [care, bI, ho]; done) | (have h2' : i = e := congrArg Prod.snd (Option.some.inj h2); simp [care, bI, h2']; done) | (rw [v3] at h4; simp [care, bI, h4]; done) | (rw [v0] at h3; simp [care, bI, hzero _ h3]; done))
            · refine rn_aload_n (pc' := 41) rfl rfl rfl ?_
              refine rn_aload_n (pc' := 42) rfl rfl rfl ?_
              refine rn_getI (N := 24) (pc' := 45) rfl rfl rfl rfl (by decide) rfl (by first | assumption | decide | omega) ?_
              refine rn_topI v2 ?_
              refine rn_callV (pc' := 48) (as := [_]) rfl rfl rfl ⟨Nat.le_of_ble_eq_true rfl, rfl, rfl⟩ rfl (by first | assumption | decide | omega) (Nat.le_of_ble_eq_true rfl) (Nat.le_of_ble_eq_true rfl) rfl hio (fun r5 M5 hz => ?_)
              obtain ⟨rfl, hm_⟩ := hz
              refine rn_mem hm_ ?_
              clear hm_
              refine rn_if_ne (t := 55) (pc' := 51) rfl rfl rfl (fun h5 => ?_) (fun h5 => ?_)
              · refine rn_iconst (pc' := 56) (v := 0) rfl rfl (by decide) ?_
                (refine key _ ?_; first | (have ho := (bI_0 _).mp h5; rw [v0] at h3; rw [v3] at h4; have h2' : ¬ i = e := fun z => h2 (by rw [z]); simp [care, bI, ho, h2', hpos h3, h4]; done) | (have ho := ho5 h5; simp [care, bI, ho]; done) | (have h2' : i = e := congrArg Prod.snd (Option.some.inj h2); simp [care, bI, h2']; done) | (rw [v3] at h4; simp [care, bI, h4]; done) | (rw [v0] at h3; simp [care, bI, hzero _ h3]; done))
              · refine rn_iconst (pc' := 52) (v := 1) rfl rfl (by decide) ?_
                refine rn_goto (pc' := 56) rfl rfl ?_
                (refine key _ ?_; first | (have ho := (bI_0 _).mp h5; rw [v0] at h3; rw [v3] at h4; have h2' : ¬ i = e := fun z => h2 (by rw [z]); simp [care, bI, ho, h2', hpos h3, h4]; done) | (have ho := ho5 h5; simp [care, bI, ho]; done) | (have h2' : i = e := congrArg Prod.snd (Option.some.inj h2); simp [care, bI, h2']; done) | (rw [v3] at h4; simp [care, bI, h4]; done) | (rw [v0] at h3; simp [care, bI, hzero _ h3]; done))
  show Rn _ 33 (0, [some (vR 9 0), some (vR 0 e), none, none], [], _) _
  refine rn_iconst (pc' := 1) (v := 0) rfl rfl (by decide) ?_
  refine rn_istore_n (pc' := 2) rfl rfl rfl (Nat.le_of_ble_eq_true rfl) rfl ?_
  exact loop 24 0 C none rfl h (fun k hk => absurd hk (Nat.not_lt_zero k))
end
section
/-! THE CLASS: telling the orphaned groups -/
def cnt (p : Nat → Bool) : Nat → Nat
  | 0 => 0
  | k + 1 => cnt p k + (if p k = true then 1 else 0)
theorem cnt_le (p : Nat → Bool) : ∀ k, cnt p k ≤ k := by
  intro k
  induction k with
  | zero => exact Nat.le_refl _
  | succ k ih => unfold cnt; split <;> omega
theorem cnt_add {p q r : Nat → Bool} : ∀ k, (∀ j, j < k → p j = true → r j = true) → (∀ j, j < k → q j = true → r j = true) → (∀ j, j < k → p j = true → q j = true → False) → cnt p k + cnt q k ≤ cnt r k := by
  intro k
  induction k with
  | zero => intro _ _ _; exact Nat.le_refl _
  | succ k ih =>
    intro h1 h2 h3
    have := ih (fun j hj => h1 j (by omega)) (fun j hj => h2 j (by omega)) (fun j hj => h3 j (by omega))
    unfold cnt
    by_cases hp : p k = true
    · have hq : ¬ q k = true := fun z => h3 k (by omega) hp z
      rw [if_pos hp, if_neg hq, if_pos (h1 k (by omega) hp)]
      omega
    · by_cases hq : q k = true
      · rw [if_neg hp, if_pos hq, if_pos (h2 k (by omega) hq)]
        omega
      · rw [if_neg hp, if_neg hq]
        split <;> omega
theorem cnt_mono {p r : Nat → Bool} (k : Nat) (h : ∀ j, j < k → p j = true → r j = true) : cnt p k ≤ cnt r k := by
  have := cnt_add (p := p) (q := fun _ => false) (r := r) k h (fun _ _ z => by cases z) (fun _ _ _ z => by cases z)
  omega
theorem cnt_pos {p : Nat → Bool} {j : Nat} : ∀ {k : Nat}, j < k → p j = true → 1 ≤ cnt p k := by
  intro k
  induction k with
  | zero => intro h; omega
  | succ k ih =>
    intro h hp
    unfold cnt
    by_cases hj : j = k
    · subst hj
      rw [if_pos hp]
      omega
    · have := ih (by omega) hp
      omega
def memB (R : xM) (g : Int32) (k : Nat) : Bool := decide (0 < R.1 25 0 k) && decide (R.1 27 0 k = g)
theorem c_sendToGroup {d n s : Nat} {C R : xM} (g : Int32) (h : Inv C R n) (hn : n + cnt (memB R g) 24 ≤ 1224) (hs1 : 1 ≤ s) (hs : s < 21) : Rn (d + 1) 24 (0, xen 24 [vR 9 0, vI g, vI (nI s)], [], C) (fun r C' => r = none ∧ Inv C' (f_sendAll R g (nI s)) (n + cnt (memB R g) 24) ∧ C'.1 14 = C.1 14) := by
  unfold f_sendAll
  obtain ⟨T, hT⟩ : ∃ T, T = saF g (nI s) 24 0 R := ⟨_, rfl⟩
  rw [← hT]
  have cm : ∀ i, i ≤ 24 → cnt (memB R g) i ≤ cnt (memB R g) 24 := by
    intro i hi
    have : ∀ m, cnt (memB R g) i ≤ cnt (memB R g) (i + m) := by
      intro m
      induction m with
      | zero => exact Nat.le_refl _
      | succ m ih => show _ ≤ cnt (memB R g) (i + m) + _; omega
    have := this (24 - i)
    rw [show i + (24 - i) = 24 by omega] at this
    exact this
  have loop : ∀ (m i : Nat) (D M : xM) (x6 : Option xV), i + m = 24 → Inv D M (n + cnt (memB R g) i) → M.1 25 = R.1 25 → M.1 27 = R.1 27 → saF g (nI s) m i M = T → D.1 14 = C.1 14 → Rn (d + 1) 24 (12, [some (vR 9 0), some (vI g), some (vI (nI s)), some (vR 11 0), some (vI 24), some (vI (nI i)), x6], [], D) (fun r C' => r = none ∧ Inv C' T (n + cnt (memB R g) 24) ∧ C'.1 14 = C.1 14) := by
    intro m
    induction m with
    | zero =>
      intro i D M x6 hi hD r25 r27 hq h14
      obtain rfl : i = 24 := by omega
      have hq : M = T := hq
      rw [hq] at hD
      refine rn_iload (pc' := 14) rfl rfl rfl ?_
      refine rn_iload (pc' := 16) rfl rfl rfl ?_
      refine rn_ic_ge (t := 55) (pc' := 19) rfl rfl rfl (fun h1 => ?_) (fun h1 => ?_)
      · refine rn_return rfl rfl ?_
        exact ⟨rfl, hD, h14⟩
      · exact absurd ((lt24 (by omega)).mp h1) (by omega)
    | succ m ih =>
      intro i D M x6 hi hD r25 r27 hq h14
      have hi24 : i < 24 := by omega
      have v0 : D.1 0 i 0 = R.1 25 0 i := by rw [f1 hD.1.1 hi24 (k := 0) (t := 25) (by decide), r25]
      have v2 : D.1 0 i 2 = R.1 27 0 i := by rw [f1 hD.1.1 hi24 (k := 2) (t := 27) (by decide), r27]
      unfold saF at hq
      have hcond : (0 < rpid M i ∧ rgrp M i = g) ↔ (0 < R.1 25 0 i ∧ R.1 27 0 i = g) := by unfold rpid rgrp; rw [r25, r27]
      have go_ : ∀ (E N : xM), Inv E N (n + cnt (memB R g) (i + 1)) → N.1 25 = R.1 25 → N.1 27 = R.1 27 → saF g (nI s) m (i + 1) N = T → E.1 14 = C.1 14 → Rn (d + 1) 24 (49, [some (vR 9 0), some (vI g), some (vI (nI s)), some (vR 11 0), some (vI 24), some (vI (nI i)), some (vR 0 i)], [], E) (fun r C' => r = none ∧ Inv C' T (n + cnt (memB R g) 24) ∧ C'.1 14 = C.1 14) := by
        intro E N hE n25 n27 hqN hE14
        have := ih (i + 1) E N (some (vR 0 i)) (by omega) hE n25 n27 hqN hE14
        refine rn_iinc (pc' := 52) rfl rfl rfl (nI_inc _) rfl (Nat.le_of_ble_eq_true rfl) rfl ?_
        refine rn_goto (pc' := 12) rfl rfl ?_
        exact this
      have hpos : ¬ R.1 25 0 i = 0 → 0 < R.1 25 0 i := fun q => by
        have := (lv_or hD.2.2.1 hi24)
        rw [r25] at this
        exact this.resolve_left q
      by_cases hc : 0 < R.1 25 0 i ∧ R.1 27 0 i = g
      · rw [if_pos (hcond.mpr hc)] at hq
        have ec : cnt (memB R g) (i + 1) = cnt (memB R g) i + 1 := by
          show cnt (memB R g) i + (if memB R g i = true then 1 else 0) = _
          rw [if_pos (by simp [memB, hc])]
        have hb := cm (i + 1) (by omega)
        have hsend := c_send (d := d) hD (by omega) hi24 (by rw [r25]; exact hc.1) hs1 hs
        refine rn_iload (pc' := 14) rfl rfl rfl ?_
        refine rn_iload (pc' := 16) rfl rfl rfl ?_
        refine rn_ic_ge (t := 55) (pc' := 19) rfl rfl rfl (fun h1 => ?_) (fun h1 => ?_)
        · exact absurd ((lt24 (by omega)).mpr hi24) h1
        · refine rn_aload_n (pc' := 20) rfl rfl rfl ?_
          refine rn_iload (pc' := 22) rfl rfl rfl ?_
          refine rn_aaldF (t' := 0) (N := 1) (K := 24) (pc' := 23) rfl rfl rfl rfl rfl (by first | assumption | decide | omega) rfl (by decide) rfl (by first | assumption | decide | omega) ?_
          refine rn_astore (pc' := 25) rfl rfl rfl (Nat.le_of_ble_eq_true rfl) rfl ?_
          refine rn_aload (pc' := 27) rfl rfl rfl ?_
          refine rn_getI (N := 24) (pc' := 30) rfl rfl rfl rfl (by decide) rfl (by first | assumption | decide | omega) ?_
          refine rn_if_eq (t := 49) (pc' := 33) rfl rfl rfl (fun h2 => ?_) (fun h2 => ?_)
          · first | exact go_ D9 (f_send M i (nI s)) (by rw [ec]; exact hI) r25 r27 hq (h149.trans h14) | exact absurd (v2.trans hc.2) h3 | exact absurd (v0.symm.trans h2 : R.1 25 0 i = 0) (fun z => by rw [z] at hc; exact absurd hc.1 (by decide))
          · refine rn_aload (pc' := 35) rfl rfl rfl ?_
            refine rn_getI (N := 24) (pc' := 38) rfl rfl rfl rfl (by decide) rfl (by first | assumption | decide | omega) ?_
            refine rn_iload_n (pc' := 39) rfl rfl rfl ?_
            refine rn_ic_ne (t := 49) (pc' := 42) rfl rfl rfl (fun h3 => ?_) (fun h3 => ?_)
            · first | exact go_ D9 (f_send M i (nI s)) (by rw [ec]; exact hI) r25 r27 hq (h149.trans h14) | exact absurd (v2.trans hc.2) h3 | exact absurd (v0.symm.trans h2 : R.1 25 0 i = 0) (fun z => by rw [z] at hc; exact absurd hc.1 (by decide))
            · refine rn_aload_n (pc' := 43) rfl rfl rfl ?_
              refine rn_aload (pc' := 45) rfl rfl rfl ?_
              refine rn_iload_n (pc' := 46) rfl rfl rfl ?_
              refine rn_callV (pc' := 49) (as := [_, _]) rfl rfl rfl ⟨Nat.le_of_ble_eq_true rfl, rfl, rfl⟩ rfl (by first | assumption | decide | omega) (Nat.le_of_ble_eq_true rfl) (Nat.le_of_ble_eq_true rfl) rfl hsend (fun r9 D9 hz9 => ?_)
              obtain ⟨rfl, hI, h149⟩ := hz9
              first | exact go_ D9 (f_send M i (nI s)) (by rw [ec]; exact hI) r25 r27 hq (h149.trans h14) | exact absurd (v2.trans hc.2) h3 | exact absurd (v0.symm.trans h2 : R.1 25 0 i = 0) (fun z => by rw [z] at hc; exact absurd hc.1 (by decide))
      · rw [if_neg (fun z => hc (hcond.mp z))] at hq
        have ec : cnt (memB R g) (i + 1) = cnt (memB R g) i := by
          show cnt (memB R g) i + (if memB R g i = true then 1 else 0) = _
          rw [if_neg (by simp only [memB, Bool.and_eq_true, decide_eq_true_eq]; exact hc)]
          rfl
        have go_ := go_ D M (by rw [ec]; exact hD) r25 r27 hq h14
        refine rn_iload (pc' := 14) rfl rfl rfl ?_
        refine rn_iload (pc' := 16) rfl rfl rfl ?_
        refine rn_ic_ge (t := 55) (pc' := 19) rfl rfl rfl (fun h1 => ?_) (fun h1 => ?_)
        · exact absurd ((lt24 (by omega)).mpr hi24) h1
        · refine rn_aload_n (pc' := 20) rfl rfl rfl ?_
          refine rn_iload (pc' := 22) rfl rfl rfl ?_
          refine rn_aaldF (t' := 0) (N := 1) (K := 24) (pc' := 23) rfl rfl rfl rfl rfl (by first | assumption | decide | omega) rfl (by decide) rfl (by first | assumption | decide | omega) ?_
          refine rn_astore (pc' := 25) rfl rfl rfl (Nat.le_of_ble_eq_true rfl) rfl ?_
          refine rn_aload (pc' := 27) rfl rfl rfl ?_
          refine rn_getI (N := 24) (pc' := 30) rfl rfl rfl rfl (by decide) rfl (by first | assumption | decide | omega) ?_
          refine rn_if_eq (t := 49) (pc' := 33) rfl rfl rfl (fun h2 => ?_) (fun h2 => ?_)
          · exact go_
          · refine rn_aload (pc' := 35) rfl rfl rfl ?_
            refine rn_getI (N := 24) (pc' := 38) rfl rfl rfl rfl (by decide) rfl (by first | assumption | decide | omega) ?_
            refine rn_iload_n (pc' := 39) rfl rfl rfl ?_
            refine rn_ic_ne (t := 49) (pc' := 42) rfl rfl rfl (fun h3 => ?_) (fun h3 => ?_)
            · exact go_
            · (rw [v0] at h2; rw [v2] at h3; exact absurd ⟨hpos h2, h3⟩ hc)
  show Rn _ 24 (0, [some (vR 9 0), some (vI g), some (vI (nI s)), none, none, none, none], [], _) _
  refine rn_aload_n (pc' := 1) rfl rfl rfl ?_
  refine rn_getF (N := 1) (t' := 11) (pc' := 4) rfl rfl rfl rfl rfl (by first | assumption | decide | omega) ?_
  refine rn_astore_n (pc' := 5) rfl rfl rfl (Nat.le_of_ble_eq_true rfl) rfl ?_
  refine rn_aload_n (pc' := 6) rfl rfl rfl ?_
  refine rn_alen (N := 1) (K := 24) (pc' := 7) (v := 24) rfl rfl rfl rfl (by first | assumption | decide | omega) rfl rfl ?_
  refine rn_istore (pc' := 9) rfl rfl rfl (Nat.le_of_ble_eq_true rfl) rfl ?_
  refine rn_iconst (pc' := 10) (v := 0) rfl rfl (by decide) ?_
  refine rn_istore (pc' := 12) rfl rfl rfl (Nat.le_of_ble_eq_true rfl) rfl ?_
  exact loop 24 0 C R none rfl h rfl rfl hT.symm rfl
/-! the least group in care above a number -/
def LG (cr : Nat → Bool) (R : xM) (a i : Nat) (v : Int32) : Prop := (v = -1 ∧ ∀ k, k < i → cr k = true → ∀ g, g < 1000 → R.1 27 0 k = nI g → g ≤ a) ∨ (∃ g k, k < 24 ∧ cr k = true ∧ R.1 27 0 k = nI g ∧ a < g ∧ g < 1000 ∧ v = nI g ∧ ∀ k', k' < i → cr k' = true → ∀ g', g' < 1000 → R.1 27 0 k' = nI g' → a < g' → g ≤ g')
theorem c_least {d a : Nat} {C R : xM} (cr : Nat → Bool) (a1 : A1 C R) (ha : a < 1000) (h14 : ∀ k, k < 24 → C.1 14 0 k = bI (cr k)) (hcr : ∀ k, k < 24 → cr k = true → ∃ g, 1 ≤ g ∧ g < 1000 ∧ R.1 27 0 k = nI g) : Rn d 35 (0, xen 35 [vR 9 0, vI (nI a)], [], C) (fun r C' => (∃ v, r = some (vI v) ∧ LG cr R a 24 v) ∧ C' = C) := by
  have loop : ∀ (m i : Nat) (v : Int32) (x4 : Option xV), i + m = 24 → LG cr R a i v → Rn d 35 (4, [some (vR 9 0), some (vI (nI a)), some (vI v), some (vI (nI i)), x4], [], C) (fun r C' => (∃ v, r = some (vI v) ∧ LG cr R a 24 v) ∧ C' = C) := by
    intro m
    induction m with
    | zero =>
      intro i v x4 hi hv
      obtain rfl : i = 24 := by omega
      refine rn_iload_n (pc' := 5) rfl rfl rfl ?_
      refine rn_bipush (pc' := 7) (v := 24) rfl rfl (by decide) ?_
      refine rn_ic_ge (t := 56) (pc' := 10) rfl rfl rfl (fun h1 => ?_) (fun h1 => ?_)
      · refine rn_iload_n (pc' := 57) rfl rfl rfl ?_
        refine rn_ireturn rfl rfl ?_
        exact ⟨⟨v, rfl, hv⟩, rfl⟩
      · exact absurd ((lt24 (by omega)).mp h1) (by omega)
    | succ m ih =>
      intro i v x4 hi hv
      have hi24 : i < 24 := by omega
      have v2 : C.1 0 i 2 = R.1 27 0 i := f1 a1 hi24 (by decide)
      have hc14 := h14 i hi24
      have tl : ∀ (w : Int32) (y : Int32), LG cr R a (i + 1) w → Rn d 35 (50, [some (vR 9 0), some (vI (nI a)), some (vI w), some (vI (nI i)), some (vI y)], [], C) (fun r C' => (∃ v, r = some (vI v) ∧ LG cr R a 24 v) ∧ C' = C) := by
        intro w y hw
        refine rn_iinc (pc' := 53) rfl rfl rfl (nI_inc _) rfl (Nat.le_of_ble_eq_true rfl) rfl ?_
        refine rn_goto (pc' := 4) rfl rfl ?_
        exact ih (i + 1) w _ (by omega) hw
      cases hcri : cr i with
      | false =>
        have hv' : LG cr R a (i + 1) v := by
          rcases hv with ⟨q1, q2⟩ | ⟨g, k, q1, q2, q3, q4, q5, q6, q7⟩
          · refine Or.inl ⟨q1, fun k hk hck => ?_⟩
            by_cases hki : k = i
            · subst hki; rw [hcri] at hck; cases hck
            · exact q2 k (by omega) hck
          · refine Or.inr ⟨g, k, q1, q2, q3, q4, q5, q6, fun k' hk' hck' => ?_⟩
            by_cases hki : k' = i
            · subst hki; rw [hcri] at hck'; cases hck'
            · exact q7 k' (by omega) hck'
        rw [hcri] at hc14
        refine rn_iload_n (pc' := 5) rfl rfl rfl ?_
        refine rn_bipush (pc' := 7) (v := 24) rfl rfl (by decide) ?_
        refine rn_ic_ge (t := 56) (pc' := 10) rfl rfl rfl (fun h1 => ?_) (fun h1 => ?_)
        · exact absurd ((lt24 (by omega)).mpr hi24) h1
        · refine rn_aload_n (pc' := 11) rfl rfl rfl ?_
          refine rn_getF (N := 1) (t' := 11) (pc' := 14) rfl rfl rfl rfl rfl (by first | assumption | decide | omega) ?_
          refine rn_iload_n (pc' := 15) rfl rfl rfl ?_
          refine rn_aaldF (t' := 0) (N := 1) (K := 24) (pc' := 16) rfl rfl rfl rfl rfl (by first | assumption | decide | omega) rfl (by decide) rfl (by first | assumption | decide | omega) ?_
          refine rn_getI (N := 24) (pc' := 19) rfl rfl rfl rfl (by decide) rfl (by first | assumption | decide | omega) ?_
          refine rn_istore (pc' := 21) rfl rfl rfl (Nat.le_of_ble_eq_true rfl) rfl ?_
          refine rn_aload_n (pc' := 22) rfl rfl rfl ?_
          refine rn_getF (N := 1) (t' := 14) (pc' := 25) rfl rfl rfl rfl rfl (by first | assumption | decide | omega) ?_
          refine rn_iload_n (pc' := 26) rfl rfl rfl ?_
          refine rn_bald (N := 1) (K := 24) (pc' := 27) rfl rfl ⟨rfl, rfl⟩ rfl (by first | assumption | decide | omega) rfl (by decide) rfl (by first | assumption | decide | omega) ?_
          refine rn_if_eq (t := 50) (pc' := 30) rfl rfl rfl (fun h2 => ?_) (fun h2 => ?_)
          · exact tl v _ hv'
          · exact absurd hc14 h2
      | true =>
        obtain ⟨g, hg1, hg2, hg3⟩ := hcr i hi24 hcri
        rw [hcri] at hc14
        have hgv : C.1 0 i 2 = nI g := v2.trans hg3
        have hlt : nI a < nI g ↔ a < g := nI_ltI (by omega) (by omega)
        by_cases hag : a < g
        · rcases hv with ⟨q1, q2⟩ | ⟨g0, k0, q1, q2, q3, q4, q5, q6, q7⟩
          · have hv' : LG cr R a (i + 1) (nI g) := by
              refine Or.inr ⟨g, i, hi24, hcri, hg3, hag, hg2, rfl, fun k' hk' hck' g' hg' hr hag' => ?_⟩
              by_cases hki : k' = i
              · subst hki
                have := (nI_eq (a := g) (b := g') (by omega) (by omega)).mp (hg3.symm.trans hr)
                omega
              · have := q2 k' (by omega) hck' g' hg' hr
                omega
            subst q1
            refine rn_iload_n (pc' := 5) rfl rfl rfl ?_
            refine rn_bipush (pc' := 7) (v := 24) rfl rfl (by decide) ?_
            refine rn_ic_ge (t := 56) (pc' := 10) rfl rfl rfl (fun h1 => ?_) (fun h1 => ?_)
            · exact absurd ((lt24 (by omega)).mpr hi24) h1
            · refine rn_aload_n (pc' := 11) rfl rfl rfl ?_
              refine rn_getF (N := 1) (t' := 11) (pc' := 14) rfl rfl rfl rfl rfl (by first | assumption | decide | omega) ?_
              refine rn_iload_n (pc' := 15) rfl rfl rfl ?_
              refine rn_aaldF (t' := 0) (N := 1) (K := 24) (pc' := 16) rfl rfl rfl rfl rfl (by first | assumption | decide | omega) rfl (by decide) rfl (by first | assumption | decide | omega) ?_
              refine rn_getI (N := 24) (pc' := 19) rfl rfl rfl rfl (by decide) rfl (by first | assumption | decide | omega) ?_
              refine rn_topI hgv ?_
              refine rn_istore (pc' := 21) rfl rfl rfl (Nat.le_of_ble_eq_true rfl) rfl ?_
              refine rn_aload_n (pc' := 22) rfl rfl rfl ?_
              refine rn_getF (N := 1) (t' := 14) (pc' := 25) rfl rfl rfl rfl rfl (by first | assumption | decide | omega) ?_
              refine rn_iload_n (pc' := 26) rfl rfl rfl ?_
              refine rn_bald (N := 1) (K := 24) (pc' := 27) rfl rfl ⟨rfl, rfl⟩ rfl (by first | assumption | decide | omega) rfl (by decide) rfl (by first | assumption | decide | omega) ?_
              refine rn_if_eq (t := 50) (pc' := 30) rfl rfl rfl (fun h2 => ?_) (fun h2 => ?_)
              · first | exact absurd (hc14.symm.trans h2) (by decide) | exact absurd (hlt.mpr hag) h3 | exact tl _ _ hv'
              · refine rn_iload (pc' := 32) rfl rfl rfl ?_
                refine rn_iload_n (pc' := 33) rfl rfl rfl ?_
                refine rn_ic_le (t := 50) (pc' := 36) rfl rfl rfl (fun h3 => ?_) (fun h3 => ?_)
                · first | exact absurd (hc14.symm.trans h2) (by decide) | exact absurd (hlt.mpr hag) h3 | exact tl _ _ hv'
                · refine rn_iload_n (pc' := 37) rfl rfl rfl ?_
                  refine rn_iconst (pc' := 38) (v := (-1)) rfl rfl (by decide) ?_
                  refine rn_ic_eq (t := 47) (pc' := 41) rfl rfl rfl (fun h4 => ?_) (fun h4 => ?_)
                  · refine rn_iload (pc' := 49) rfl rfl rfl ?_
                    refine rn_istore_n (pc' := 50) rfl rfl rfl (Nat.le_of_ble_eq_true rfl) rfl ?_
                    first | exact absurd (hc14.symm.trans h2) (by decide) | exact absurd (hlt.mpr hag) h3 | exact tl _ _ hv'
                  · exact absurd rfl h4
          · subst q6
            have hne : ¬ nI g0 = -1 := fun z => by
              have := nI_pos (n := g0) (by omega)
              rw [z] at this; exact this (by decide)
            have hlt2 : nI g < nI g0 ↔ g < g0 := nI_ltI (by omega) (by omega)
            by_cases hgg : g < g0
            · have hv' : LG cr R a (i + 1) (nI g) := by
                refine Or.inr ⟨g, i, hi24, hcri, hg3, hag, hg2, rfl, fun k' hk' hck' g' hg' hr hag' => ?_⟩
                by_cases hki : k' = i
                · subst hki
                  have := (nI_eq (a := g) (b := g') (by omega) (by omega)).mp (hg3.symm.trans hr)
                  omega
                · have := q7 k' (by omega) hck' g' hg' hr hag'
                  omega
              refine rn_iload_n (pc' := 5) rfl rfl rfl ?_
              refine rn_bipush (pc' := 7) (v := 24) rfl rfl (by decide) ?_
              refine rn_ic_ge (t := 56) (pc' := 10) rfl rfl rfl (fun h1 => ?_) (fun h1 => ?_)
              · exact absurd ((lt24 (by omega)).mpr hi24) h1
              · refine rn_aload_n (pc' := 11) rfl rfl rfl ?_
                refine rn_getF (N := 1) (t' := 11) (pc' := 14) rfl rfl rfl rfl rfl (by first | assumption | decide | omega) ?_
                refine rn_iload_n (pc' := 15) rfl rfl rfl ?_
                refine rn_aaldF (t' := 0) (N := 1) (K := 24) (pc' := 16) rfl rfl rfl rfl rfl (by first | assumption | decide | omega) rfl (by decide) rfl (by first | assumption | decide | omega) ?_
                refine rn_getI (N := 24) (pc' := 19) rfl rfl rfl rfl (by decide) rfl (by first | assumption | decide | omega) ?_
                refine rn_topI hgv ?_
                refine rn_istore (pc' := 21) rfl rfl rfl (Nat.le_of_ble_eq_true rfl) rfl ?_
                refine rn_aload_n (pc' := 22) rfl rfl rfl ?_
                refine rn_getF (N := 1) (t' := 14) (pc' := 25) rfl rfl rfl rfl rfl (by first | assumption | decide | omega) ?_
                refine rn_iload_n (pc' := 26) rfl rfl rfl ?_
                refine rn_bald (N := 1) (K := 24) (pc' := 27) rfl rfl ⟨rfl, rfl⟩ rfl (by first | assumption | decide | omega) rfl (by decide) rfl (by first | assumption | decide | omega) ?_
                refine rn_if_eq (t := 50) (pc' := 30) rfl rfl rfl (fun h2 => ?_) (fun h2 => ?_)
                · first | exact tl _ _ hv' | exact absurd (hc14.symm.trans h2) (by decide) | exact absurd (hlt.mpr hag) h3 | exact absurd (hlt2.mpr hgg) h5
                · refine rn_iload (pc' := 32) rfl rfl rfl ?_
                  refine rn_iload_n (pc' := 33) rfl rfl rfl ?_
                  refine rn_ic_le (t := 50) (pc' := 36) rfl rfl rfl (fun h3 => ?_) (fun h3 => ?_)
                  · first | exact tl _ _ hv' | exact absurd (hc14.symm.trans h2) (by decide) | exact absurd (hlt.mpr hag) h3 | exact absurd (hlt2.mpr hgg) h5
                  · refine rn_iload_n (pc' := 37) rfl rfl rfl ?_
                    refine rn_iconst (pc' := 38) (v := (-1)) rfl rfl (by decide) ?_
                    refine rn_ic_eq (t := 47) (pc' := 41) rfl rfl rfl (fun h4 => ?_) (fun h4 => ?_)
                    · refine rn_iload (pc' := 49) rfl rfl rfl ?_
                      refine rn_istore_n (pc' := 50) rfl rfl rfl (Nat.le_of_ble_eq_true rfl) rfl ?_
                      first | exact tl _ _ hv' | exact absurd (hc14.symm.trans h2) (by decide) | exact absurd (hlt.mpr hag) h3 | exact absurd (hlt2.mpr hgg) h5
                    · refine rn_iload (pc' := 43) rfl rfl rfl ?_
                      refine rn_iload_n (pc' := 44) rfl rfl rfl ?_
                      refine rn_ic_ge (t := 50) (pc' := 47) rfl rfl rfl (fun h5 => ?_) (fun h5 => ?_)
                      · first | exact tl _ _ hv' | exact absurd (hc14.symm.trans h2) (by decide) | exact absurd (hlt.mpr hag) h3 | exact absurd (hlt2.mpr hgg) h5
                      · refine rn_iload (pc' := 49) rfl rfl rfl ?_
                        refine rn_istore_n (pc' := 50) rfl rfl rfl (Nat.le_of_ble_eq_true rfl) rfl ?_
                        first | exact tl _ _ hv' | exact absurd (hc14.symm.trans h2) (by decide) | exact absurd (hlt.mpr hag) h3 | exact absurd (hlt2.mpr hgg) h5
            · have hv' : LG cr R a (i + 1) (nI g0) := by
                refine Or.inr ⟨g0, k0, q1, q2, q3, q4, q5, rfl, fun k' hk' hck' g' hg' hr hag' => ?_⟩
                by_cases hki : k' = i
                · subst hki
                  have := (nI_eq (a := g) (b := g') (by omega) (by omega)).mp (hg3.symm.trans hr)
                  omega
                · exact q7 k' (by omega) hck' g' hg' hr hag'
              refine rn_iload_n (pc' := 5) rfl rfl rfl ?_
              refine rn_bipush (pc' := 7) (v := 24) rfl rfl (by decide) ?_
              refine rn_ic_ge (t := 56) (pc' := 10) rfl rfl rfl (fun h1 => ?_) (fun h1 => ?_)
              · exact absurd ((lt24 (by omega)).mpr hi24) h1
              · refine rn_aload_n (pc' := 11) rfl rfl rfl ?_
                refine rn_getF (N := 1) (t' := 11) (pc' := 14) rfl rfl rfl rfl rfl (by first | assumption | decide | omega) ?_
                refine rn_iload_n (pc' := 15) rfl rfl rfl ?_
                refine rn_aaldF (t' := 0) (N := 1) (K := 24) (pc' := 16) rfl rfl rfl rfl rfl (by first | assumption | decide | omega) rfl (by decide) rfl (by first | assumption | decide | omega) ?_
                refine rn_getI (N := 24) (pc' := 19) rfl rfl rfl rfl (by decide) rfl (by first | assumption | decide | omega) ?_
                refine rn_topI hgv ?_
                refine rn_istore (pc' := 21) rfl rfl rfl (Nat.le_of_ble_eq_true rfl) rfl ?_
                refine rn_aload_n (pc' := 22) rfl rfl rfl ?_
                refine rn_getF (N := 1) (t' := 14) (pc' := 25) rfl rfl rfl rfl rfl (by first | assumption | decide | omega) ?_
                refine rn_iload_n (pc' := 26) rfl rfl rfl ?_
                refine rn_bald (N := 1) (K := 24) (pc' := 27) rfl rfl ⟨rfl, rfl⟩ rfl (by first | assumption | decide | omega) rfl (by decide) rfl (by first | assumption | decide | omega) ?_
                refine rn_if_eq (t := 50) (pc' := 30) rfl rfl rfl (fun h2 => ?_) (fun h2 => ?_)
                · first | exact tl _ _ hv' | exact absurd (hc14.symm.trans h2) (by decide) | exact absurd (hlt.mpr hag) h3
                · refine rn_iload (pc' := 32) rfl rfl rfl ?_
                  refine rn_iload_n (pc' := 33) rfl rfl rfl ?_
                  refine rn_ic_le (t := 50) (pc' := 36) rfl rfl rfl (fun h3 => ?_) (fun h3 => ?_)
                  · first | exact tl _ _ hv' | exact absurd (hc14.symm.trans h2) (by decide) | exact absurd (hlt.mpr hag) h3
                  · refine rn_iload_n (pc' := 37) rfl rfl rfl ?_
                    refine rn_iconst (pc' := 38) (v := (-1)) rfl rfl (by decide) ?_
                    refine rn_ic_eq (t := 47) (pc' := 41) rfl rfl rfl (fun h4 => ?_) (fun h4 => ?_)
                    · first | exact absurd h4 hne | exact absurd (hlt2.mp h5) hgg
                    · refine rn_iload (pc' := 43) rfl rfl rfl ?_
                      refine rn_iload_n (pc' := 44) rfl rfl rfl ?_
                      refine rn_ic_ge (t := 50) (pc' := 47) rfl rfl rfl (fun h5 => ?_) (fun h5 => ?_)
                      · first | exact tl _ _ hv' | exact absurd (hc14.symm.trans h2) (by decide) | exact absurd (hlt.mpr hag) h3
                      · first | exact absurd h4 hne | exact absurd (hlt2.mp h5) hgg
        · have hv' : LG cr R a (i + 1) v := by
            rcases hv with ⟨q1, q2⟩ | ⟨g0, k, q1, q2, q3, q4, q5, q6, q7⟩
            · refine Or.inl ⟨q1, fun k hk hck g' hg' hr => ?_⟩
              by_cases hki : k = i
              · subst hki
                have := (nI_eq (a := g) (b := g') (by omega) (by omega)).mp (hg3.symm.trans hr)
                omega
              · exact q2 k (by omega) hck g' hg' hr
            · refine Or.inr ⟨g0, k, q1, q2, q3, q4, q5, q6, fun k' hk' hck' g' hg' hr hag' => ?_⟩
              by_cases hki : k' = i
              · subst hki
                have := (nI_eq (a := g) (b := g') (by omega) (by omega)).mp (hg3.symm.trans hr)
                omega
              · exact q7 k' (by omega) hck' g' hg' hr hag'
          refine rn_iload_n (pc' := 5) rfl rfl rfl ?_
          refine rn_bipush (pc' := 7) (v := 24) rfl rfl (by decide) ?_
          refine rn_ic_ge (t := 56) (pc' := 10) rfl rfl rfl (fun h1 => ?_) (fun h1 => ?_)
          · exact absurd ((lt24 (by omega)).mpr hi24) h1
          · refine rn_aload_n (pc' := 11) rfl rfl rfl ?_
            refine rn_getF (N := 1) (t' := 11) (pc' := 14) rfl rfl rfl rfl rfl (by first | assumption | decide | omega) ?_
            refine rn_iload_n (pc' := 15) rfl rfl rfl ?_
            refine rn_aaldF (t' := 0) (N := 1) (K := 24) (pc' := 16) rfl rfl rfl rfl rfl (by first | assumption | decide | omega) rfl (by decide) rfl (by first | assumption | decide | omega) ?_
            refine rn_getI (N := 24) (pc' := 19) rfl rfl rfl rfl (by decide) rfl (by first | assumption | decide | omega) ?_
            refine rn_topI hgv ?_
            refine rn_istore (pc' := 21) rfl rfl rfl (Nat.le_of_ble_eq_true rfl) rfl ?_
            refine rn_aload_n (pc' := 22) rfl rfl rfl ?_
            refine rn_getF (N := 1) (t' := 14) (pc' := 25) rfl rfl rfl rfl rfl (by first | assumption | decide | omega) ?_
            refine rn_iload_n (pc' := 26) rfl rfl rfl ?_
            refine rn_bald (N := 1) (K := 24) (pc' := 27) rfl rfl ⟨rfl, rfl⟩ rfl (by first | assumption | decide | omega) rfl (by decide) rfl (by first | assumption | decide | omega) ?_
            refine rn_if_eq (t := 50) (pc' := 30) rfl rfl rfl (fun h2 => ?_) (fun h2 => ?_)
            · first | exact absurd (hc14.symm.trans h2) (by decide) | exact tl _ _ hv'
            · refine rn_iload (pc' := 32) rfl rfl rfl ?_
              refine rn_iload_n (pc' := 33) rfl rfl rfl ?_
              refine rn_ic_le (t := 50) (pc' := 36) rfl rfl rfl (fun h3 => ?_) (fun h3 => ?_)
              · first | exact absurd (hc14.symm.trans h2) (by decide) | exact tl _ _ hv'
              · exact absurd (hlt.mp h3) hag
  show Rn _ 35 (0, [some (vR 9 0), some (vI (nI a)), none, none, none], [], _) _
  refine rn_iconst (pc' := 1) (v := (-1)) rfl rfl (by decide) ?_
  refine rn_istore_n (pc' := 2) rfl rfl rfl (Nat.le_of_ble_eq_true rfl) rfl ?_
  refine rn_iconst (pc' := 3) (v := 0) rfl rfl (by decide) ?_
  refine rn_istore_n (pc' := 4) rfl rfl rfl (Nat.le_of_ble_eq_true rfl) rfl ?_
  exact loop 24 0 (-1) none rfl (Or.inl ⟨rfl, fun k hk => absurd hk (Nat.not_lt_zero k)⟩)
end
section
/-! THE CLASS: sending to the groups that are orphaned now -/
theorem send_row (M : xM) (e : Nat) (s : Int32) (t : Nat) (ht : ¬ (t = 45 ∨ t = 46 ∨ t = 20)) : (f_send M e s).1 t = M.1 t := by
  have h1 : ¬ t = 45 := fun z => ht (Or.inl z)
  have h2 : ¬ t = 46 := fun z => ht (Or.inr (Or.inl z))
  have h3 : ¬ t = 20 := fun z => ht (Or.inr (Or.inr z))
  unfold f_send
  funext a b
  simp [mI, xu, h1, h2, h3]
theorem saF_row (g s : Int32) (t : Nat) (ht : ¬ (t = 45 ∨ t = 46 ∨ t = 20)) : ∀ (m i : Nat) (M : xM), (saF g s m i M).1 t = M.1 t := by
  intro m
  induction m with
  | zero => intro i M; rfl
  | succ m ih =>
    intro i M
    unfold saF
    rw [ih]
    split
    · exact send_row M i s t ht
    · rfl
theorem tell_row (M : xM) (g : Int32) (t : Nat) (ht : ¬ (t = 45 ∨ t = 46 ∨ t = 20)) : (f_tell M g).1 t = M.1 t := by
  unfold f_tell
  split
  · unfold f_sendAll
    rw [saF_row _ _ t ht, saF_row _ _ t ht]
  · rfl
theorem tlF_row (t : Nat) (ht : ¬ (t = 45 ∨ t = 46 ∨ t = 20)) : ∀ (m g : Nat) (M : xM), (tlF m g M).1 t = M.1 t := by
  intro m
  induction m with
  | zero => intro g M; rfl
  | succ m ih =>
    intro g M
    unfold tlF
    rw [ih]
    split
    · exact tell_row M _ t ht
    · rfl
theorem stp_congr {M N : xM} (h1 : M.1 25 = N.1 25) (h2 : M.1 27 = N.1 27) (h3 : M.1 28 = N.1 28) (g : Int32) : ∀ k, stpF M g k = stpF N g k := by
  intro k
  induction k with
  | zero => rfl
  | succ k ih => unfold stpF rpid rgrp rste; rw [ih, h1, h2, h3]
theorem tlF_skip : ∀ (j g m : Nat) (M : xM), (∀ x, g ≤ x → x < g + j → ¬ (M.1 49 0 x = 0 ∧ stpF M (nI x) 24 = true)) → tlF (j + m) g M = tlF m (g + j) M := by
  intro j
  induction j with
  | zero => intro g m M _; rw [Nat.zero_add, Nat.add_zero]
  | succ j ih =>
    intro g m M h
    have e1 : tlF (j + 1 + m) g M = tlF (j + m) (g + 1) M := by
      rw [show j + 1 + m = (j + m) + 1 by omega]
      show tlF (j + m) (g + 1) (if M.1 49 0 g = 0 ∧ orph M (nI g) = true then f_tell M (nI g) else M) = _
      split
      · rename_i hc
        have : f_tell M (nI g) = M := by
          unfold f_tell
          rw [if_neg (fun z => h g (Nat.le_refl _) (by omega) ⟨hc.1, z⟩)]
        rw [this]
      · rfl
    rw [e1, ih (g + 1) m M (fun x h1 h2 => h x (by omega) (by omega))]
    congr 1
    omega
theorem cnt_lt {p r : Nat → Bool} {j0 k : Nat} (h : ∀ j, j < k → p j = true → r j = true) (hj : j0 < k) (hr : r j0 = true) (hp : ¬ p j0 = true) : cnt p k + 1 ≤ cnt r k := by
  have h1 := cnt_add (p := p) (q := fun j => decide (j = j0)) (r := r) k h (fun j _ z => by rw [of_decide_eq_true z]; exact hr) (fun j _ z1 z2 => hp (by rw [← of_decide_eq_true z2]; exact z1))
  have h2 := cnt_pos (p := fun j => decide (j = j0)) hj (decide_eq_true rfl)
  omega
def wantd (cr : Nat → Bool) (R : xM) (g : Nat) : Prop := ∃ k, k < 24 ∧ cr k = true ∧ R.1 27 0 k = nI g
def abL (R : xM) (a k : Nat) : Bool := decide (0 < R.1 25 0 k) && decide (nI a < R.1 27 0 k)
def abC (cr : Nat → Bool) (R : xM) (a k : Nat) : Bool := cr k && decide (nI a < R.1 27 0 k)
theorem memB_congr {M N : xM} (h1 : M.1 25 = N.1 25) (h2 : M.1 27 = N.1 27) (g : Int32) : memB M g = memB N g := by
  funext k; unfold memB; rw [h1, h2]
theorem LG_congr {M N : xM} (h2 : M.1 27 = N.1 27) {cr : Nat → Bool} {a i : Nat} {v : Int32} (h : LG cr M a i v) : LG cr N a i v := by
  unfold LG at h ⊢; rw [← h2]; exact h
theorem c_sendToOrphaned {d n : Nat} {C R : xM} (cr : Nat → Bool) (h : Inv C R n) (hn : n + 48 ≤ 1224) (h14 : ∀ k, k < 24 → C.1 14 0 k = bI (cr k)) (hcr : ∀ k, k < 24 → cr k = true → ∃ g, 1 ≤ g ∧ g < 1000 ∧ R.1 27 0 k = nI g) (hw : ∀ g, 1 ≤ g → g < 1000 → ((R.1 49 0 g = 0 ∧ stpF R (nI g) 24 = true) ↔ wantd cr R g)) : Rn (d + 2) 34 (0, xen 34 [vR 9 0], [], C) (fun r C' => r = none ∧ ∃ n', n' ≤ n + 48 ∧ Inv C' (tlF 999 1 R) n') := by
  obtain ⟨T, hT⟩ : ∃ T, T = tlF 999 1 R := ⟨_, rfl⟩
  rw [← hT]
  have loop : ∀ (m i a n1 : Nat) (D M : xM) (v : Int32), i + m = 24 → a < 1000 → Inv D M n1 → (∀ t, ¬ (t = 45 ∨ t = 46 ∨ t = 20) → M.1 t = R.1 t) → n1 + 2 * cnt (abL R a) 24 ≤ n + 48 → i + cnt (abC cr R a) 24 ≤ 24 → tlF (999 - a) (a + 1) M = T → D.1 14 = C.1 14 → LG cr R a 24 v → Rn (d + 2) 34 (8, [some (vR 9 0), some (vI v), some (vI (nI i))], [], D) (fun r C' => r = none ∧ ∃ n', n' ≤ n + 48 ∧ Inv C' T n') := by
    intro m
    induction m with
    | zero =>
      intro i a n1 D M v hi ha hD hrow hn1 hci hq hD14 hv
      have hw' : ∀ x, 1 ≤ x → x < 1000 → ((M.1 49 0 x = 0 ∧ stpF M (nI x) 24 = true) ↔ wantd cr R x) := fun x h1 h2 => by
        rw [hrow 49 (by decide), stp_congr (hrow 25 (by decide)) (hrow 27 (by decide)) (hrow 28 (by decide))]
        exact hw x h1 h2
      obtain rfl : i = 24 := by omega
      rcases hv with ⟨q1, q2⟩ | ⟨g, k, q1, q2, q3, q4, q5, q6, q7⟩
      · have : tlF (999 - a) (a + 1) M = M := by
          have := tlF_skip (999 - a) (a + 1) 0 M (fun x hx1 hx2 z => by
            obtain ⟨k, hk1, hk2, hk3⟩ := (hw' x (by omega) (by omega)).mp z
            have := q2 k hk1 hk2 x (by omega) hk3
            omega)
          exact this
        rw [this] at hq
        rw [hq] at hD
        refine rn_iload_n (pc' := 9) rfl rfl rfl ?_
        refine rn_bipush (pc' := 11) (v := 24) rfl rfl (by decide) ?_
        refine rn_ic_ge (t := 52) (pc' := 14) rfl rfl rfl (fun h1 => ?_) (fun h1 => ?_)
        · refine rn_return rfl rfl ?_
          exact ⟨rfl, n1, by omega, hD⟩
        · exact absurd ((lt24 (by omega)).mp h1) (by omega)
      · have := cnt_pos (p := abC cr R a) q1 (by
          unfold abC
          rw [q2, q3, decide_eq_true ((nI_ltI (by omega) (by omega)).mpr q4)]
          rfl)
        omega
    | succ m ih =>
      intro i a n1 D M v hi ha hD hrow hn1 hci hq hD14 hv
      have hi24 : i < 24 := by omega
      have r25 := hrow 25 (by decide)
      have r27 := hrow 27 (by decide)
      have hw' : ∀ x, 1 ≤ x → x < 1000 → ((M.1 49 0 x = 0 ∧ stpF M (nI x) 24 = true) ↔ wantd cr R x) := fun x h1 h2 => by
        rw [hrow 49 (by decide), stp_congr r25 r27 (hrow 28 (by decide))]
        exact hw x h1 h2
      rcases hv with ⟨q1, q2⟩ | ⟨g, k, q1, q2, q3, q4, q5, q6, q7⟩
      · have : tlF (999 - a) (a + 1) M = M := by
          have := tlF_skip (999 - a) (a + 1) 0 M (fun x hx1 hx2 z => by
            obtain ⟨k, hk1, hk2, hk3⟩ := (hw' x (by omega) (by omega)).mp z
            have := q2 k hk1 hk2 x (by omega) hk3
            omega)
          exact this
        rw [this] at hq
        rw [hq] at hD
        subst q1
        refine rn_iload_n (pc' := 9) rfl rfl rfl ?_
        refine rn_bipush (pc' := 11) (v := 24) rfl rfl (by decide) ?_
        refine rn_ic_ge (t := 52) (pc' := 14) rfl rfl rfl (fun h1 => ?_) (fun h1 => ?_)
        · refine rn_return rfl rfl ?_
          exact ⟨rfl, n1, by omega, hD⟩
        · refine rn_iload_n (pc' := 15) rfl rfl rfl ?_
          refine rn_iconst (pc' := 16) (v := (-1)) rfl rfl (by decide) ?_
          refine rn_ic_eq (t := 52) (pc' := 19) rfl rfl rfl (fun h2 => ?_) (fun h2 => ?_)
          · refine rn_return rfl rfl ?_
            exact ⟨rfl, n1, by omega, hD⟩
          · exact absurd rfl h2
      · subst q6
        have hne : ¬ nI g = -1 := fun z => by
          have := nI_pos (n := g) (by omega)
          rw [z] at this; exact this (by decide)
        have hlt : ∀ x, nI g < x → nI a < x := fun x hx => Int32.lt_trans ((nI_ltI (by omega) (by omega)).mpr q4) hx
        have hgg : ¬ nI g < nI g := Int32.lt_irrefl
        have c1 : cnt (abC cr R g) 24 + 1 ≤ cnt (abC cr R a) 24 := by
          refine cnt_lt (j0 := k) (fun j _ z => ?_) q1 ?_ ?_
          · unfold abC at z ⊢
            rw [Bool.and_eq_true, decide_eq_true_eq] at z ⊢
            exact ⟨z.1, hlt _ z.2⟩
          · unfold abC
            rw [q2, q3, decide_eq_true ((nI_ltI (by omega) (by omega)).mpr q4)]
            rfl
          · unfold abC
            rw [q3, decide_eq_false hgg, Bool.and_false]
            decide
        have c2 : cnt (memB R (nI g)) 24 + cnt (abL R g) 24 ≤ cnt (abL R a) 24 := by
          refine cnt_add 24 (fun j _ z => ?_) (fun j _ z => ?_) (fun j _ z1 z2 => ?_)
          · unfold memB at z
            unfold abL
            rw [Bool.and_eq_true, decide_eq_true_eq, decide_eq_true_eq] at z ⊢
            rw [z.2]
            exact ⟨z.1, (nI_ltI (by omega) (by omega)).mpr q4⟩
          · unfold abL at z ⊢
            rw [Bool.and_eq_true, decide_eq_true_eq, decide_eq_true_eq] at z ⊢
            exact ⟨z.1, hlt _ z.2⟩
          · unfold memB at z1
            unfold abL at z2
            rw [Bool.and_eq_true, decide_eq_true_eq, decide_eq_true_eq] at z1 z2
            rw [z1.2] at z2
            exact hgg z2.2
        have hq2 : tlF (999 - g) (g + 1) (if M.1 49 0 g = 0 ∧ orph M (nI g) = true then f_tell M (nI g) else M) = T := by
          have e1 := tlF_skip (g - a - 1) (a + 1) (1000 - g) M (fun x hx1 hx2 z => by
            obtain ⟨k, hk1, hk2, hk3⟩ := (hw' x (by omega) (by omega)).mp z
            have := q7 k hk1 hk2 x (by omega) hk3 (by omega)
            omega)
          rw [show g - a - 1 + (1000 - g) = 999 - a by omega, show a + 1 + (g - a - 1) = g by omega, hq, show 1000 - g = (999 - g) + 1 by omega] at e1
          exact e1.symm
        have hwg := (hw' g (by omega) q5).mpr ⟨k, q1, q2, q3⟩
        have go_ : ∀ (E N : xM) (n2 : Nat), Inv E N n2 → (∀ t, ¬ (t = 45 ∨ t = 46 ∨ t = 20) → N.1 t = R.1 t) → n2 + 2 * cnt (abL R g) 24 ≤ n + 48 → tlF (999 - g) (g + 1) N = T → E.1 14 = C.1 14 → Rn (d + 2) 34 (40, [some (vR 9 0), some (vI (nI g)), some (vI (nI i))], [], E) (fun r C' => r = none ∧ ∃ n', n' ≤ n + 48 ∧ Inv C' T n') := by
          intro E N n2 hE hrowN hn2 hqN hE14
          have hl := c_least (d := d + 1) (C := E) (R := N) cr hE.1.1 q5 (fun k hk => by rw [hE14]; exact h14 k hk) (fun k hk hc => by rw [hrowN 27 (by decide)]; exact hcr k hk hc)
          refine rn_aload_n (pc' := 41) rfl rfl rfl ?_
          refine rn_iload_n (pc' := 42) rfl rfl rfl ?_
          refine rn_callV (pc' := 45) (as := [_]) rfl rfl rfl ⟨Nat.le_of_ble_eq_true rfl, rfl, rfl⟩ rfl (by first | assumption | decide | omega) (Nat.le_of_ble_eq_true rfl) (Nat.le_of_ble_eq_true rfl) rfl hl (fun r9 D9 hz9 => ?_)
          obtain ⟨⟨v9, rfl, hLG⟩, rfl⟩ := hz9
          refine rn_istore_n (pc' := 46) rfl rfl rfl (Nat.le_of_ble_eq_true rfl) rfl ?_
          refine rn_iinc (pc' := 49) rfl rfl rfl (nI_inc _) rfl (Nat.le_of_ble_eq_true rfl) rfl ?_
          refine rn_goto (pc' := 8) rfl rfl ?_
          exact ih (i + 1) g n2 _ N v9 (by omega) q5 hE hrowN hn2 (by omega) hqN hE14 (LG_congr (hrowN 27 (by decide)) hLG)
        have hio := c_isOrphaned (d := d + 1) hD (nI g)
        by_cases ho : orph M (nI g) = true
        · rw [if_pos ⟨hwg.1, ho⟩] at hq2
          have eft : f_tell M (nI g) = f_sendAll (f_sendAll M (nI g) 1) (nI g) 18 := by unfold f_tell; rw [if_pos hwg.2]
          rw [eft] at hq2
          have m1 : memB M (nI g) = memB R (nI g) := memB_congr r25 r27 _
          have m2 : memB (f_sendAll M (nI g) (nI 1)) (nI g) = memB R (nI g) := by
            refine memB_congr ?_ ?_ _
            · unfold f_sendAll; rw [saF_row _ _ 25 (by decide), r25]
            · unfold f_sendAll; rw [saF_row _ _ 27 (by decide), r27]
          have s1 := c_sendToGroup (d := d) (s := 1) (nI g) hD (by rw [m1]; omega) (by omega) (by omega)
          rw [m1] at s1
          have s2 : ∀ D9, Inv D9 (f_sendAll M (nI g) (nI 1)) (n1 + cnt (memB R (nI g)) 24) → _ := fun D9 hI => c_sendToGroup (d := d) (s := 18) (nI g) (C := D9) hI (by rw [m2]; omega) (by omega) (by omega)
          rw [m2] at s2
          rw [ho] at hio
          refine rn_iload_n (pc' := 9) rfl rfl rfl ?_
          refine rn_bipush (pc' := 11) (v := 24) rfl rfl (by decide) ?_
          refine rn_ic_ge (t := 52) (pc' := 14) rfl rfl rfl (fun h1 => ?_) (fun h1 => ?_)
          · first | exact absurd h2 hne | exact absurd ((lt24 (by omega)).mpr hi24) h1
          · refine rn_iload_n (pc' := 15) rfl rfl rfl ?_
            refine rn_iconst (pc' := 16) (v := (-1)) rfl rfl (by decide) ?_
            refine rn_ic_eq (t := 52) (pc' := 19) rfl rfl rfl (fun h2 => ?_) (fun h2 => ?_)
            · first | exact absurd h2 hne | exact absurd ((lt24 (by omega)).mpr hi24) h1
            · refine rn_aload_n (pc' := 20) rfl rfl rfl ?_
              refine rn_iload_n (pc' := 21) rfl rfl rfl ?_
              refine rn_callV (pc' := 24) (as := [_]) rfl rfl rfl ⟨Nat.le_of_ble_eq_true rfl, rfl, rfl⟩ rfl (by first | assumption | decide | omega) (Nat.le_of_ble_eq_true rfl) (Nat.le_of_ble_eq_true rfl) rfl hio (fun r3 M3 hz => ?_)
              obtain ⟨rfl, hm_⟩ := hz
              refine rn_mem hm_ ?_
              clear hm_
              refine rn_if_eq (t := 40) (pc' := 27) rfl rfl rfl (fun h3 => ?_) (fun h3 => ?_)
              · first | exact absurd h3 (by decide) | exact go_ D8 (f_sendAll (f_sendAll M (nI g) (nI 1)) (nI g) (nI 18)) _ hI8 (fun t ht => by unfold f_sendAll; rw [saF_row _ _ t ht, saF_row _ _ t ht, hrow t ht]) (by omega) hq2 (h148.trans (h149.trans hD14))
              · refine rn_aload_n (pc' := 28) rfl rfl rfl ?_
                refine rn_iload_n (pc' := 29) rfl rfl rfl ?_
                refine rn_iconst (pc' := 30) (v := 1) rfl rfl (by decide) ?_
                refine rn_callV (pc' := 33) (as := [_, _]) rfl rfl rfl ⟨Nat.le_of_ble_eq_true rfl, rfl, rfl⟩ rfl (by first | assumption | decide | omega) (Nat.le_of_ble_eq_true rfl) (Nat.le_of_ble_eq_true rfl) rfl s1 (fun r9 D9 hz9 => ?_)
                obtain ⟨rfl, hI, h149⟩ := hz9
                refine rn_aload_n (pc' := 34) rfl rfl rfl ?_
                refine rn_iload_n (pc' := 35) rfl rfl rfl ?_
                refine rn_bipush (pc' := 37) (v := 18) rfl rfl (by decide) ?_
                refine rn_callV (pc' := 40) (as := [_, _]) rfl rfl rfl ⟨Nat.le_of_ble_eq_true rfl, rfl, rfl⟩ rfl (by first | assumption | decide | omega) (Nat.le_of_ble_eq_true rfl) (Nat.le_of_ble_eq_true rfl) rfl (s2 D9 hI) (fun r8 D8 hz8 => ?_)
                obtain ⟨rfl, hI8, h148⟩ := hz8
                first | exact absurd h3 (by decide) | exact go_ D8 (f_sendAll (f_sendAll M (nI g) (nI 1)) (nI g) (nI 18)) _ hI8 (fun t ht => by unfold f_sendAll; rw [saF_row _ _ t ht, saF_row _ _ t ht, hrow t ht]) (by omega) hq2 (h148.trans (h149.trans hD14))
        · rw [if_neg (fun z => ho z.2)] at hq2
          have ho' : orph M (nI g) = false := by simpa using ho
          rw [ho'] at hio
          refine rn_iload_n (pc' := 9) rfl rfl rfl ?_
          refine rn_bipush (pc' := 11) (v := 24) rfl rfl (by decide) ?_
          refine rn_ic_ge (t := 52) (pc' := 14) rfl rfl rfl (fun h1 => ?_) (fun h1 => ?_)
          · first | exact absurd h2 hne | exact absurd ((lt24 (by omega)).mpr hi24) h1
          · refine rn_iload_n (pc' := 15) rfl rfl rfl ?_
            refine rn_iconst (pc' := 16) (v := (-1)) rfl rfl (by decide) ?_
            refine rn_ic_eq (t := 52) (pc' := 19) rfl rfl rfl (fun h2 => ?_) (fun h2 => ?_)
            · first | exact absurd h2 hne | exact absurd ((lt24 (by omega)).mpr hi24) h1
            · refine rn_aload_n (pc' := 20) rfl rfl rfl ?_
              refine rn_iload_n (pc' := 21) rfl rfl rfl ?_
              refine rn_callV (pc' := 24) (as := [_]) rfl rfl rfl ⟨Nat.le_of_ble_eq_true rfl, rfl, rfl⟩ rfl (by first | assumption | decide | omega) (Nat.le_of_ble_eq_true rfl) (Nat.le_of_ble_eq_true rfl) rfl hio (fun r3 M3 hz => ?_)
              obtain ⟨rfl, hm_⟩ := hz
              refine rn_mem hm_ ?_
              clear hm_
              refine rn_if_eq (t := 40) (pc' := 27) rfl rfl rfl (fun h3 => ?_) (fun h3 => ?_)
              · exact go_ D M n1 hD hrow (by omega) hq2 hD14
              · exact absurd rfl h3
  have hl := c_least (d := d + 1) (C := C) (R := R) (a := 0) cr h.1.1 (by omega) h14 hcr
  have k1 := cnt_le (abL R 0) 24
  have k2 := cnt_le (abC cr R 0) 24
  show Rn _ 34 (0, [some (vR 9 0), none, none], [], _) _
  refine rn_aload_n (pc' := 1) rfl rfl rfl ?_
  refine rn_iconst (pc' := 2) (v := 0) rfl rfl (by decide) ?_
  refine rn_callV (pc' := 5) (as := [_]) rfl rfl rfl ⟨Nat.le_of_ble_eq_true rfl, rfl, rfl⟩ rfl (by first | assumption | decide | omega) (Nat.le_of_ble_eq_true rfl) (Nat.le_of_ble_eq_true rfl) rfl hl (fun r9 D9 hz9 => ?_)
  obtain ⟨⟨v9, rfl, hLG⟩, rfl⟩ := hz9
  refine rn_istore_n (pc' := 6) rfl rfl rfl (Nat.le_of_ble_eq_true rfl) rfl ?_
  refine rn_iconst (pc' := 7) (v := 0) rfl rfl (by decide) ?_
  refine rn_istore_n (pc' := 8) rfl rfl rfl (Nat.le_of_ble_eq_true rfl) rfl ?_
  exact loop 24 0 0 n _ R v9 rfl (by omega) h (fun _ _ => rfl) (by omega) (by omega) hT.symm rfl hLG
end
