section
-- ===== PART A: goes FIRST, ahead of the names: the tables' words, and 'selects' of the private methods out of them =====
/-- a private method of a class that the tables say can be made, by its rows of tables_1 -/
def lw_okq (q : MethodName × Nat) : Prop := (q.1.cls ≠ "java/lang/invoke/MethodHandle" ∧ q.1.cls ≠ "java/lang/invoke/VarHandle") ∧ Cond.instantiable q.1.cls q.2 ∈ tables_1 ∧ Cond.privateMethod q.1 ∈ tables_1 ∧ Cond.instanceMethod q.1 ∈ tables_1
theorem lw_p0 : lw_okq (⟨"java/lang/Throwable", "fillInStackTrace", "(I)Ljava/lang/Throwable;"⟩, 6) := ⟨⟨by decide +kernel, by decide +kernel⟩, List.mem_of_getElem? (i := 219) (by decide +kernel), List.mem_of_getElem? (i := 217) (by decide +kernel), List.mem_of_getElem? (i := 218) (by decide +kernel)⟩
theorem lw_p1 : lw_okq (⟨"MessageCrossbar", "runTick", "()Z"⟩, 7) := ⟨⟨by decide +kernel, by decide +kernel⟩, List.mem_of_getElem? (i := 14) (by decide +kernel), List.mem_of_getElem? (i := 274) (by decide +kernel), List.mem_of_getElem? (i := 275) (by decide +kernel)⟩
theorem lw_p2 : lw_okq (⟨"MessageCrossbar", "moveAnswers", "()Z"⟩, 7) := ⟨⟨by decide +kernel, by decide +kernel⟩, List.mem_of_getElem? (i := 14) (by decide +kernel), List.mem_of_getElem? (i := 278) (by decide +kernel), List.mem_of_getElem? (i := 279) (by decide +kernel)⟩
theorem lw_p3 : lw_okq (⟨"MessageCrossbar", "nextAnsweringPort", "(I)I"⟩, 7) := ⟨⟨by decide +kernel, by decide +kernel⟩, List.mem_of_getElem? (i := 14) (by decide +kernel), List.mem_of_getElem? (i := 282) (by decide +kernel), List.mem_of_getElem? (i := 283) (by decide +kernel)⟩
theorem lw_p4 : lw_okq (⟨"MessageCrossbar", "moveAnswer", "(II)V"⟩, 7) := ⟨⟨by decide +kernel, by decide +kernel⟩, List.mem_of_getElem? (i := 14) (by decide +kernel), List.mem_of_getElem? (i := 301) (by decide +kernel), List.mem_of_getElem? (i := 302) (by decide +kernel)⟩
theorem lw_p5 : lw_okq (⟨"MessageCrossbar", "servePorts", "()Z"⟩, 7) := ⟨⟨by decide +kernel, by decide +kernel⟩, List.mem_of_getElem? (i := 14) (by decide +kernel), List.mem_of_getElem? (i := 313) (by decide +kernel), List.mem_of_getElem? (i := 314) (by decide +kernel)⟩
theorem lw_p6 : lw_okq (⟨"MessageCrossbar", "finishJob", "(I)V"⟩, 7) := ⟨⟨by decide +kernel, by decide +kernel⟩, List.mem_of_getElem? (i := 14) (by decide +kernel), List.mem_of_getElem? (i := 326) (by decide +kernel), List.mem_of_getElem? (i := 327) (by decide +kernel)⟩
theorem lw_p7 : lw_okq (⟨"MessageCrossbar", "carryOut", "(LMessageCrossbar$Message;)V"⟩, 7) := ⟨⟨by decide +kernel, by decide +kernel⟩, List.mem_of_getElem? (i := 14) (by decide +kernel), List.mem_of_getElem? (i := 335) (by decide +kernel), List.mem_of_getElem? (i := 336) (by decide +kernel)⟩
theorem lw_p8 : lw_okq (⟨"MessageCrossbar", "readBytes", "(LMessageCrossbar$Message;)J"⟩, 7) := ⟨⟨by decide +kernel, by decide +kernel⟩, List.mem_of_getElem? (i := 14) (by decide +kernel), List.mem_of_getElem? (i := 343) (by decide +kernel), List.mem_of_getElem? (i := 344) (by decide +kernel)⟩
theorem lw_p9 : lw_okq (⟨"MessageCrossbar", "writeBytes", "(LMessageCrossbar$Message;)V"⟩, 7) := ⟨⟨by decide +kernel, by decide +kernel⟩, List.mem_of_getElem? (i := 14) (by decide +kernel), List.mem_of_getElem? (i := 351) (by decide +kernel), List.mem_of_getElem? (i := 352) (by decide +kernel)⟩
theorem lw_p10 : lw_okq (⟨"MessageCrossbar", "beginJob", "(I)V"⟩, 7) := ⟨⟨by decide +kernel, by decide +kernel⟩, List.mem_of_getElem? (i := 14) (by decide +kernel), List.mem_of_getElem? (i := 363) (by decide +kernel), List.mem_of_getElem? (i := 364) (by decide +kernel)⟩
theorem lw_p11 : lw_okq (⟨"MessageCrossbar", "moveRequests", "()Z"⟩, 7) := ⟨⟨by decide +kernel, by decide +kernel⟩, List.mem_of_getElem? (i := 14) (by decide +kernel), List.mem_of_getElem? (i := 374) (by decide +kernel), List.mem_of_getElem? (i := 375) (by decide +kernel)⟩
theorem lw_p12 : lw_okq (⟨"MessageCrossbar", "nextRequestingMaster", "(I)I"⟩, 7) := ⟨⟨by decide +kernel, by decide +kernel⟩, List.mem_of_getElem? (i := 14) (by decide +kernel), List.mem_of_getElem? (i := 378) (by decide +kernel), List.mem_of_getElem? (i := 379) (by decide +kernel)⟩
theorem lw_p13 : lw_okq (⟨"MessageCrossbar", "moveRequest", "(II)V"⟩, 7) := ⟨⟨by decide +kernel, by decide +kernel⟩, List.mem_of_getElem? (i := 14) (by decide +kernel), List.mem_of_getElem? (i := 396) (by decide +kernel), List.mem_of_getElem? (i := 397) (by decide +kernel)⟩
theorem lw_p14 : lw_okq (⟨"MessageCrossbar", "anyJobRuns", "()Z"⟩, 7) := ⟨⟨by decide +kernel, by decide +kernel⟩, List.mem_of_getElem? (i := 14) (by decide +kernel), List.mem_of_getElem? (i := 404) (by decide +kernel), List.mem_of_getElem? (i := 405) (by decide +kernel)⟩
theorem lw_p15 : lw_okq (⟨"MessageCrossbar", "countStillTicks", "(I)V"⟩, 7) := ⟨⟨by decide +kernel, by decide +kernel⟩, List.mem_of_getElem? (i := 14) (by decide +kernel), List.mem_of_getElem? (i := 408) (by decide +kernel), List.mem_of_getElem? (i := 409) (by decide +kernel)⟩
def lw_privs_1 : List (MethodName × Nat) := [(⟨"java/lang/Throwable", "fillInStackTrace", "(I)Ljava/lang/Throwable;"⟩, 6), (⟨"MessageCrossbar", "runTick", "()Z"⟩, 7), (⟨"MessageCrossbar", "moveAnswers", "()Z"⟩, 7), (⟨"MessageCrossbar", "nextAnsweringPort", "(I)I"⟩, 7), (⟨"MessageCrossbar", "moveAnswer", "(II)V"⟩, 7), (⟨"MessageCrossbar", "servePorts", "()Z"⟩, 7), (⟨"MessageCrossbar", "finishJob", "(I)V"⟩, 7), (⟨"MessageCrossbar", "carryOut", "(LMessageCrossbar$Message;)V"⟩, 7), (⟨"MessageCrossbar", "readBytes", "(LMessageCrossbar$Message;)J"⟩, 7), (⟨"MessageCrossbar", "writeBytes", "(LMessageCrossbar$Message;)V"⟩, 7), (⟨"MessageCrossbar", "beginJob", "(I)V"⟩, 7), (⟨"MessageCrossbar", "moveRequests", "()Z"⟩, 7), (⟨"MessageCrossbar", "nextRequestingMaster", "(I)I"⟩, 7), (⟨"MessageCrossbar", "moveRequest", "(II)V"⟩, 7), (⟨"MessageCrossbar", "anyJobRuns", "()Z"⟩, 7), (⟨"MessageCrossbar", "countStillTicks", "(I)V"⟩, 7)]
theorem lw_r1 : ∀ q ∈ lw_privs_1, lw_okq q := List.forall_mem_cons.mpr ⟨lw_p0, List.forall_mem_cons.mpr ⟨lw_p1, List.forall_mem_cons.mpr ⟨lw_p2, List.forall_mem_cons.mpr ⟨lw_p3, List.forall_mem_cons.mpr ⟨lw_p4, List.forall_mem_cons.mpr ⟨lw_p5, List.forall_mem_cons.mpr ⟨lw_p6, List.forall_mem_cons.mpr ⟨lw_p7, List.forall_mem_cons.mpr ⟨lw_p8, List.forall_mem_cons.mpr ⟨lw_p9, List.forall_mem_cons.mpr ⟨lw_p10, List.forall_mem_cons.mpr ⟨lw_p11, List.forall_mem_cons.mpr ⟨lw_p12, List.forall_mem_cons.mpr ⟨lw_p13, List.forall_mem_cons.mpr ⟨lw_p14, List.forall_mem_cons.mpr ⟨lw_p15, fun _ h => absurd h List.not_mem_nil⟩⟩⟩⟩⟩⟩⟩⟩⟩⟩⟩⟩⟩⟩⟩⟩
theorem lw_p16 : lw_okq (⟨"MessageCrossbarModel", "many", "(II)I"⟩, 20) := ⟨⟨by decide +kernel, by decide +kernel⟩, List.mem_of_getElem? (i := 467) (by decide +kernel), List.mem_of_getElem? (i := 547) (by decide +kernel), List.mem_of_getElem? (i := 548) (by decide +kernel)⟩
theorem lw_p17 : lw_okq (⟨"MessageCrossbarModel", "isAt", "(III)Z"⟩, 20) := ⟨⟨by decide +kernel, by decide +kernel⟩, List.mem_of_getElem? (i := 467) (by decide +kernel), List.mem_of_getElem? (i := 551) (by decide +kernel), List.mem_of_getElem? (i := 552) (by decide +kernel)⟩
theorem lw_p18 : lw_okq (⟨"MessageCrossbarModel", "go", "(II)V"⟩, 20) := ⟨⟨by decide +kernel, by decide +kernel⟩, List.mem_of_getElem? (i := 467) (by decide +kernel), List.mem_of_getElem? (i := 558) (by decide +kernel), List.mem_of_getElem? (i := 559) (by decide +kernel)⟩
theorem lw_p19 : lw_okq (⟨"MessageCrossbarModel", "answers", "(I)V"⟩, 20) := ⟨⟨by decide +kernel, by decide +kernel⟩, List.mem_of_getElem? (i := 467) (by decide +kernel), List.mem_of_getElem? (i := 570) (by decide +kernel), List.mem_of_getElem? (i := 571) (by decide +kernel)⟩
theorem lw_p20 : lw_okq (⟨"MessageCrossbarModel", "first", "(II)I"⟩, 20) := ⟨⟨by decide +kernel, by decide +kernel⟩, List.mem_of_getElem? (i := 467) (by decide +kernel), List.mem_of_getElem? (i := 574) (by decide +kernel), List.mem_of_getElem? (i := 575) (by decide +kernel)⟩
theorem lw_p21 : lw_okq (⟨"MessageCrossbarModel", "serve", "(I)V"⟩, 20) := ⟨⟨by decide +kernel, by decide +kernel⟩, List.mem_of_getElem? (i := 467) (by decide +kernel), List.mem_of_getElem? (i := 578) (by decide +kernel), List.mem_of_getElem? (i := 579) (by decide +kernel)⟩
theorem lw_p22 : lw_okq (⟨"MessageCrossbarModel", "work", "(I)V"⟩, 20) := ⟨⟨by decide +kernel, by decide +kernel⟩, List.mem_of_getElem? (i := 467) (by decide +kernel), List.mem_of_getElem? (i := 582) (by decide +kernel), List.mem_of_getElem? (i := 583) (by decide +kernel)⟩
theorem lw_p23 : lw_okq (⟨"MessageCrossbarModel", "fetch", "(I)V"⟩, 20) := ⟨⟨by decide +kernel, by decide +kernel⟩, List.mem_of_getElem? (i := 467) (by decide +kernel), List.mem_of_getElem? (i := 593) (by decide +kernel), List.mem_of_getElem? (i := 594) (by decide +kernel)⟩
theorem lw_p24 : lw_okq (⟨"MessageCrossbarModel", "freeId", "(I)I"⟩, 20) := ⟨⟨by decide +kernel, by decide +kernel⟩, List.mem_of_getElem? (i := 467) (by decide +kernel), List.mem_of_getElem? (i := 597) (by decide +kernel), List.mem_of_getElem? (i := 598) (by decide +kernel)⟩
theorem lw_p25 : lw_okq (⟨"MessageCrossbarModel", "holder", "(II)I"⟩, 20) := ⟨⟨by decide +kernel, by decide +kernel⟩, List.mem_of_getElem? (i := 467) (by decide +kernel), List.mem_of_getElem? (i := 601) (by decide +kernel), List.mem_of_getElem? (i := 602) (by decide +kernel)⟩
def lw_privs_2 : List (MethodName × Nat) := [(⟨"MessageCrossbarModel", "many", "(II)I"⟩, 20), (⟨"MessageCrossbarModel", "isAt", "(III)Z"⟩, 20), (⟨"MessageCrossbarModel", "go", "(II)V"⟩, 20), (⟨"MessageCrossbarModel", "answers", "(I)V"⟩, 20), (⟨"MessageCrossbarModel", "first", "(II)I"⟩, 20), (⟨"MessageCrossbarModel", "serve", "(I)V"⟩, 20), (⟨"MessageCrossbarModel", "work", "(I)V"⟩, 20), (⟨"MessageCrossbarModel", "fetch", "(I)V"⟩, 20), (⟨"MessageCrossbarModel", "freeId", "(I)I"⟩, 20), (⟨"MessageCrossbarModel", "holder", "(II)I"⟩, 20)]
theorem lw_r2 : ∀ q ∈ lw_privs_2, lw_okq q := List.forall_mem_cons.mpr ⟨lw_p16, List.forall_mem_cons.mpr ⟨lw_p17, List.forall_mem_cons.mpr ⟨lw_p18, List.forall_mem_cons.mpr ⟨lw_p19, List.forall_mem_cons.mpr ⟨lw_p20, List.forall_mem_cons.mpr ⟨lw_p21, List.forall_mem_cons.mpr ⟨lw_p22, List.forall_mem_cons.mpr ⟨lw_p23, List.forall_mem_cons.mpr ⟨lw_p24, List.forall_mem_cons.mpr ⟨lw_p25, fun _ h => absurd h List.not_mem_nil⟩⟩⟩⟩⟩⟩⟩⟩⟩⟩
def lw_privs : List (MethodName × Nat) := lw_privs_1 ++ (lw_privs_2)
def lw_tbl : List Cond := k2_sels lw_privs ++ tables_1
theorem lw_privs_ok : ∀ q ∈ lw_privs, lw_okq q := by
  show ∀ q ∈ lw_privs_1 ++ (lw_privs_2), lw_okq q
  exact List.forall_mem_append.mpr ⟨lw_r1, lw_r2⟩
end
section
/-! names of methods -/
def yX_init : MethodName := ⟨"MessageCrossbar", "<init>", "()V"⟩
def yX_request : MethodName := ⟨"MessageCrossbar", "request", "(IIIIIJI)I"⟩
def yX_accept : MethodName := ⟨"MessageCrossbar", "accept", "(IZ)Z"⟩
def yX_tick : MethodName := ⟨"MessageCrossbar", "tick", "(I)I"⟩
def yX_take : MethodName := ⟨"MessageCrossbar", "take", "(I)I"⟩
def yX_data : MethodName := ⟨"MessageCrossbar", "data", "()J"⟩
def yX_port : MethodName := ⟨"MessageCrossbar", "port", "(II)I"⟩
def yX_owner : MethodName := ⟨"MessageCrossbar", "owner", "(II)I"⟩
def yX_master : MethodName := ⟨"MessageCrossbar", "master", "(II)I"⟩
def yX_memory : MethodName := ⟨"MessageCrossbar", "memory", "(I)I"⟩
def yX_done : MethodName := ⟨"MessageCrossbar", "done", "(I)I"⟩
def yX_count : MethodName := ⟨"MessageCrossbar", "count", "(I)I"⟩
def yX_runTick : MethodName := ⟨"MessageCrossbar", "runTick", "()Z"⟩
def yX_anyJobRuns : MethodName := ⟨"MessageCrossbar", "anyJobRuns", "()Z"⟩
def yX_countStillTicks : MethodName := ⟨"MessageCrossbar", "countStillTicks", "(I)V"⟩
def yX_moveAnswers : MethodName := ⟨"MessageCrossbar", "moveAnswers", "()Z"⟩
def yX_nextAnsweringPort : MethodName := ⟨"MessageCrossbar", "nextAnsweringPort", "(I)I"⟩
def yX_moveAnswer : MethodName := ⟨"MessageCrossbar", "moveAnswer", "(II)V"⟩
def yX_servePorts : MethodName := ⟨"MessageCrossbar", "servePorts", "()Z"⟩
def yX_finishJob : MethodName := ⟨"MessageCrossbar", "finishJob", "(I)V"⟩
def yX_beginJob : MethodName := ⟨"MessageCrossbar", "beginJob", "(I)V"⟩
def yX_carryOut : MethodName := ⟨"MessageCrossbar", "carryOut", "(LMessageCrossbar$Message;)V"⟩
def yX_readBytes : MethodName := ⟨"MessageCrossbar", "readBytes", "(LMessageCrossbar$Message;)J"⟩
def yX_writeBytes : MethodName := ⟨"MessageCrossbar", "writeBytes", "(LMessageCrossbar$Message;)V"⟩
def yX_moveRequests : MethodName := ⟨"MessageCrossbar", "moveRequests", "()Z"⟩
def yX_nextRequestingMaster : MethodName := ⟨"MessageCrossbar", "nextRequestingMaster", "(I)I"⟩
def yX_moveRequest : MethodName := ⟨"MessageCrossbar", "moveRequest", "(II)V"⟩
def yX_isBelow : MethodName := ⟨"MessageCrossbar", "isBelow", "(II)Z"⟩
def yX_isAligned : MethodName := ⟨"MessageCrossbar", "isAligned", "(II)Z"⟩
def yX_masterOf : MethodName := ⟨"MessageCrossbar", "masterOf", "(I)I"⟩
def yX_sourceOf : MethodName := ⟨"MessageCrossbar", "sourceOf", "(I)I"⟩
def yX_logPlace : MethodName := ⟨"MessageCrossbar", "logPlace", "(I)I"⟩
def yX_stepBehind : MethodName := ⟨"MessageCrossbar", "stepBehind", "(III)I"⟩
def yR_init : MethodName := ⟨"MessageCrossbarModel", "<init>", "()V"⟩
def yR_thrown : MethodName := ⟨"MessageCrossbarModel", "thrown", "()I"⟩
def yR_in : MethodName := ⟨"MessageCrossbarModel", "in", "(II)Z"⟩
def yR_portOf : MethodName := ⟨"MessageCrossbarModel", "portOf", "(I)I"⟩
def yR_widthOf : MethodName := ⟨"MessageCrossbarModel", "widthOf", "(I)I"⟩
def yR_delayOf : MethodName := ⟨"MessageCrossbarModel", "delayOf", "(I)I"⟩
def yR_isAt : MethodName := ⟨"MessageCrossbarModel", "isAt", "(III)Z"⟩
def yR_many : MethodName := ⟨"MessageCrossbarModel", "many", "(II)I"⟩
def yR_first : MethodName := ⟨"MessageCrossbarModel", "first", "(II)I"⟩
def yR_go : MethodName := ⟨"MessageCrossbarModel", "go", "(II)V"⟩
def yR_holder : MethodName := ⟨"MessageCrossbarModel", "holder", "(II)I"⟩
def yR_freeId : MethodName := ⟨"MessageCrossbarModel", "freeId", "(I)I"⟩
def yR_request : MethodName := ⟨"MessageCrossbarModel", "request", "(IIIIIJI)I"⟩
def yR_accept : MethodName := ⟨"MessageCrossbarModel", "accept", "(IZ)Z"⟩
def yR_answers : MethodName := ⟨"MessageCrossbarModel", "answers", "(I)V"⟩
def yR_work : MethodName := ⟨"MessageCrossbarModel", "work", "(I)V"⟩
def yR_serve : MethodName := ⟨"MessageCrossbarModel", "serve", "(I)V"⟩
def yR_fetch : MethodName := ⟨"MessageCrossbarModel", "fetch", "(I)V"⟩
def yR_tick : MethodName := ⟨"MessageCrossbarModel", "tick", "(I)I"⟩
def yR_take : MethodName := ⟨"MessageCrossbarModel", "take", "(I)I"⟩
def yR_data : MethodName := ⟨"MessageCrossbarModel", "data", "()J"⟩
def yR_port : MethodName := ⟨"MessageCrossbarModel", "port", "(II)I"⟩
def yR_owner : MethodName := ⟨"MessageCrossbarModel", "owner", "(II)I"⟩
def yR_master : MethodName := ⟨"MessageCrossbarModel", "master", "(II)I"⟩
def yR_memory : MethodName := ⟨"MessageCrossbarModel", "memory", "(I)I"⟩
def yR_done : MethodName := ⟨"MessageCrossbarModel", "done", "(I)I"⟩
def yR_count : MethodName := ⟨"MessageCrossbarModel", "count", "(I)I"⟩
def yL_init : MethodName := ⟨"MessageCrossbar$Line", "<init>", "(I)V"⟩
def yL_isFull : MethodName := ⟨"MessageCrossbar$Line", "isFull", "()Z"⟩
def yL_first : MethodName := ⟨"MessageCrossbar$Line", "first", "()I"⟩
def yL_append : MethodName := ⟨"MessageCrossbar$Line", "append", "(I)V"⟩
def yL_removeFirst : MethodName := ⟨"MessageCrossbar$Line", "removeFirst", "()I"⟩
def yM_init : MethodName := ⟨"MessageCrossbar$Master", "<init>", "()V"⟩
def yM_hasInFlight : MethodName := ⟨"MessageCrossbar$Master", "hasInFlight", "(I)Z"⟩
def yM_hasRoomForAnswer : MethodName := ⟨"MessageCrossbar$Master", "hasRoomForAnswer", "()Z"⟩
def yG_init : MethodName := ⟨"MessageCrossbar$Message", "<init>", "()V"⟩
def yG_become : MethodName := ⟨"MessageCrossbar$Message", "become", "(IIIJI)V"⟩
def yG_size : MethodName := ⟨"MessageCrossbar$Message", "size", "()I"⟩
def yG_isDenied : MethodName := ⟨"MessageCrossbar$Message", "isDenied", "()Z"⟩
def yG_writesByte : MethodName := ⟨"MessageCrossbar$Message", "writesByte", "(I)Z"⟩
def yG_goesTo : MethodName := ⟨"MessageCrossbar$Message", "goesTo", "(I)Z"⟩
def yP_init : MethodName := ⟨"MessageCrossbar$Port", "<init>", "()V"⟩
def yP_countDown : MethodName := ⟨"MessageCrossbar$Port", "countDown", "()V"⟩
def yP_canFinishJob : MethodName := ⟨"MessageCrossbar$Port", "canFinishJob", "()Z"⟩
def yP_canBeginJob : MethodName := ⟨"MessageCrossbar$Port", "canBeginJob", "()Z"⟩
def yP_finishJob : MethodName := ⟨"MessageCrossbar$Port", "finishJob", "()I"⟩
def yP_hasRoomForRequest : MethodName := ⟨"MessageCrossbar$Port", "hasRoomForRequest", "()Z"⟩
def yP_idsInUse : MethodName := ⟨"MessageCrossbar$Port", "idsInUse", "()I"⟩
def yP_takeLeastId : MethodName := ⟨"MessageCrossbar$Port", "takeLeastId", "(I)V"⟩
def yP_releaseId : MethodName := ⟨"MessageCrossbar$Port", "releaseId", "(I)V"⟩
def yZ_request : MethodName := ⟨"MessageCrossbarLaw", "request", "(LMessageCrossbar;IIIIIJI[J)I"⟩
def yZ_accept : MethodName := ⟨"MessageCrossbarLaw", "accept", "(LMessageCrossbar;IZ[J)I"⟩
def yZ_tick : MethodName := ⟨"MessageCrossbarLaw", "tick", "(LMessageCrossbar;I[J)I"⟩
def yZ_take : MethodName := ⟨"MessageCrossbarLaw", "take", "(LMessageCrossbar;I[J)I"⟩
def yZ_port : MethodName := ⟨"MessageCrossbarLaw", "port", "(LMessageCrossbar;II[J)I"⟩
def yZ_owner : MethodName := ⟨"MessageCrossbarLaw", "owner", "(LMessageCrossbar;II[J)I"⟩
def yZ_master : MethodName := ⟨"MessageCrossbarLaw", "master", "(LMessageCrossbar;II[J)I"⟩
def yZ_memory : MethodName := ⟨"MessageCrossbarLaw", "memory", "(LMessageCrossbar;I[J)I"⟩
def yZ_law : MethodName := ⟨"MessageCrossbarLaw", "law", "([I)Z"⟩
/-! every good word of the tables -/
def mx_T : List Cond := lw_tbl.filter goodWord
theorem mx_in {w : Cond} {i : Nat} (h : tables_1[i]? = some w) (g : goodWord w = true) : w ∈ mx_T := List.mem_filter.mpr ⟨List.mem_append_right _ (List.mem_of_getElem? h), g⟩
theorem mx_se {y : MethodName} {n i : Nat} (h : lw_privs[i]? = some (y, n)) (g : goodWord (Cond.selects y.cls y y) = true) : Cond.selects y.cls y y ∈ mx_T := List.mem_filter.mpr ⟨List.mem_append_left _ (List.mem_map.mpr ⟨(y, n), List.mem_of_getElem? h, rfl⟩), g⟩
theorem mw_0 : Cond.initialized "MessageCrossbarLaw" ∈ mx_T := mx_in (i := 0) (by decide +kernel) rfl
theorem mw_1 : Cond.initialized "MessageCrossbar" ∈ mx_T := mx_in (i := 1) (by decide +kernel) rfl
theorem mw_2 : Cond.initialized "MessageCrossbar$Master" ∈ mx_T := mx_in (i := 2) (by decide +kernel) rfl
theorem mw_3 : Cond.initialized "MessageCrossbar$Line" ∈ mx_T := mx_in (i := 3) (by decide +kernel) rfl
theorem mw_4 : Cond.initialized "MessageCrossbar$Port" ∈ mx_T := mx_in (i := 4) (by decide +kernel) rfl
theorem mw_5 : Cond.initialized "MessageCrossbar$Message" ∈ mx_T := mx_in (i := 5) (by decide +kernel) rfl
theorem mw_6 : Cond.initialized "MessageCrossbarModel" ∈ mx_T := mx_in (i := 6) (by decide +kernel) rfl
theorem mw_7 : Cond.initialized "java/lang/Throwable" ∈ mx_T := mx_in (i := 7) (by decide +kernel) rfl
theorem mw_8 : Cond.initialized "java/lang/Exception" ∈ mx_T := mx_in (i := 8) (by decide +kernel) rfl
theorem mw_9 : Cond.initialized "java/lang/RuntimeException" ∈ mx_T := mx_in (i := 9) (by decide +kernel) rfl
theorem mw_10 : Cond.initialized "java/lang/IllegalArgumentException" ∈ mx_T := mx_in (i := 10) (by decide +kernel) rfl
theorem mw_11 : Cond.initialized "java/lang/Math" ∈ mx_T := mx_in (i := 11) (by decide +kernel) rfl
theorem mw_12 : Cond.initialized "java/lang/IndexOutOfBoundsException" ∈ mx_T := mx_in (i := 12) (by decide +kernel) rfl
theorem mw_13 : Cond.classLink "MessageCrossbarLaw" 8 "MessageCrossbar" ∈ mx_T := mx_in (i := 13) (by decide +kernel) rfl
theorem mw_14 : Cond.instantiable "MessageCrossbar" 7 ∈ mx_T := mx_in (i := 14) (by decide +kernel) rfl
theorem mw_15 : Cond.methodLink "MessageCrossbarLaw" 41 yX_init ∈ mx_T := mx_in (i := 15) (by decide +kernel) rfl
theorem mw_16 : Cond.instanceMethod yX_init ∈ mx_T := mx_in (i := 16) (by decide +kernel) rfl
theorem mw_17 : Cond.code yX_init prog_1_method_1_code 2 none ∈ mx_T := mx_in (i := 17) (by decide +kernel) rfl
theorem mw_18 : Cond.methodLink "MessageCrossbar" 1 objectInit ∈ mx_T := mx_in (i := 18) (by decide +kernel) rfl
theorem mw_19 : Cond.instanceMethod objectInit ∈ mx_T := mx_in (i := 19) (by decide +kernel) rfl
theorem mw_20 : Cond.code objectInit object_method_1_code 1 none ∈ mx_T := mx_in (i := 20) (by decide +kernel) rfl
theorem mw_21 : Cond.classLink "MessageCrossbar" 9 "MessageCrossbar$Master" ∈ mx_T := mx_in (i := 21) (by decide +kernel) rfl
theorem mw_23 : Cond.instantiable "MessageCrossbar$Master" 5 ∈ mx_T := mx_in (i := 23) (by decide +kernel) rfl
theorem mw_24 : Cond.methodLink "MessageCrossbar" 15 yM_init ∈ mx_T := mx_in (i := 24) (by decide +kernel) rfl
theorem mw_25 : Cond.instanceMethod yM_init ∈ mx_T := mx_in (i := 25) (by decide +kernel) rfl
theorem mw_26 : Cond.code yM_init prog_3_method_1_code 1 none ∈ mx_T := mx_in (i := 26) (by decide +kernel) rfl
theorem mw_27 : Cond.methodLink "MessageCrossbar$Master" 3 objectInit ∈ mx_T := mx_in (i := 27) (by decide +kernel) rfl
theorem mw_28 : Cond.classLink "MessageCrossbar$Master" 9 "MessageCrossbar$Line" ∈ mx_T := mx_in (i := 28) (by decide +kernel) rfl
theorem mw_29 : Cond.instantiable "MessageCrossbar$Line" 2 ∈ mx_T := mx_in (i := 29) (by decide +kernel) rfl
theorem mw_30 : Cond.methodLink "MessageCrossbar$Master" 11 yL_init ∈ mx_T := mx_in (i := 30) (by decide +kernel) rfl
theorem mw_31 : Cond.instanceMethod yL_init ∈ mx_T := mx_in (i := 31) (by decide +kernel) rfl
theorem mw_32 : Cond.code yL_init prog_2_method_1_code 2 none ∈ mx_T := mx_in (i := 32) (by decide +kernel) rfl
theorem mw_33 : Cond.methodLink "MessageCrossbar$Line" 3 objectInit ∈ mx_T := mx_in (i := 33) (by decide +kernel) rfl
theorem mw_34 : Cond.fieldLink "MessageCrossbar$Line" 9 "MessageCrossbar$Line" "keys" "[I" ∈ mx_T := mx_in (i := 34) (by decide +kernel) rfl
theorem mw_35 : Cond.fieldLink "MessageCrossbar$Line" 15 "MessageCrossbar$Line" "size" "I" ∈ mx_T := mx_in (i := 35) (by decide +kernel) rfl
theorem mw_36 : Cond.fieldLink "MessageCrossbar" 81 "MessageCrossbar$Line" "size" "I" ∈ mx_T := mx_in (i := 36) (by decide +kernel) rfl
theorem mw_37 : Cond.fieldLink "MessageCrossbar$Port" 44 "MessageCrossbar$Line" "size" "I" ∈ mx_T := mx_in (i := 37) (by decide +kernel) rfl
theorem mw_38 : Cond.laysFinal "MessageCrossbar$Line" "MessageCrossbar$Line" "keys" "[I" ∈ mx_T := mx_in (i := 38) (by decide +kernel) rfl
theorem mw_40 : Cond.lays "MessageCrossbar$Line" "MessageCrossbar$Line" "size" "I" ∈ mx_T := mx_in (i := 40) (by decide +kernel) rfl
theorem mw_43 : Cond.arrayClass .int ∈ mx_T := mx_in (i := 43) (by decide +kernel) rfl
theorem mw_44 : Cond.fieldLink "MessageCrossbar$Master" 14 "MessageCrossbar$Master" "waiting" "LMessageCrossbar$Line;" ∈ mx_T := mx_in (i := 44) (by decide +kernel) rfl
theorem mw_45 : Cond.fieldLink "MessageCrossbar" 59 "MessageCrossbar$Master" "waiting" "LMessageCrossbar$Line;" ∈ mx_T := mx_in (i := 45) (by decide +kernel) rfl
theorem mw_46 : Cond.fieldLink "MessageCrossbar$Master" 20 "MessageCrossbar$Master" "box" "LMessageCrossbar$Line;" ∈ mx_T := mx_in (i := 46) (by decide +kernel) rfl
theorem mw_47 : Cond.fieldLink "MessageCrossbar" 97 "MessageCrossbar$Master" "box" "LMessageCrossbar$Line;" ∈ mx_T := mx_in (i := 47) (by decide +kernel) rfl
theorem mw_48 : Cond.fieldLink "MessageCrossbar$Master" 23 "MessageCrossbar$Master" "inFlight" "I" ∈ mx_T := mx_in (i := 48) (by decide +kernel) rfl
theorem mw_49 : Cond.fieldLink "MessageCrossbar" 77 "MessageCrossbar$Master" "inFlight" "I" ∈ mx_T := mx_in (i := 49) (by decide +kernel) rfl
theorem mw_50 : Cond.fieldLink "MessageCrossbar$Master" 27 "MessageCrossbar$Master" "accepts" "Z" ∈ mx_T := mx_in (i := 50) (by decide +kernel) rfl
theorem mw_51 : Cond.fieldLink "MessageCrossbar" 84 "MessageCrossbar$Master" "accepts" "Z" ∈ mx_T := mx_in (i := 51) (by decide +kernel) rfl
theorem mw_52 : Cond.fieldLink "MessageCrossbar$Master" 31 "MessageCrossbar$Master" "latestPort" "I" ∈ mx_T := mx_in (i := 52) (by decide +kernel) rfl
theorem mw_53 : Cond.fieldLink "MessageCrossbar" 163 "MessageCrossbar$Master" "latestPort" "I" ∈ mx_T := mx_in (i := 53) (by decide +kernel) rfl
theorem mw_54 : Cond.laysFinal "MessageCrossbar$Master" "MessageCrossbar$Master" "waiting" "LMessageCrossbar$Line;" ∈ mx_T := mx_in (i := 54) (by decide +kernel) rfl
theorem mw_56 : Cond.laysFinal "MessageCrossbar$Master" "MessageCrossbar$Master" "box" "LMessageCrossbar$Line;" ∈ mx_T := mx_in (i := 56) (by decide +kernel) rfl
theorem mw_58 : Cond.lays "MessageCrossbar$Master" "MessageCrossbar$Master" "inFlight" "I" ∈ mx_T := mx_in (i := 58) (by decide +kernel) rfl
theorem mw_60 : Cond.lays "MessageCrossbar$Master" "MessageCrossbar$Master" "accepts" "Z" ∈ mx_T := mx_in (i := 60) (by decide +kernel) rfl
theorem mw_62 : Cond.lays "MessageCrossbar$Master" "MessageCrossbar$Master" "latestPort" "I" ∈ mx_T := mx_in (i := 62) (by decide +kernel) rfl
theorem mw_65 : Cond.classLink "MessageCrossbar" 16 "MessageCrossbar$Port" ∈ mx_T := mx_in (i := 65) (by decide +kernel) rfl
theorem mw_67 : Cond.instantiable "MessageCrossbar$Port" 7 ∈ mx_T := mx_in (i := 67) (by decide +kernel) rfl
theorem mw_68 : Cond.methodLink "MessageCrossbar" 22 yP_init ∈ mx_T := mx_in (i := 68) (by decide +kernel) rfl
theorem mw_69 : Cond.instanceMethod yP_init ∈ mx_T := mx_in (i := 69) (by decide +kernel) rfl
theorem mw_70 : Cond.code yP_init prog_5_method_1_code 2 none ∈ mx_T := mx_in (i := 70) (by decide +kernel) rfl
theorem mw_71 : Cond.methodLink "MessageCrossbar$Port" 3 objectInit ∈ mx_T := mx_in (i := 71) (by decide +kernel) rfl
theorem mw_72 : Cond.classLink "MessageCrossbar$Port" 9 "MessageCrossbar$Line" ∈ mx_T := mx_in (i := 72) (by decide +kernel) rfl
theorem mw_73 : Cond.methodLink "MessageCrossbar$Port" 11 yL_init ∈ mx_T := mx_in (i := 73) (by decide +kernel) rfl
theorem mw_74 : Cond.fieldLink "MessageCrossbar$Port" 14 "MessageCrossbar$Port" "requests" "LMessageCrossbar$Line;" ∈ mx_T := mx_in (i := 74) (by decide +kernel) rfl
theorem mw_75 : Cond.fieldLink "MessageCrossbar" 120 "MessageCrossbar$Port" "requests" "LMessageCrossbar$Line;" ∈ mx_T := mx_in (i := 75) (by decide +kernel) rfl
theorem mw_76 : Cond.fieldLink "MessageCrossbar$Port" 20 "MessageCrossbar$Port" "answers" "LMessageCrossbar$Line;" ∈ mx_T := mx_in (i := 76) (by decide +kernel) rfl
theorem mw_77 : Cond.fieldLink "MessageCrossbar" 129 "MessageCrossbar$Port" "answers" "LMessageCrossbar$Line;" ∈ mx_T := mx_in (i := 77) (by decide +kernel) rfl
theorem mw_78 : Cond.fieldLink "MessageCrossbar$Port" 23 "MessageCrossbar$Port" "owners" "[I" ∈ mx_T := mx_in (i := 78) (by decide +kernel) rfl
theorem mw_79 : Cond.fieldLink "MessageCrossbar" 138 "MessageCrossbar$Port" "owners" "[I" ∈ mx_T := mx_in (i := 79) (by decide +kernel) rfl
theorem mw_80 : Cond.fieldLink "MessageCrossbar$Port" 27 "MessageCrossbar$Port" "job" "I" ∈ mx_T := mx_in (i := 80) (by decide +kernel) rfl
theorem mw_81 : Cond.fieldLink "MessageCrossbar" 123 "MessageCrossbar$Port" "job" "I" ∈ mx_T := mx_in (i := 81) (by decide +kernel) rfl
theorem mw_82 : Cond.fieldLink "MessageCrossbar$Port" 31 "MessageCrossbar$Port" "ticksLeft" "I" ∈ mx_T := mx_in (i := 82) (by decide +kernel) rfl
theorem mw_83 : Cond.fieldLink "MessageCrossbar" 126 "MessageCrossbar$Port" "ticksLeft" "I" ∈ mx_T := mx_in (i := 83) (by decide +kernel) rfl
theorem mw_84 : Cond.fieldLink "MessageCrossbar$Port" 34 "MessageCrossbar$Port" "jobsDone" "I" ∈ mx_T := mx_in (i := 84) (by decide +kernel) rfl
theorem mw_85 : Cond.fieldLink "MessageCrossbar" 135 "MessageCrossbar$Port" "jobsDone" "I" ∈ mx_T := mx_in (i := 85) (by decide +kernel) rfl
theorem mw_86 : Cond.fieldLink "MessageCrossbar$Port" 37 "MessageCrossbar$Port" "latestMaster" "I" ∈ mx_T := mx_in (i := 86) (by decide +kernel) rfl
theorem mw_87 : Cond.fieldLink "MessageCrossbar" 236 "MessageCrossbar$Port" "latestMaster" "I" ∈ mx_T := mx_in (i := 87) (by decide +kernel) rfl
theorem mw_88 : Cond.laysFinal "MessageCrossbar$Port" "MessageCrossbar$Port" "requests" "LMessageCrossbar$Line;" ∈ mx_T := mx_in (i := 88) (by decide +kernel) rfl
theorem mw_90 : Cond.laysFinal "MessageCrossbar$Port" "MessageCrossbar$Port" "answers" "LMessageCrossbar$Line;" ∈ mx_T := mx_in (i := 90) (by decide +kernel) rfl
theorem mw_92 : Cond.laysFinal "MessageCrossbar$Port" "MessageCrossbar$Port" "owners" "[I" ∈ mx_T := mx_in (i := 92) (by decide +kernel) rfl
theorem mw_94 : Cond.lays "MessageCrossbar$Port" "MessageCrossbar$Port" "job" "I" ∈ mx_T := mx_in (i := 94) (by decide +kernel) rfl
theorem mw_96 : Cond.lays "MessageCrossbar$Port" "MessageCrossbar$Port" "ticksLeft" "I" ∈ mx_T := mx_in (i := 96) (by decide +kernel) rfl
theorem mw_98 : Cond.lays "MessageCrossbar$Port" "MessageCrossbar$Port" "jobsDone" "I" ∈ mx_T := mx_in (i := 98) (by decide +kernel) rfl
theorem mw_100 : Cond.lays "MessageCrossbar$Port" "MessageCrossbar$Port" "latestMaster" "I" ∈ mx_T := mx_in (i := 100) (by decide +kernel) rfl
theorem mw_103 : Cond.classLink "MessageCrossbar" 23 "MessageCrossbar$Message" ∈ mx_T := mx_in (i := 103) (by decide +kernel) rfl
theorem mw_105 : Cond.instantiable "MessageCrossbar$Message" 5 ∈ mx_T := mx_in (i := 105) (by decide +kernel) rfl
theorem mw_107 : Cond.instanceMethod yG_init ∈ mx_T := mx_in (i := 107) (by decide +kernel) rfl
theorem mw_108 : Cond.code yG_init prog_4_method_1_code 1 none ∈ mx_T := mx_in (i := 108) (by decide +kernel) rfl
theorem mw_109 : Cond.methodLink "MessageCrossbar$Message" 3 objectInit ∈ mx_T := mx_in (i := 109) (by decide +kernel) rfl
theorem mw_110 : Cond.fieldLink "MessageCrossbar$Message" 9 "MessageCrossbar$Message" "sort" "I" ∈ mx_T := mx_in (i := 110) (by decide +kernel) rfl
theorem mw_111 : Cond.fieldLink "MessageCrossbar" 111 "MessageCrossbar$Message" "sort" "I" ∈ mx_T := mx_in (i := 111) (by decide +kernel) rfl
theorem mw_112 : Cond.fieldLink "MessageCrossbar$Message" 15 "MessageCrossbar$Message" "z" "I" ∈ mx_T := mx_in (i := 112) (by decide +kernel) rfl
theorem mw_113 : Cond.fieldLink "MessageCrossbar$Message" 18 "MessageCrossbar$Message" "address" "I" ∈ mx_T := mx_in (i := 113) (by decide +kernel) rfl
theorem mw_114 : Cond.fieldLink "MessageCrossbar" 221 "MessageCrossbar$Message" "address" "I" ∈ mx_T := mx_in (i := 114) (by decide +kernel) rfl
theorem mw_115 : Cond.fieldLink "MessageCrossbar$Message" 21 "MessageCrossbar$Message" "data" "J" ∈ mx_T := mx_in (i := 115) (by decide +kernel) rfl
theorem mw_116 : Cond.fieldLink "MessageCrossbar" 108 "MessageCrossbar$Message" "data" "J" ∈ mx_T := mx_in (i := 116) (by decide +kernel) rfl
theorem mw_117 : Cond.fieldLink "MessageCrossbar$Message" 25 "MessageCrossbar$Message" "mask" "I" ∈ mx_T := mx_in (i := 117) (by decide +kernel) rfl
theorem mw_118 : Cond.lays "MessageCrossbar$Message" "MessageCrossbar$Message" "sort" "I" ∈ mx_T := mx_in (i := 118) (by decide +kernel) rfl
theorem mw_120 : Cond.lays "MessageCrossbar$Message" "MessageCrossbar$Message" "z" "I" ∈ mx_T := mx_in (i := 120) (by decide +kernel) rfl
theorem mw_122 : Cond.lays "MessageCrossbar$Message" "MessageCrossbar$Message" "address" "I" ∈ mx_T := mx_in (i := 122) (by decide +kernel) rfl
theorem mw_124 : Cond.lays "MessageCrossbar$Message" "MessageCrossbar$Message" "data" "J" ∈ mx_T := mx_in (i := 124) (by decide +kernel) rfl
theorem mw_126 : Cond.lays "MessageCrossbar$Message" "MessageCrossbar$Message" "mask" "I" ∈ mx_T := mx_in (i := 126) (by decide +kernel) rfl
theorem mw_129 : Cond.fieldLink "MessageCrossbar" 11 "MessageCrossbar" "masters" "[LMessageCrossbar$Master;" ∈ mx_T := mx_in (i := 129) (by decide +kernel) rfl
theorem mw_130 : Cond.fieldLink "MessageCrossbar" 18 "MessageCrossbar" "ports" "[LMessageCrossbar$Port;" ∈ mx_T := mx_in (i := 130) (by decide +kernel) rfl
theorem mw_131 : Cond.fieldLink "MessageCrossbar" 25 "MessageCrossbar" "messages" "[LMessageCrossbar$Message;" ∈ mx_T := mx_in (i := 131) (by decide +kernel) rfl
theorem mw_132 : Cond.fieldLink "MessageCrossbar" 30 "MessageCrossbar" "bytes" "[B" ∈ mx_T := mx_in (i := 132) (by decide +kernel) rfl
theorem mw_133 : Cond.fieldLink "MessageCrossbar" 34 "MessageCrossbar" "log" "[I" ∈ mx_T := mx_in (i := 133) (by decide +kernel) rfl
theorem mw_134 : Cond.fieldLink "MessageCrossbar" 38 "MessageCrossbar" "counts" "[I" ∈ mx_T := mx_in (i := 134) (by decide +kernel) rfl
theorem mw_135 : Cond.fieldLink "MessageCrossbar" 41 "MessageCrossbar" "latestData" "J" ∈ mx_T := mx_in (i := 135) (by decide +kernel) rfl
theorem mw_136 : Cond.laysFinal "MessageCrossbar" "MessageCrossbar" "masters" "[LMessageCrossbar$Master;" ∈ mx_T := mx_in (i := 136) (by decide +kernel) rfl
theorem mw_138 : Cond.laysFinal "MessageCrossbar" "MessageCrossbar" "ports" "[LMessageCrossbar$Port;" ∈ mx_T := mx_in (i := 138) (by decide +kernel) rfl
theorem mw_140 : Cond.laysFinal "MessageCrossbar" "MessageCrossbar" "messages" "[LMessageCrossbar$Message;" ∈ mx_T := mx_in (i := 140) (by decide +kernel) rfl
theorem mw_142 : Cond.laysFinal "MessageCrossbar" "MessageCrossbar" "bytes" "[B" ∈ mx_T := mx_in (i := 142) (by decide +kernel) rfl
theorem mw_144 : Cond.laysFinal "MessageCrossbar" "MessageCrossbar" "log" "[I" ∈ mx_T := mx_in (i := 144) (by decide +kernel) rfl
theorem mw_146 : Cond.laysFinal "MessageCrossbar" "MessageCrossbar" "counts" "[I" ∈ mx_T := mx_in (i := 146) (by decide +kernel) rfl
theorem mw_148 : Cond.lays "MessageCrossbar" "MessageCrossbar" "latestData" "J" ∈ mx_T := mx_in (i := 148) (by decide +kernel) rfl
theorem mw_151 : Cond.arrayClass .byte ∈ mx_T := mx_in (i := 151) (by decide +kernel) rfl
theorem mw_152 : Cond.methodLink "MessageCrossbarLaw" 68 yX_data ∈ mx_T := mx_in (i := 152) (by decide +kernel) rfl
theorem mw_153 : Cond.instanceMethod yX_data ∈ mx_T := mx_in (i := 153) (by decide +kernel) rfl
theorem mw_154 : Cond.selects "MessageCrossbar" yX_data yX_data ∈ mx_T := mx_in (i := 154) (by decide +kernel) rfl
theorem mw_155 : Cond.code yX_data prog_1_method_6_code 1 (some .long) ∈ mx_T := mx_in (i := 155) (by decide +kernel) rfl
theorem mw_156 : Cond.methodLink "MessageCrossbarLaw" 86 yX_done ∈ mx_T := mx_in (i := 156) (by decide +kernel) rfl
theorem mw_157 : Cond.instanceMethod yX_done ∈ mx_T := mx_in (i := 157) (by decide +kernel) rfl
theorem mw_158 : Cond.selects "MessageCrossbar" yX_done yX_done ∈ mx_T := mx_in (i := 158) (by decide +kernel) rfl
theorem mw_159 : Cond.code yX_done prog_1_method_11_code 2 (some .int) ∈ mx_T := mx_in (i := 159) (by decide +kernel) rfl
theorem mw_160 : Cond.methodLink "MessageCrossbar" 45 yX_isBelow ∈ mx_T := mx_in (i := 160) (by decide +kernel) rfl
theorem mw_161 : Cond.static yX_isBelow ∈ mx_T := mx_in (i := 161) (by decide +kernel) rfl
theorem mw_162 : Cond.code yX_isBelow prog_1_method_28_code 2 (some .boolean) ∈ mx_T := mx_in (i := 162) (by decide +kernel) rfl
theorem mw_163 : Cond.methodLink "MessageCrossbar" 141 yX_logPlace ∈ mx_T := mx_in (i := 163) (by decide +kernel) rfl
theorem mw_164 : Cond.static yX_logPlace ∈ mx_T := mx_in (i := 164) (by decide +kernel) rfl
theorem mw_165 : Cond.code yX_logPlace prog_1_method_32_code 1 (some .int) ∈ mx_T := mx_in (i := 165) (by decide +kernel) rfl
theorem mw_166 : Cond.methodLink "MessageCrossbarLaw" 90 yX_count ∈ mx_T := mx_in (i := 166) (by decide +kernel) rfl
theorem mw_167 : Cond.instanceMethod yX_count ∈ mx_T := mx_in (i := 167) (by decide +kernel) rfl
theorem mw_168 : Cond.selects "MessageCrossbar" yX_count yX_count ∈ mx_T := mx_in (i := 168) (by decide +kernel) rfl
theorem mw_169 : Cond.code yX_count prog_1_method_12_code 2 (some .int) ∈ mx_T := mx_in (i := 169) (by decide +kernel) rfl
theorem mw_170 : Cond.methodLink "MessageCrossbarLaw" 47 yZ_request ∈ mx_T := mx_in (i := 170) (by decide +kernel) rfl
theorem mw_171 : Cond.static yZ_request ∈ mx_T := mx_in (i := 171) (by decide +kernel) rfl
theorem mw_172 : Cond.codeWith yZ_request method_3_code 11 (some .int) [(0, 20, 23, 13)] ∈ mx_T := mx_in (i := 172) (by decide +kernel) rfl
theorem mw_173 : Cond.classLink "MessageCrossbarLaw" 13 "java/lang/IllegalArgumentException" ∈ mx_T := mx_in (i := 173) (by decide +kernel) rfl
theorem mw_174 : Cond.methodLink "MessageCrossbarLaw" 7 yX_request ∈ mx_T := mx_in (i := 174) (by decide +kernel) rfl
theorem mw_175 : Cond.instanceMethod yX_request ∈ mx_T := mx_in (i := 175) (by decide +kernel) rfl
theorem mw_176 : Cond.selects "MessageCrossbar" yX_request yX_request ∈ mx_T := mx_in (i := 176) (by decide +kernel) rfl
theorem mw_177 : Cond.code yX_request prog_1_method_2_code 11 (some .int) ∈ mx_T := mx_in (i := 177) (by decide +kernel) rfl
theorem mw_178 : Cond.methodLink "MessageCrossbar" 49 yX_isAligned ∈ mx_T := mx_in (i := 178) (by decide +kernel) rfl
theorem mw_179 : Cond.static yX_isAligned ∈ mx_T := mx_in (i := 179) (by decide +kernel) rfl
theorem mw_180 : Cond.code yX_isAligned prog_1_method_29_code 2 (some .boolean) ∈ mx_T := mx_in (i := 180) (by decide +kernel) rfl
theorem mw_181 : Cond.classLink "MessageCrossbar" 52 "java/lang/IllegalArgumentException" ∈ mx_T := mx_in (i := 181) (by decide +kernel) rfl
theorem mw_182 : Cond.instantiable "java/lang/IllegalArgumentException" 6 ∈ mx_T := mx_in (i := 182) (by decide +kernel) rfl
theorem mw_190 : Cond.selects "java/lang/IllegalArgumentException" ⟨"java/lang/Throwable", "fillInStackTrace", "(I)Ljava/lang/Throwable;"⟩ ⟨"java/lang/Throwable", "fillInStackTrace", "(I)Ljava/lang/Throwable;"⟩ ∈ mx_T := mx_in (i := 190) (by decide +kernel) rfl
theorem mw_191 : Cond.selects "java/lang/IllegalArgumentException" ⟨"java/lang/Throwable", "fillInStackTrace", "()Ljava/lang/Throwable;"⟩ ⟨"java/lang/Throwable", "fillInStackTrace", "()Ljava/lang/Throwable;"⟩ ∈ mx_T := mx_in (i := 191) (by decide +kernel) rfl
theorem mw_192 : Cond.lays "java/lang/IllegalArgumentException" "java/lang/Throwable" "cause" "Ljava/lang/Throwable;" ∈ mx_T := mx_in (i := 192) (by decide +kernel) rfl
theorem mw_193 : Cond.lays "java/lang/Throwable" "java/lang/Throwable" "cause" "Ljava/lang/Throwable;" ∈ mx_T := mx_in (i := 193) (by decide +kernel) rfl
theorem mw_194 : Cond.lays "java/lang/IllegalArgumentException" "java/lang/Throwable" "stackTrace" "[Ljava/lang/StackTraceElement;" ∈ mx_T := mx_in (i := 194) (by decide +kernel) rfl
theorem mw_195 : Cond.lays "java/lang/Throwable" "java/lang/Throwable" "stackTrace" "[Ljava/lang/StackTraceElement;" ∈ mx_T := mx_in (i := 195) (by decide +kernel) rfl
theorem mw_196 : Cond.lays "java/lang/IllegalArgumentException" "java/lang/Throwable" "suppressedExceptions" "Ljava/util/List;" ∈ mx_T := mx_in (i := 196) (by decide +kernel) rfl
theorem mw_197 : Cond.lays "java/lang/Throwable" "java/lang/Throwable" "suppressedExceptions" "Ljava/util/List;" ∈ mx_T := mx_in (i := 197) (by decide +kernel) rfl
theorem mw_198 : Cond.lays "java/lang/IllegalArgumentException" "java/lang/Throwable" "detailMessage" "Ljava/lang/String;" ∈ mx_T := mx_in (i := 198) (by decide +kernel) rfl
theorem mw_199 : Cond.lays "java/lang/Throwable" "java/lang/Throwable" "detailMessage" "Ljava/lang/String;" ∈ mx_T := mx_in (i := 199) (by decide +kernel) rfl
theorem mw_200 : Cond.lays "java/lang/IllegalArgumentException" "java/lang/Throwable" "backtrace" "Ljava/lang/Object;" ∈ mx_T := mx_in (i := 200) (by decide +kernel) rfl
theorem mw_201 : Cond.lays "java/lang/Throwable" "java/lang/Throwable" "backtrace" "Ljava/lang/Object;" ∈ mx_T := mx_in (i := 201) (by decide +kernel) rfl
theorem mw_202 : Cond.fieldLink "java/lang/Throwable" 198 "java/lang/Throwable" "backtrace" "Ljava/lang/Object;" ∈ mx_T := mx_in (i := 202) (by decide +kernel) rfl
theorem mw_204 : Cond.instanceMethod ⟨"java/lang/Throwable", "<init>", "()V"⟩ ∈ mx_T := mx_in (i := 204) (by decide +kernel) rfl
theorem mw_205 : Cond.code ⟨"java/lang/Throwable", "<init>", "()V"⟩ prog_13_method_1_code 1 none ∈ mx_T := mx_in (i := 205) (by decide +kernel) rfl
theorem mw_206 : Cond.methodLink "java/lang/Throwable" 1 objectInit ∈ mx_T := mx_in (i := 206) (by decide +kernel) rfl
theorem mw_207 : Cond.fieldLink "java/lang/Throwable" 13 "java/lang/Throwable" "UNASSIGNED_STACK" "[Ljava/lang/StackTraceElement;" ∈ mx_T := mx_in (i := 207) (by decide +kernel) rfl
theorem mw_209 : Cond.fieldLink "java/lang/Throwable" 20 "java/lang/Throwable" "SUPPRESSED_SENTINEL" "Ljava/util/List;" ∈ mx_T := mx_in (i := 209) (by decide +kernel) rfl
theorem mw_211 : Cond.methodLink "java/lang/Throwable" 27 ⟨"java/lang/Throwable", "fillInStackTrace", "()Ljava/lang/Throwable;"⟩ ∈ mx_T := mx_in (i := 211) (by decide +kernel) rfl
theorem mw_212 : Cond.instanceMethod ⟨"java/lang/Throwable", "fillInStackTrace", "()Ljava/lang/Throwable;"⟩ ∈ mx_T := mx_in (i := 212) (by decide +kernel) rfl
theorem mw_214 : Cond.selects "java/lang/IndexOutOfBoundsException" ⟨"java/lang/Throwable", "fillInStackTrace", "()Ljava/lang/Throwable;"⟩ ⟨"java/lang/Throwable", "fillInStackTrace", "()Ljava/lang/Throwable;"⟩ ∈ mx_T := mx_in (i := 214) (by decide +kernel) rfl
theorem mw_216 : Cond.methodLink "java/lang/Throwable" 202 ⟨"java/lang/Throwable", "fillInStackTrace", "(I)Ljava/lang/Throwable;"⟩ ∈ mx_T := mx_in (i := 216) (by decide +kernel) rfl
theorem mw_218 : Cond.instanceMethod ⟨"java/lang/Throwable", "fillInStackTrace", "(I)Ljava/lang/Throwable;"⟩ ∈ mx_T := mx_in (i := 218) (by decide +kernel) rfl
theorem mw_219 : Cond.instantiable "java/lang/Throwable" 6 ∈ mx_T := mx_in (i := 219) (by decide +kernel) rfl
theorem mw_221 : Cond.methodLink "MessageCrossbar" 54 ⟨"java/lang/IllegalArgumentException", "<init>", "()V"⟩ ∈ mx_T := mx_in (i := 221) (by decide +kernel) rfl
theorem mw_222 : Cond.instanceMethod ⟨"java/lang/IllegalArgumentException", "<init>", "()V"⟩ ∈ mx_T := mx_in (i := 222) (by decide +kernel) rfl
theorem mw_223 : Cond.code ⟨"java/lang/IllegalArgumentException", "<init>", "()V"⟩ prog_9_method_1_code 1 none ∈ mx_T := mx_in (i := 223) (by decide +kernel) rfl
theorem mw_224 : Cond.methodLink "java/lang/IllegalArgumentException" 1 ⟨"java/lang/RuntimeException", "<init>", "()V"⟩ ∈ mx_T := mx_in (i := 224) (by decide +kernel) rfl
theorem mw_225 : Cond.instanceMethod ⟨"java/lang/RuntimeException", "<init>", "()V"⟩ ∈ mx_T := mx_in (i := 225) (by decide +kernel) rfl
theorem mw_226 : Cond.code ⟨"java/lang/RuntimeException", "<init>", "()V"⟩ prog_12_method_1_code 1 none ∈ mx_T := mx_in (i := 226) (by decide +kernel) rfl
theorem mw_227 : Cond.methodLink "java/lang/RuntimeException" 1 ⟨"java/lang/Exception", "<init>", "()V"⟩ ∈ mx_T := mx_in (i := 227) (by decide +kernel) rfl
theorem mw_228 : Cond.instanceMethod ⟨"java/lang/Exception", "<init>", "()V"⟩ ∈ mx_T := mx_in (i := 228) (by decide +kernel) rfl
theorem mw_229 : Cond.code ⟨"java/lang/Exception", "<init>", "()V"⟩ prog_8_method_1_code 1 none ∈ mx_T := mx_in (i := 229) (by decide +kernel) rfl
theorem mw_230 : Cond.methodLink "java/lang/Exception" 1 ⟨"java/lang/Throwable", "<init>", "()V"⟩ ∈ mx_T := mx_in (i := 230) (by decide +kernel) rfl
theorem mw_231 : Cond.fieldLink "java/lang/Throwable" 198 "java/lang/Throwable" "backtrace" "Ljava/lang/Object;" ∈ mx_T := mx_in (i := 231) (by decide +kernel) rfl
theorem mw_232 : Cond.fieldLink "java/lang/Throwable" 7 "java/lang/Throwable" "cause" "Ljava/lang/Throwable;" ∈ mx_T := mx_in (i := 232) (by decide +kernel) rfl
theorem mw_233 : Cond.fieldLink "java/lang/Throwable" 17 "java/lang/Throwable" "stackTrace" "[Ljava/lang/StackTraceElement;" ∈ mx_T := mx_in (i := 233) (by decide +kernel) rfl
theorem mw_234 : Cond.fieldLink "java/lang/Throwable" 24 "java/lang/Throwable" "suppressedExceptions" "Ljava/util/List;" ∈ mx_T := mx_in (i := 234) (by decide +kernel) rfl
theorem mw_239 : Cond.lays "java/lang/IllegalArgumentException" "java/lang/Throwable" "depth" "I" ∈ mx_T := mx_in (i := 239) (by decide +kernel) rfl
theorem mw_243 : Cond.methodLink "MessageCrossbar" 55 yM_hasInFlight ∈ mx_T := mx_in (i := 243) (by decide +kernel) rfl
theorem mw_244 : Cond.instanceMethod yM_hasInFlight ∈ mx_T := mx_in (i := 244) (by decide +kernel) rfl
theorem mw_245 : Cond.selects "MessageCrossbar$Master" yM_hasInFlight yM_hasInFlight ∈ mx_T := mx_in (i := 245) (by decide +kernel) rfl
theorem mw_246 : Cond.code yM_hasInFlight prog_3_method_2_code 2 (some .boolean) ∈ mx_T := mx_in (i := 246) (by decide +kernel) rfl
theorem mw_247 : Cond.methodLink "MessageCrossbar" 63 yL_isFull ∈ mx_T := mx_in (i := 247) (by decide +kernel) rfl
theorem mw_248 : Cond.instanceMethod yL_isFull ∈ mx_T := mx_in (i := 248) (by decide +kernel) rfl
theorem mw_249 : Cond.selects "MessageCrossbar$Line" yL_isFull yL_isFull ∈ mx_T := mx_in (i := 249) (by decide +kernel) rfl
theorem mw_250 : Cond.code yL_isFull prog_2_method_2_code 1 (some .boolean) ∈ mx_T := mx_in (i := 250) (by decide +kernel) rfl
theorem mw_251 : Cond.methodLink "MessageCrossbar" 69 yG_become ∈ mx_T := mx_in (i := 251) (by decide +kernel) rfl
theorem mw_252 : Cond.instanceMethod yG_become ∈ mx_T := mx_in (i := 252) (by decide +kernel) rfl
theorem mw_253 : Cond.selects "MessageCrossbar$Message" yG_become yG_become ∈ mx_T := mx_in (i := 253) (by decide +kernel) rfl
theorem mw_254 : Cond.code yG_become prog_4_method_2_code 7 none ∈ mx_T := mx_in (i := 254) (by decide +kernel) rfl
theorem mw_255 : Cond.methodLink "MessageCrossbar" 73 yL_append ∈ mx_T := mx_in (i := 255) (by decide +kernel) rfl
theorem mw_256 : Cond.instanceMethod yL_append ∈ mx_T := mx_in (i := 256) (by decide +kernel) rfl
theorem mw_257 : Cond.selects "MessageCrossbar$Line" yL_append yL_append ∈ mx_T := mx_in (i := 257) (by decide +kernel) rfl
theorem mw_258 : Cond.code yL_append prog_2_method_4_code 2 none ∈ mx_T := mx_in (i := 258) (by decide +kernel) rfl
theorem mw_259 : Cond.methodLink "MessageCrossbarLaw" 57 yZ_accept ∈ mx_T := mx_in (i := 259) (by decide +kernel) rfl
theorem mw_260 : Cond.static yZ_accept ∈ mx_T := mx_in (i := 260) (by decide +kernel) rfl
theorem mw_261 : Cond.codeWith yZ_accept method_4_code 5 (some .int) [(0, 17, 20, 13)] ∈ mx_T := mx_in (i := 261) (by decide +kernel) rfl
theorem mw_262 : Cond.methodLink "MessageCrossbarLaw" 15 yX_accept ∈ mx_T := mx_in (i := 262) (by decide +kernel) rfl
theorem mw_263 : Cond.instanceMethod yX_accept ∈ mx_T := mx_in (i := 263) (by decide +kernel) rfl
theorem mw_264 : Cond.selects "MessageCrossbar" yX_accept yX_accept ∈ mx_T := mx_in (i := 264) (by decide +kernel) rfl
theorem mw_265 : Cond.code yX_accept prog_1_method_3_code 4 (some .boolean) ∈ mx_T := mx_in (i := 265) (by decide +kernel) rfl
theorem mw_266 : Cond.methodLink "MessageCrossbarLaw" 61 yZ_tick ∈ mx_T := mx_in (i := 266) (by decide +kernel) rfl
theorem mw_267 : Cond.static yZ_tick ∈ mx_T := mx_in (i := 267) (by decide +kernel) rfl
theorem mw_268 : Cond.codeWith yZ_tick method_5_code 4 (some .int) [(0, 9, 12, 13)] ∈ mx_T := mx_in (i := 268) (by decide +kernel) rfl
theorem mw_269 : Cond.methodLink "MessageCrossbarLaw" 19 yX_tick ∈ mx_T := mx_in (i := 269) (by decide +kernel) rfl
theorem mw_270 : Cond.instanceMethod yX_tick ∈ mx_T := mx_in (i := 270) (by decide +kernel) rfl
theorem mw_271 : Cond.selects "MessageCrossbar" yX_tick yX_tick ∈ mx_T := mx_in (i := 271) (by decide +kernel) rfl
theorem mw_272 : Cond.code yX_tick prog_1_method_4_code 4 (some .int) ∈ mx_T := mx_in (i := 272) (by decide +kernel) rfl
theorem mw_273 : Cond.methodLink "MessageCrossbar" 88 yX_runTick ∈ mx_T := mx_in (i := 273) (by decide +kernel) rfl
theorem mw_275 : Cond.instanceMethod yX_runTick ∈ mx_T := mx_in (i := 275) (by decide +kernel) rfl
theorem mw_276 : Cond.code yX_runTick prog_1_method_13_code 5 (some .boolean) ∈ mx_T := mx_in (i := 276) (by decide +kernel) rfl
theorem mw_277 : Cond.methodLink "MessageCrossbar" 144 yX_moveAnswers ∈ mx_T := mx_in (i := 277) (by decide +kernel) rfl
theorem mw_279 : Cond.instanceMethod yX_moveAnswers ∈ mx_T := mx_in (i := 279) (by decide +kernel) rfl
theorem mw_280 : Cond.code yX_moveAnswers prog_1_method_16_code 4 (some .boolean) ∈ mx_T := mx_in (i := 280) (by decide +kernel) rfl
theorem mw_281 : Cond.methodLink "MessageCrossbar" 153 yX_nextAnsweringPort ∈ mx_T := mx_in (i := 281) (by decide +kernel) rfl
theorem mw_283 : Cond.instanceMethod yX_nextAnsweringPort ∈ mx_T := mx_in (i := 283) (by decide +kernel) rfl
theorem mw_284 : Cond.code yX_nextAnsweringPort prog_1_method_17_code 5 (some .int) ∈ mx_T := mx_in (i := 284) (by decide +kernel) rfl
theorem mw_285 : Cond.methodLink "MessageCrossbar" 160 yM_hasRoomForAnswer ∈ mx_T := mx_in (i := 285) (by decide +kernel) rfl
theorem mw_286 : Cond.instanceMethod yM_hasRoomForAnswer ∈ mx_T := mx_in (i := 286) (by decide +kernel) rfl
theorem mw_287 : Cond.selects "MessageCrossbar$Master" yM_hasRoomForAnswer yM_hasRoomForAnswer ∈ mx_T := mx_in (i := 287) (by decide +kernel) rfl
theorem mw_288 : Cond.code yM_hasRoomForAnswer prog_3_method_3_code 1 (some .boolean) ∈ mx_T := mx_in (i := 288) (by decide +kernel) rfl
theorem mw_289 : Cond.methodLink "MessageCrossbar$Master" 34 yL_isFull ∈ mx_T := mx_in (i := 289) (by decide +kernel) rfl
theorem mw_290 : Cond.methodLink "MessageCrossbar" 166 yX_stepBehind ∈ mx_T := mx_in (i := 290) (by decide +kernel) rfl
theorem mw_291 : Cond.static yX_stepBehind ∈ mx_T := mx_in (i := 291) (by decide +kernel) rfl
theorem mw_292 : Cond.code yX_stepBehind prog_1_method_33_code 4 (some .int) ∈ mx_T := mx_in (i := 292) (by decide +kernel) rfl
theorem mw_293 : Cond.methodLink "MessageCrossbar" 170 yL_first ∈ mx_T := mx_in (i := 293) (by decide +kernel) rfl
theorem mw_294 : Cond.instanceMethod yL_first ∈ mx_T := mx_in (i := 294) (by decide +kernel) rfl
theorem mw_295 : Cond.selects "MessageCrossbar$Line" yL_first yL_first ∈ mx_T := mx_in (i := 295) (by decide +kernel) rfl
theorem mw_296 : Cond.code yL_first prog_2_method_3_code 1 (some .int) ∈ mx_T := mx_in (i := 296) (by decide +kernel) rfl
theorem mw_297 : Cond.methodLink "MessageCrossbar" 173 yX_masterOf ∈ mx_T := mx_in (i := 297) (by decide +kernel) rfl
theorem mw_298 : Cond.static yX_masterOf ∈ mx_T := mx_in (i := 298) (by decide +kernel) rfl
theorem mw_299 : Cond.code yX_masterOf prog_1_method_30_code 1 (some .int) ∈ mx_T := mx_in (i := 299) (by decide +kernel) rfl
theorem mw_300 : Cond.methodLink "MessageCrossbar" 156 yX_moveAnswer ∈ mx_T := mx_in (i := 300) (by decide +kernel) rfl
theorem mw_302 : Cond.instanceMethod yX_moveAnswer ∈ mx_T := mx_in (i := 302) (by decide +kernel) rfl
theorem mw_303 : Cond.code yX_moveAnswer prog_1_method_18_code 4 none ∈ mx_T := mx_in (i := 303) (by decide +kernel) rfl
theorem mw_304 : Cond.methodLink "MessageCrossbar" 100 yL_removeFirst ∈ mx_T := mx_in (i := 304) (by decide +kernel) rfl
theorem mw_305 : Cond.instanceMethod yL_removeFirst ∈ mx_T := mx_in (i := 305) (by decide +kernel) rfl
theorem mw_306 : Cond.selects "MessageCrossbar$Line" yL_removeFirst yL_removeFirst ∈ mx_T := mx_in (i := 306) (by decide +kernel) rfl
theorem mw_307 : Cond.code yL_removeFirst prog_2_method_5_code 3 (some .int) ∈ mx_T := mx_in (i := 307) (by decide +kernel) rfl
theorem mw_308 : Cond.methodLink "MessageCrossbar" 176 yP_releaseId ∈ mx_T := mx_in (i := 308) (by decide +kernel) rfl
theorem mw_309 : Cond.instanceMethod yP_releaseId ∈ mx_T := mx_in (i := 309) (by decide +kernel) rfl
theorem mw_310 : Cond.selects "MessageCrossbar$Port" yP_releaseId yP_releaseId ∈ mx_T := mx_in (i := 310) (by decide +kernel) rfl
theorem mw_311 : Cond.code yP_releaseId prog_5_method_9_code 3 none ∈ mx_T := mx_in (i := 311) (by decide +kernel) rfl
theorem mw_312 : Cond.methodLink "MessageCrossbar" 147 yX_servePorts ∈ mx_T := mx_in (i := 312) (by decide +kernel) rfl
theorem mw_314 : Cond.instanceMethod yX_servePorts ∈ mx_T := mx_in (i := 314) (by decide +kernel) rfl
theorem mw_315 : Cond.code yX_servePorts prog_1_method_19_code 3 (some .boolean) ∈ mx_T := mx_in (i := 315) (by decide +kernel) rfl
theorem mw_316 : Cond.methodLink "MessageCrossbar" 179 yP_countDown ∈ mx_T := mx_in (i := 316) (by decide +kernel) rfl
theorem mw_317 : Cond.instanceMethod yP_countDown ∈ mx_T := mx_in (i := 317) (by decide +kernel) rfl
theorem mw_318 : Cond.selects "MessageCrossbar$Port" yP_countDown yP_countDown ∈ mx_T := mx_in (i := 318) (by decide +kernel) rfl
theorem mw_319 : Cond.code yP_countDown prog_5_method_2_code 1 none ∈ mx_T := mx_in (i := 319) (by decide +kernel) rfl
theorem mw_320 : Cond.methodLink "MessageCrossbar" 182 yP_canFinishJob ∈ mx_T := mx_in (i := 320) (by decide +kernel) rfl
theorem mw_321 : Cond.instanceMethod yP_canFinishJob ∈ mx_T := mx_in (i := 321) (by decide +kernel) rfl
theorem mw_322 : Cond.selects "MessageCrossbar$Port" yP_canFinishJob yP_canFinishJob ∈ mx_T := mx_in (i := 322) (by decide +kernel) rfl
theorem mw_323 : Cond.code yP_canFinishJob prog_5_method_3_code 1 (some .boolean) ∈ mx_T := mx_in (i := 323) (by decide +kernel) rfl
theorem mw_324 : Cond.methodLink "MessageCrossbar$Port" 40 yL_isFull ∈ mx_T := mx_in (i := 324) (by decide +kernel) rfl
theorem mw_325 : Cond.methodLink "MessageCrossbar" 185 yX_finishJob ∈ mx_T := mx_in (i := 325) (by decide +kernel) rfl
theorem mw_327 : Cond.instanceMethod yX_finishJob ∈ mx_T := mx_in (i := 327) (by decide +kernel) rfl
theorem mw_328 : Cond.code yX_finishJob prog_1_method_20_code 3 none ∈ mx_T := mx_in (i := 328) (by decide +kernel) rfl
theorem mw_329 : Cond.methodLink "MessageCrossbar" 194 yP_finishJob ∈ mx_T := mx_in (i := 329) (by decide +kernel) rfl
theorem mw_330 : Cond.instanceMethod yP_finishJob ∈ mx_T := mx_in (i := 330) (by decide +kernel) rfl
theorem mw_331 : Cond.selects "MessageCrossbar$Port" yP_finishJob yP_finishJob ∈ mx_T := mx_in (i := 331) (by decide +kernel) rfl
theorem mw_332 : Cond.code yP_finishJob prog_5_method_5_code 2 (some .int) ∈ mx_T := mx_in (i := 332) (by decide +kernel) rfl
theorem mw_333 : Cond.methodLink "MessageCrossbar$Port" 47 yL_append ∈ mx_T := mx_in (i := 333) (by decide +kernel) rfl
theorem mw_334 : Cond.methodLink "MessageCrossbar" 196 yX_carryOut ∈ mx_T := mx_in (i := 334) (by decide +kernel) rfl
theorem mw_336 : Cond.instanceMethod yX_carryOut ∈ mx_T := mx_in (i := 336) (by decide +kernel) rfl
theorem mw_337 : Cond.code yX_carryOut prog_1_method_22_code 4 none ∈ mx_T := mx_in (i := 337) (by decide +kernel) rfl
theorem mw_338 : Cond.methodLink "MessageCrossbar" 114 yG_isDenied ∈ mx_T := mx_in (i := 338) (by decide +kernel) rfl
theorem mw_339 : Cond.instanceMethod yG_isDenied ∈ mx_T := mx_in (i := 339) (by decide +kernel) rfl
theorem mw_340 : Cond.selects "MessageCrossbar$Message" yG_isDenied yG_isDenied ∈ mx_T := mx_in (i := 340) (by decide +kernel) rfl
theorem mw_341 : Cond.code yG_isDenied prog_4_method_4_code 1 (some .boolean) ∈ mx_T := mx_in (i := 341) (by decide +kernel) rfl
theorem mw_342 : Cond.methodLink "MessageCrossbar" 214 yX_readBytes ∈ mx_T := mx_in (i := 342) (by decide +kernel) rfl
theorem mw_344 : Cond.instanceMethod yX_readBytes ∈ mx_T := mx_in (i := 344) (by decide +kernel) rfl
theorem mw_345 : Cond.code yX_readBytes prog_1_method_23_code 5 (some .long) ∈ mx_T := mx_in (i := 345) (by decide +kernel) rfl
theorem mw_346 : Cond.methodLink "MessageCrossbar" 203 yG_size ∈ mx_T := mx_in (i := 346) (by decide +kernel) rfl
theorem mw_347 : Cond.instanceMethod yG_size ∈ mx_T := mx_in (i := 347) (by decide +kernel) rfl
theorem mw_348 : Cond.selects "MessageCrossbar$Message" yG_size yG_size ∈ mx_T := mx_in (i := 348) (by decide +kernel) rfl
theorem mw_349 : Cond.code yG_size prog_4_method_3_code 1 (some .int) ∈ mx_T := mx_in (i := 349) (by decide +kernel) rfl
theorem mw_350 : Cond.methodLink "MessageCrossbar" 218 yX_writeBytes ∈ mx_T := mx_in (i := 350) (by decide +kernel) rfl
theorem mw_352 : Cond.instanceMethod yX_writeBytes ∈ mx_T := mx_in (i := 352) (by decide +kernel) rfl
theorem mw_353 : Cond.code yX_writeBytes prog_1_method_24_code 3 none ∈ mx_T := mx_in (i := 353) (by decide +kernel) rfl
theorem mw_354 : Cond.methodLink "MessageCrossbar" 224 yG_writesByte ∈ mx_T := mx_in (i := 354) (by decide +kernel) rfl
theorem mw_355 : Cond.instanceMethod yG_writesByte ∈ mx_T := mx_in (i := 355) (by decide +kernel) rfl
theorem mw_356 : Cond.selects "MessageCrossbar$Message" yG_writesByte yG_writesByte ∈ mx_T := mx_in (i := 356) (by decide +kernel) rfl
theorem mw_357 : Cond.code yG_writesByte prog_4_method_5_code 2 (some .boolean) ∈ mx_T := mx_in (i := 357) (by decide +kernel) rfl
theorem mw_358 : Cond.methodLink "MessageCrossbar" 188 yP_canBeginJob ∈ mx_T := mx_in (i := 358) (by decide +kernel) rfl
theorem mw_359 : Cond.instanceMethod yP_canBeginJob ∈ mx_T := mx_in (i := 359) (by decide +kernel) rfl
theorem mw_360 : Cond.selects "MessageCrossbar$Port" yP_canBeginJob yP_canBeginJob ∈ mx_T := mx_in (i := 360) (by decide +kernel) rfl
theorem mw_361 : Cond.code yP_canBeginJob prog_5_method_4_code 1 (some .boolean) ∈ mx_T := mx_in (i := 361) (by decide +kernel) rfl
theorem mw_362 : Cond.methodLink "MessageCrossbar" 191 yX_beginJob ∈ mx_T := mx_in (i := 362) (by decide +kernel) rfl
theorem mw_364 : Cond.instanceMethod yX_beginJob ∈ mx_T := mx_in (i := 364) (by decide +kernel) rfl
theorem mw_365 : Cond.code yX_beginJob prog_1_method_21_code 3 none ∈ mx_T := mx_in (i := 365) (by decide +kernel) rfl
theorem mw_366 : Cond.fieldLink "MessageCrossbar" 200 "MessageCrossbar" "DELAYS" "[I" ∈ mx_T := mx_in (i := 366) (by decide +kernel) rfl
theorem mw_368 : Cond.fieldLink "MessageCrossbar" 205 "MessageCrossbar" "WIDTH_POWERS" "[I" ∈ mx_T := mx_in (i := 368) (by decide +kernel) rfl
theorem mw_370 : Cond.methodLink "MessageCrossbar" 208 ⟨"java/lang/Math", "max", "(II)I"⟩ ∈ mx_T := mx_in (i := 370) (by decide +kernel) rfl
theorem mw_371 : Cond.static ⟨"java/lang/Math", "max", "(II)I"⟩ ∈ mx_T := mx_in (i := 371) (by decide +kernel) rfl
theorem mw_372 : Cond.code ⟨"java/lang/Math", "max", "(II)I"⟩ prog_11_method_65_code 2 (some .int) ∈ mx_T := mx_in (i := 372) (by decide +kernel) rfl
theorem mw_373 : Cond.methodLink "MessageCrossbar" 150 yX_moveRequests ∈ mx_T := mx_in (i := 373) (by decide +kernel) rfl
theorem mw_375 : Cond.instanceMethod yX_moveRequests ∈ mx_T := mx_in (i := 375) (by decide +kernel) rfl
theorem mw_376 : Cond.code yX_moveRequests prog_1_method_25_code 4 (some .boolean) ∈ mx_T := mx_in (i := 376) (by decide +kernel) rfl
theorem mw_377 : Cond.methodLink "MessageCrossbar" 227 yX_nextRequestingMaster ∈ mx_T := mx_in (i := 377) (by decide +kernel) rfl
theorem mw_379 : Cond.instanceMethod yX_nextRequestingMaster ∈ mx_T := mx_in (i := 379) (by decide +kernel) rfl
theorem mw_380 : Cond.code yX_nextRequestingMaster prog_1_method_26_code 5 (some .int) ∈ mx_T := mx_in (i := 380) (by decide +kernel) rfl
theorem mw_381 : Cond.methodLink "MessageCrossbar" 233 yP_hasRoomForRequest ∈ mx_T := mx_in (i := 381) (by decide +kernel) rfl
theorem mw_382 : Cond.instanceMethod yP_hasRoomForRequest ∈ mx_T := mx_in (i := 382) (by decide +kernel) rfl
theorem mw_383 : Cond.selects "MessageCrossbar$Port" yP_hasRoomForRequest yP_hasRoomForRequest ∈ mx_T := mx_in (i := 383) (by decide +kernel) rfl
theorem mw_384 : Cond.code yP_hasRoomForRequest prog_5_method_6_code 1 (some .boolean) ∈ mx_T := mx_in (i := 384) (by decide +kernel) rfl
theorem mw_385 : Cond.methodLink "MessageCrossbar$Port" 50 yP_idsInUse ∈ mx_T := mx_in (i := 385) (by decide +kernel) rfl
theorem mw_386 : Cond.instanceMethod yP_idsInUse ∈ mx_T := mx_in (i := 386) (by decide +kernel) rfl
theorem mw_387 : Cond.selects "MessageCrossbar$Port" yP_idsInUse yP_idsInUse ∈ mx_T := mx_in (i := 387) (by decide +kernel) rfl
theorem mw_388 : Cond.code yP_idsInUse prog_5_method_7_code 3 (some .int) ∈ mx_T := mx_in (i := 388) (by decide +kernel) rfl
theorem mw_389 : Cond.methodLink "MessageCrossbar" 239 yG_goesTo ∈ mx_T := mx_in (i := 389) (by decide +kernel) rfl
theorem mw_390 : Cond.instanceMethod yG_goesTo ∈ mx_T := mx_in (i := 390) (by decide +kernel) rfl
theorem mw_391 : Cond.selects "MessageCrossbar$Message" yG_goesTo yG_goesTo ∈ mx_T := mx_in (i := 391) (by decide +kernel) rfl
theorem mw_392 : Cond.code yG_goesTo prog_4_method_6_code 2 (some .boolean) ∈ mx_T := mx_in (i := 392) (by decide +kernel) rfl
theorem mw_395 : Cond.methodLink "MessageCrossbar" 230 yX_moveRequest ∈ mx_T := mx_in (i := 395) (by decide +kernel) rfl
theorem mw_397 : Cond.instanceMethod yX_moveRequest ∈ mx_T := mx_in (i := 397) (by decide +kernel) rfl
theorem mw_398 : Cond.code yX_moveRequest prog_1_method_27_code 4 none ∈ mx_T := mx_in (i := 398) (by decide +kernel) rfl
theorem mw_399 : Cond.methodLink "MessageCrossbar" 242 yP_takeLeastId ∈ mx_T := mx_in (i := 399) (by decide +kernel) rfl
theorem mw_400 : Cond.instanceMethod yP_takeLeastId ∈ mx_T := mx_in (i := 400) (by decide +kernel) rfl
theorem mw_401 : Cond.selects "MessageCrossbar$Port" yP_takeLeastId yP_takeLeastId ∈ mx_T := mx_in (i := 401) (by decide +kernel) rfl
theorem mw_402 : Cond.code yP_takeLeastId prog_5_method_8_code 3 none ∈ mx_T := mx_in (i := 402) (by decide +kernel) rfl
theorem mw_403 : Cond.methodLink "MessageCrossbar" 91 yX_anyJobRuns ∈ mx_T := mx_in (i := 403) (by decide +kernel) rfl
theorem mw_405 : Cond.instanceMethod yX_anyJobRuns ∈ mx_T := mx_in (i := 405) (by decide +kernel) rfl
theorem mw_406 : Cond.code yX_anyJobRuns prog_1_method_14_code 2 (some .boolean) ∈ mx_T := mx_in (i := 406) (by decide +kernel) rfl
theorem mw_407 : Cond.methodLink "MessageCrossbar" 94 yX_countStillTicks ∈ mx_T := mx_in (i := 407) (by decide +kernel) rfl
theorem mw_409 : Cond.instanceMethod yX_countStillTicks ∈ mx_T := mx_in (i := 409) (by decide +kernel) rfl
theorem mw_410 : Cond.code yX_countStillTicks prog_1_method_15_code 2 none ∈ mx_T := mx_in (i := 410) (by decide +kernel) rfl
theorem mw_411 : Cond.methodLink "MessageCrossbarLaw" 65 yZ_take ∈ mx_T := mx_in (i := 411) (by decide +kernel) rfl
theorem mw_412 : Cond.static yZ_take ∈ mx_T := mx_in (i := 412) (by decide +kernel) rfl
theorem mw_413 : Cond.codeWith yZ_take method_6_code 4 (some .int) [(0, 9, 12, 13)] ∈ mx_T := mx_in (i := 413) (by decide +kernel) rfl
theorem mw_414 : Cond.methodLink "MessageCrossbarLaw" 23 yX_take ∈ mx_T := mx_in (i := 414) (by decide +kernel) rfl
theorem mw_415 : Cond.instanceMethod yX_take ∈ mx_T := mx_in (i := 415) (by decide +kernel) rfl
theorem mw_416 : Cond.selects "MessageCrossbar" yX_take yX_take ∈ mx_T := mx_in (i := 416) (by decide +kernel) rfl
theorem mw_417 : Cond.code yX_take prog_1_method_5_code 7 (some .int) ∈ mx_T := mx_in (i := 417) (by decide +kernel) rfl
theorem mw_418 : Cond.methodLink "MessageCrossbar" 104 yX_sourceOf ∈ mx_T := mx_in (i := 418) (by decide +kernel) rfl
theorem mw_419 : Cond.static yX_sourceOf ∈ mx_T := mx_in (i := 419) (by decide +kernel) rfl
theorem mw_420 : Cond.code yX_sourceOf prog_1_method_31_code 1 (some .int) ∈ mx_T := mx_in (i := 420) (by decide +kernel) rfl
theorem mw_421 : Cond.methodLink "MessageCrossbarLaw" 73 yZ_port ∈ mx_T := mx_in (i := 421) (by decide +kernel) rfl
theorem mw_422 : Cond.static yZ_port ∈ mx_T := mx_in (i := 422) (by decide +kernel) rfl
theorem mw_423 : Cond.codeWith yZ_port method_7_code 5 (some .int) [(0, 10, 13, 30), (0, 10, 17, 13)] ∈ mx_T := mx_in (i := 423) (by decide +kernel) rfl
theorem mw_424 : Cond.classLink "MessageCrossbarLaw" 30 "java/lang/IndexOutOfBoundsException" ∈ mx_T := mx_in (i := 424) (by decide +kernel) rfl
theorem mw_425 : Cond.methodLink "MessageCrossbarLaw" 26 yX_port ∈ mx_T := mx_in (i := 425) (by decide +kernel) rfl
theorem mw_426 : Cond.instanceMethod yX_port ∈ mx_T := mx_in (i := 426) (by decide +kernel) rfl
theorem mw_427 : Cond.selects "MessageCrossbar" yX_port yX_port ∈ mx_T := mx_in (i := 427) (by decide +kernel) rfl
theorem mw_428 : Cond.code yX_port prog_1_method_7_code 4 (some .int) ∈ mx_T := mx_in (i := 428) (by decide +kernel) rfl
theorem mw_429 : Cond.classLink "MessageCrossbar" 117 "java/lang/IndexOutOfBoundsException" ∈ mx_T := mx_in (i := 429) (by decide +kernel) rfl
theorem mw_430 : Cond.instantiable "java/lang/IndexOutOfBoundsException" 6 ∈ mx_T := mx_in (i := 430) (by decide +kernel) rfl
theorem mw_432 : Cond.selects "java/lang/IndexOutOfBoundsException" ⟨"java/lang/Throwable", "fillInStackTrace", "(I)Ljava/lang/Throwable;"⟩ ⟨"java/lang/Throwable", "fillInStackTrace", "(I)Ljava/lang/Throwable;"⟩ ∈ mx_T := mx_in (i := 432) (by decide +kernel) rfl
theorem mw_433 : Cond.lays "java/lang/IndexOutOfBoundsException" "java/lang/Throwable" "cause" "Ljava/lang/Throwable;" ∈ mx_T := mx_in (i := 433) (by decide +kernel) rfl
theorem mw_434 : Cond.lays "java/lang/IndexOutOfBoundsException" "java/lang/Throwable" "stackTrace" "[Ljava/lang/StackTraceElement;" ∈ mx_T := mx_in (i := 434) (by decide +kernel) rfl
theorem mw_435 : Cond.lays "java/lang/IndexOutOfBoundsException" "java/lang/Throwable" "suppressedExceptions" "Ljava/util/List;" ∈ mx_T := mx_in (i := 435) (by decide +kernel) rfl
theorem mw_436 : Cond.lays "java/lang/IndexOutOfBoundsException" "java/lang/Throwable" "detailMessage" "Ljava/lang/String;" ∈ mx_T := mx_in (i := 436) (by decide +kernel) rfl
theorem mw_437 : Cond.lays "java/lang/IndexOutOfBoundsException" "java/lang/Throwable" "backtrace" "Ljava/lang/Object;" ∈ mx_T := mx_in (i := 437) (by decide +kernel) rfl
theorem mw_438 : Cond.methodLink "MessageCrossbar" 119 ⟨"java/lang/IndexOutOfBoundsException", "<init>", "()V"⟩ ∈ mx_T := mx_in (i := 438) (by decide +kernel) rfl
theorem mw_439 : Cond.instanceMethod ⟨"java/lang/IndexOutOfBoundsException", "<init>", "()V"⟩ ∈ mx_T := mx_in (i := 439) (by decide +kernel) rfl
theorem mw_440 : Cond.code ⟨"java/lang/IndexOutOfBoundsException", "<init>", "()V"⟩ prog_10_method_1_code 1 none ∈ mx_T := mx_in (i := 440) (by decide +kernel) rfl
theorem mw_441 : Cond.methodLink "java/lang/IndexOutOfBoundsException" 1 ⟨"java/lang/RuntimeException", "<init>", "()V"⟩ ∈ mx_T := mx_in (i := 441) (by decide +kernel) rfl
theorem mw_442 : Cond.lays "java/lang/IndexOutOfBoundsException" "java/lang/Throwable" "depth" "I" ∈ mx_T := mx_in (i := 442) (by decide +kernel) rfl
theorem mw_444 : Cond.methodLink "MessageCrossbar" 132 yP_idsInUse ∈ mx_T := mx_in (i := 444) (by decide +kernel) rfl
theorem mw_445 : Cond.methodLink "MessageCrossbarLaw" 77 yZ_owner ∈ mx_T := mx_in (i := 445) (by decide +kernel) rfl
theorem mw_446 : Cond.static yZ_owner ∈ mx_T := mx_in (i := 446) (by decide +kernel) rfl
theorem mw_447 : Cond.codeWith yZ_owner method_8_code 5 (some .int) [(0, 10, 13, 30)] ∈ mx_T := mx_in (i := 447) (by decide +kernel) rfl
theorem mw_448 : Cond.methodLink "MessageCrossbarLaw" 32 yX_owner ∈ mx_T := mx_in (i := 448) (by decide +kernel) rfl
theorem mw_449 : Cond.instanceMethod yX_owner ∈ mx_T := mx_in (i := 449) (by decide +kernel) rfl
theorem mw_450 : Cond.selects "MessageCrossbar" yX_owner yX_owner ∈ mx_T := mx_in (i := 450) (by decide +kernel) rfl
theorem mw_451 : Cond.code yX_owner prog_1_method_8_code 3 (some .int) ∈ mx_T := mx_in (i := 451) (by decide +kernel) rfl
theorem mw_452 : Cond.methodLink "MessageCrossbarLaw" 80 yZ_master ∈ mx_T := mx_in (i := 452) (by decide +kernel) rfl
theorem mw_453 : Cond.static yZ_master ∈ mx_T := mx_in (i := 453) (by decide +kernel) rfl
theorem mw_454 : Cond.codeWith yZ_master method_9_code 5 (some .int) [(0, 10, 13, 30), (0, 10, 17, 13)] ∈ mx_T := mx_in (i := 454) (by decide +kernel) rfl
theorem mw_455 : Cond.methodLink "MessageCrossbarLaw" 35 yX_master ∈ mx_T := mx_in (i := 455) (by decide +kernel) rfl
theorem mw_456 : Cond.instanceMethod yX_master ∈ mx_T := mx_in (i := 456) (by decide +kernel) rfl
theorem mw_457 : Cond.selects "MessageCrossbar" yX_master yX_master ∈ mx_T := mx_in (i := 457) (by decide +kernel) rfl
theorem mw_458 : Cond.code yX_master prog_1_method_9_code 4 (some .int) ∈ mx_T := mx_in (i := 458) (by decide +kernel) rfl
theorem mw_459 : Cond.methodLink "MessageCrossbarLaw" 83 yZ_memory ∈ mx_T := mx_in (i := 459) (by decide +kernel) rfl
theorem mw_460 : Cond.static yZ_memory ∈ mx_T := mx_in (i := 460) (by decide +kernel) rfl
theorem mw_461 : Cond.codeWith yZ_memory method_10_code 4 (some .int) [(0, 9, 12, 30)] ∈ mx_T := mx_in (i := 461) (by decide +kernel) rfl
theorem mw_462 : Cond.methodLink "MessageCrossbarLaw" 38 yX_memory ∈ mx_T := mx_in (i := 462) (by decide +kernel) rfl
theorem mw_463 : Cond.instanceMethod yX_memory ∈ mx_T := mx_in (i := 463) (by decide +kernel) rfl
theorem mw_464 : Cond.selects "MessageCrossbar" yX_memory yX_memory ∈ mx_T := mx_in (i := 464) (by decide +kernel) rfl
theorem mw_465 : Cond.code yX_memory prog_1_method_10_code 2 (some .int) ∈ mx_T := mx_in (i := 465) (by decide +kernel) rfl
theorem mw_466 : Cond.classLink "MessageCrossbarLaw" 42 "MessageCrossbarModel" ∈ mx_T := mx_in (i := 466) (by decide +kernel) rfl
theorem mw_467 : Cond.instantiable "MessageCrossbarModel" 20 ∈ mx_T := mx_in (i := 467) (by decide +kernel) rfl
theorem mw_468 : Cond.methodLink "MessageCrossbarLaw" 44 yR_init ∈ mx_T := mx_in (i := 468) (by decide +kernel) rfl
theorem mw_469 : Cond.instanceMethod yR_init ∈ mx_T := mx_in (i := 469) (by decide +kernel) rfl
theorem mw_470 : Cond.code yR_init prog_7_method_1_code 1 none ∈ mx_T := mx_in (i := 470) (by decide +kernel) rfl
theorem mw_471 : Cond.methodLink "MessageCrossbarModel" 1 objectInit ∈ mx_T := mx_in (i := 471) (by decide +kernel) rfl
theorem mw_472 : Cond.fieldLink "MessageCrossbarModel" 60 "MessageCrossbarModel" "code" "I" ∈ mx_T := mx_in (i := 472) (by decide +kernel) rfl
theorem mw_473 : Cond.fieldLink "MessageCrossbarModel" 7 "MessageCrossbarModel" "stands" "[I" ∈ mx_T := mx_in (i := 473) (by decide +kernel) rfl
theorem mw_474 : Cond.fieldLink "MessageCrossbarModel" 13 "MessageCrossbarModel" "since" "[I" ∈ mx_T := mx_in (i := 474) (by decide +kernel) rfl
theorem mw_475 : Cond.fieldLink "MessageCrossbarModel" 16 "MessageCrossbarModel" "sort" "[I" ∈ mx_T := mx_in (i := 475) (by decide +kernel) rfl
theorem mw_476 : Cond.fieldLink "MessageCrossbarModel" 19 "MessageCrossbarModel" "size" "[I" ∈ mx_T := mx_in (i := 476) (by decide +kernel) rfl
theorem mw_477 : Cond.fieldLink "MessageCrossbarModel" 22 "MessageCrossbarModel" "address" "[I" ∈ mx_T := mx_in (i := 477) (by decide +kernel) rfl
theorem mw_478 : Cond.fieldLink "MessageCrossbarModel" 25 "MessageCrossbarModel" "bytes" "[J" ∈ mx_T := mx_in (i := 478) (by decide +kernel) rfl
theorem mw_479 : Cond.fieldLink "MessageCrossbarModel" 29 "MessageCrossbarModel" "mask" "[I" ∈ mx_T := mx_in (i := 479) (by decide +kernel) rfl
theorem mw_480 : Cond.fieldLink "MessageCrossbarModel" 32 "MessageCrossbarModel" "id" "[I" ∈ mx_T := mx_in (i := 480) (by decide +kernel) rfl
theorem mw_481 : Cond.fieldLink "MessageCrossbarModel" 72 "MessageCrossbarModel" "moves" "I" ∈ mx_T := mx_in (i := 481) (by decide +kernel) rfl
theorem mw_482 : Cond.fieldLink "MessageCrossbarModel" 35 "MessageCrossbarModel" "refuses" "[Z" ∈ mx_T := mx_in (i := 482) (by decide +kernel) rfl
theorem mw_483 : Cond.fieldLink "MessageCrossbarModel" 39 "MessageCrossbarModel" "portInTurn" "[I" ∈ mx_T := mx_in (i := 483) (by decide +kernel) rfl
theorem mw_484 : Cond.fieldLink "MessageCrossbarModel" 42 "MessageCrossbarModel" "masterInTurn" "[I" ∈ mx_T := mx_in (i := 484) (by decide +kernel) rfl
theorem mw_485 : Cond.fieldLink "MessageCrossbarModel" 45 "MessageCrossbarModel" "left" "[I" ∈ mx_T := mx_in (i := 485) (by decide +kernel) rfl
theorem mw_486 : Cond.fieldLink "MessageCrossbarModel" 48 "MessageCrossbarModel" "jobs" "[I" ∈ mx_T := mx_in (i := 486) (by decide +kernel) rfl
theorem mw_487 : Cond.fieldLink "MessageCrossbarModel" 51 "MessageCrossbarModel" "memory" "[I" ∈ mx_T := mx_in (i := 487) (by decide +kernel) rfl
theorem mw_488 : Cond.fieldLink "MessageCrossbarModel" 54 "MessageCrossbarModel" "log" "[I" ∈ mx_T := mx_in (i := 488) (by decide +kernel) rfl
theorem mw_489 : Cond.fieldLink "MessageCrossbarModel" 57 "MessageCrossbarModel" "counts" "[I" ∈ mx_T := mx_in (i := 489) (by decide +kernel) rfl
theorem mw_490 : Cond.fieldLink "MessageCrossbarModel" 121 "MessageCrossbarModel" "latest" "J" ∈ mx_T := mx_in (i := 490) (by decide +kernel) rfl
theorem mw_491 : Cond.fieldLink "MessageCrossbarModel" 75 "MessageCrossbarModel" "moved" "Z" ∈ mx_T := mx_in (i := 491) (by decide +kernel) rfl
theorem mw_492 : Cond.lays "MessageCrossbarModel" "MessageCrossbarModel" "code" "I" ∈ mx_T := mx_in (i := 492) (by decide +kernel) rfl
theorem mw_494 : Cond.laysFinal "MessageCrossbarModel" "MessageCrossbarModel" "stands" "[I" ∈ mx_T := mx_in (i := 494) (by decide +kernel) rfl
theorem mw_496 : Cond.laysFinal "MessageCrossbarModel" "MessageCrossbarModel" "since" "[I" ∈ mx_T := mx_in (i := 496) (by decide +kernel) rfl
theorem mw_498 : Cond.laysFinal "MessageCrossbarModel" "MessageCrossbarModel" "sort" "[I" ∈ mx_T := mx_in (i := 498) (by decide +kernel) rfl
theorem mw_500 : Cond.laysFinal "MessageCrossbarModel" "MessageCrossbarModel" "size" "[I" ∈ mx_T := mx_in (i := 500) (by decide +kernel) rfl
theorem mw_502 : Cond.laysFinal "MessageCrossbarModel" "MessageCrossbarModel" "address" "[I" ∈ mx_T := mx_in (i := 502) (by decide +kernel) rfl
theorem mw_504 : Cond.laysFinal "MessageCrossbarModel" "MessageCrossbarModel" "bytes" "[J" ∈ mx_T := mx_in (i := 504) (by decide +kernel) rfl
theorem mw_506 : Cond.laysFinal "MessageCrossbarModel" "MessageCrossbarModel" "mask" "[I" ∈ mx_T := mx_in (i := 506) (by decide +kernel) rfl
theorem mw_508 : Cond.laysFinal "MessageCrossbarModel" "MessageCrossbarModel" "id" "[I" ∈ mx_T := mx_in (i := 508) (by decide +kernel) rfl
theorem mw_510 : Cond.lays "MessageCrossbarModel" "MessageCrossbarModel" "moves" "I" ∈ mx_T := mx_in (i := 510) (by decide +kernel) rfl
theorem mw_512 : Cond.laysFinal "MessageCrossbarModel" "MessageCrossbarModel" "refuses" "[Z" ∈ mx_T := mx_in (i := 512) (by decide +kernel) rfl
theorem mw_514 : Cond.laysFinal "MessageCrossbarModel" "MessageCrossbarModel" "portInTurn" "[I" ∈ mx_T := mx_in (i := 514) (by decide +kernel) rfl
theorem mw_516 : Cond.laysFinal "MessageCrossbarModel" "MessageCrossbarModel" "masterInTurn" "[I" ∈ mx_T := mx_in (i := 516) (by decide +kernel) rfl
theorem mw_518 : Cond.laysFinal "MessageCrossbarModel" "MessageCrossbarModel" "left" "[I" ∈ mx_T := mx_in (i := 518) (by decide +kernel) rfl
theorem mw_520 : Cond.laysFinal "MessageCrossbarModel" "MessageCrossbarModel" "jobs" "[I" ∈ mx_T := mx_in (i := 520) (by decide +kernel) rfl
theorem mw_522 : Cond.laysFinal "MessageCrossbarModel" "MessageCrossbarModel" "memory" "[I" ∈ mx_T := mx_in (i := 522) (by decide +kernel) rfl
theorem mw_524 : Cond.laysFinal "MessageCrossbarModel" "MessageCrossbarModel" "log" "[I" ∈ mx_T := mx_in (i := 524) (by decide +kernel) rfl
theorem mw_526 : Cond.laysFinal "MessageCrossbarModel" "MessageCrossbarModel" "counts" "[I" ∈ mx_T := mx_in (i := 526) (by decide +kernel) rfl
theorem mw_528 : Cond.lays "MessageCrossbarModel" "MessageCrossbarModel" "latest" "J" ∈ mx_T := mx_in (i := 528) (by decide +kernel) rfl
theorem mw_530 : Cond.lays "MessageCrossbarModel" "MessageCrossbarModel" "moved" "Z" ∈ mx_T := mx_in (i := 530) (by decide +kernel) rfl
theorem mw_533 : Cond.arrayClass .long ∈ mx_T := mx_in (i := 533) (by decide +kernel) rfl
theorem mw_534 : Cond.arrayClass .boolean ∈ mx_T := mx_in (i := 534) (by decide +kernel) rfl
theorem mw_535 : Cond.methodLink "MessageCrossbarLaw" 53 yR_thrown ∈ mx_T := mx_in (i := 535) (by decide +kernel) rfl
theorem mw_536 : Cond.instanceMethod yR_thrown ∈ mx_T := mx_in (i := 536) (by decide +kernel) rfl
theorem mw_537 : Cond.selects "MessageCrossbarModel" yR_thrown yR_thrown ∈ mx_T := mx_in (i := 537) (by decide +kernel) rfl
theorem mw_538 : Cond.code yR_thrown prog_7_method_2_code 1 (some .int) ∈ mx_T := mx_in (i := 538) (by decide +kernel) rfl
theorem mw_539 : Cond.methodLink "MessageCrossbarLaw" 52 yR_request ∈ mx_T := mx_in (i := 539) (by decide +kernel) rfl
theorem mw_540 : Cond.instanceMethod yR_request ∈ mx_T := mx_in (i := 540) (by decide +kernel) rfl
theorem mw_541 : Cond.selects "MessageCrossbarModel" yR_request yR_request ∈ mx_T := mx_in (i := 541) (by decide +kernel) rfl
theorem mw_542 : Cond.code yR_request prog_7_method_13_code 11 (some .int) ∈ mx_T := mx_in (i := 542) (by decide +kernel) rfl
theorem mw_543 : Cond.methodLink "MessageCrossbarModel" 83 yR_in ∈ mx_T := mx_in (i := 543) (by decide +kernel) rfl
theorem mw_544 : Cond.static yR_in ∈ mx_T := mx_in (i := 544) (by decide +kernel) rfl
theorem mw_545 : Cond.code yR_in prog_7_method_3_code 2 (some .boolean) ∈ mx_T := mx_in (i := 545) (by decide +kernel) rfl
theorem mw_546 : Cond.methodLink "MessageCrossbarModel" 87 yR_many ∈ mx_T := mx_in (i := 546) (by decide +kernel) rfl
theorem mw_548 : Cond.instanceMethod yR_many ∈ mx_T := mx_in (i := 548) (by decide +kernel) rfl
theorem mw_549 : Cond.code yR_many prog_7_method_8_code 5 (some .int) ∈ mx_T := mx_in (i := 549) (by decide +kernel) rfl
theorem mw_550 : Cond.methodLink "MessageCrossbarModel" 68 yR_isAt ∈ mx_T := mx_in (i := 550) (by decide +kernel) rfl
theorem mw_552 : Cond.instanceMethod yR_isAt ∈ mx_T := mx_in (i := 552) (by decide +kernel) rfl
theorem mw_553 : Cond.code yR_isAt prog_7_method_7_code 4 (some .boolean) ∈ mx_T := mx_in (i := 553) (by decide +kernel) rfl
theorem mw_554 : Cond.methodLink "MessageCrossbarModel" 64 yR_portOf ∈ mx_T := mx_in (i := 554) (by decide +kernel) rfl
theorem mw_555 : Cond.static yR_portOf ∈ mx_T := mx_in (i := 555) (by decide +kernel) rfl
theorem mw_556 : Cond.code yR_portOf prog_7_method_4_code 1 (some .int) ∈ mx_T := mx_in (i := 556) (by decide +kernel) rfl
theorem mw_557 : Cond.methodLink "MessageCrossbarModel" 90 yR_go ∈ mx_T := mx_in (i := 557) (by decide +kernel) rfl
theorem mw_559 : Cond.instanceMethod yR_go ∈ mx_T := mx_in (i := 559) (by decide +kernel) rfl
theorem mw_560 : Cond.code yR_go prog_7_method_10_code 3 none ∈ mx_T := mx_in (i := 560) (by decide +kernel) rfl
theorem mw_561 : Cond.methodLink "MessageCrossbarLaw" 60 yR_accept ∈ mx_T := mx_in (i := 561) (by decide +kernel) rfl
theorem mw_562 : Cond.instanceMethod yR_accept ∈ mx_T := mx_in (i := 562) (by decide +kernel) rfl
theorem mw_563 : Cond.selects "MessageCrossbarModel" yR_accept yR_accept ∈ mx_T := mx_in (i := 563) (by decide +kernel) rfl
theorem mw_564 : Cond.code yR_accept prog_7_method_14_code 4 (some .boolean) ∈ mx_T := mx_in (i := 564) (by decide +kernel) rfl
theorem mw_565 : Cond.methodLink "MessageCrossbarLaw" 64 yR_tick ∈ mx_T := mx_in (i := 565) (by decide +kernel) rfl
theorem mw_566 : Cond.instanceMethod yR_tick ∈ mx_T := mx_in (i := 566) (by decide +kernel) rfl
theorem mw_567 : Cond.selects "MessageCrossbarModel" yR_tick yR_tick ∈ mx_T := mx_in (i := 567) (by decide +kernel) rfl
theorem mw_568 : Cond.code yR_tick prog_7_method_19_code 4 (some .int) ∈ mx_T := mx_in (i := 568) (by decide +kernel) rfl
theorem mw_569 : Cond.methodLink "MessageCrossbarModel" 112 yR_answers ∈ mx_T := mx_in (i := 569) (by decide +kernel) rfl
theorem mw_571 : Cond.instanceMethod yR_answers ∈ mx_T := mx_in (i := 571) (by decide +kernel) rfl
theorem mw_572 : Cond.code yR_answers prog_7_method_15_code 5 none ∈ mx_T := mx_in (i := 572) (by decide +kernel) rfl
theorem mw_573 : Cond.methodLink "MessageCrossbarModel" 94 yR_first ∈ mx_T := mx_in (i := 573) (by decide +kernel) rfl
theorem mw_575 : Cond.instanceMethod yR_first ∈ mx_T := mx_in (i := 575) (by decide +kernel) rfl
theorem mw_576 : Cond.code yR_first prog_7_method_9_code 5 (some .int) ∈ mx_T := mx_in (i := 576) (by decide +kernel) rfl
theorem mw_577 : Cond.methodLink "MessageCrossbarModel" 115 yR_serve ∈ mx_T := mx_in (i := 577) (by decide +kernel) rfl
theorem mw_579 : Cond.instanceMethod yR_serve ∈ mx_T := mx_in (i := 579) (by decide +kernel) rfl
theorem mw_580 : Cond.code yR_serve prog_7_method_17_code 5 none ∈ mx_T := mx_in (i := 580) (by decide +kernel) rfl
theorem mw_581 : Cond.methodLink "MessageCrossbarModel" 99 yR_work ∈ mx_T := mx_in (i := 581) (by decide +kernel) rfl
theorem mw_583 : Cond.instanceMethod yR_work ∈ mx_T := mx_in (i := 583) (by decide +kernel) rfl
theorem mw_584 : Cond.code yR_work prog_7_method_16_code 6 none ∈ mx_T := mx_in (i := 584) (by decide +kernel) rfl
theorem mw_585 : Cond.constantLong "MessageCrossbarModel" 97 (255 : Int64) ∈ mx_T := mx_in (i := 585) (by decide +kernel) rfl
theorem mw_586 : Cond.methodLink "MessageCrossbarModel" 103 yR_widthOf ∈ mx_T := mx_in (i := 586) (by decide +kernel) rfl
theorem mw_587 : Cond.static yR_widthOf ∈ mx_T := mx_in (i := 587) (by decide +kernel) rfl
theorem mw_588 : Cond.code yR_widthOf prog_7_method_5_code 1 (some .int) ∈ mx_T := mx_in (i := 588) (by decide +kernel) rfl
theorem mw_589 : Cond.methodLink "MessageCrossbarModel" 106 yR_delayOf ∈ mx_T := mx_in (i := 589) (by decide +kernel) rfl
theorem mw_590 : Cond.static yR_delayOf ∈ mx_T := mx_in (i := 590) (by decide +kernel) rfl
theorem mw_591 : Cond.code yR_delayOf prog_7_method_6_code 1 (some .int) ∈ mx_T := mx_in (i := 591) (by decide +kernel) rfl
theorem mw_592 : Cond.methodLink "MessageCrossbarModel" 118 yR_fetch ∈ mx_T := mx_in (i := 592) (by decide +kernel) rfl
theorem mw_594 : Cond.instanceMethod yR_fetch ∈ mx_T := mx_in (i := 594) (by decide +kernel) rfl
theorem mw_595 : Cond.code yR_fetch prog_7_method_18_code 6 none ∈ mx_T := mx_in (i := 595) (by decide +kernel) rfl
theorem mw_596 : Cond.methodLink "MessageCrossbarModel" 109 yR_freeId ∈ mx_T := mx_in (i := 596) (by decide +kernel) rfl
theorem mw_598 : Cond.instanceMethod yR_freeId ∈ mx_T := mx_in (i := 598) (by decide +kernel) rfl
theorem mw_599 : Cond.code yR_freeId prog_7_method_12_code 3 (some .int) ∈ mx_T := mx_in (i := 599) (by decide +kernel) rfl
theorem mw_600 : Cond.methodLink "MessageCrossbarModel" 79 yR_holder ∈ mx_T := mx_in (i := 600) (by decide +kernel) rfl
theorem mw_602 : Cond.instanceMethod yR_holder ∈ mx_T := mx_in (i := 602) (by decide +kernel) rfl
theorem mw_603 : Cond.code yR_holder prog_7_method_11_code 4 (some .int) ∈ mx_T := mx_in (i := 603) (by decide +kernel) rfl
theorem mw_604 : Cond.methodLink "MessageCrossbarLaw" 67 yR_take ∈ mx_T := mx_in (i := 604) (by decide +kernel) rfl
theorem mw_605 : Cond.instanceMethod yR_take ∈ mx_T := mx_in (i := 605) (by decide +kernel) rfl
theorem mw_606 : Cond.selects "MessageCrossbarModel" yR_take yR_take ∈ mx_T := mx_in (i := 606) (by decide +kernel) rfl
theorem mw_607 : Cond.code yR_take prog_7_method_20_code 4 (some .int) ∈ mx_T := mx_in (i := 607) (by decide +kernel) rfl
theorem mw_608 : Cond.methodLink "MessageCrossbarLaw" 72 yR_data ∈ mx_T := mx_in (i := 608) (by decide +kernel) rfl
theorem mw_609 : Cond.instanceMethod yR_data ∈ mx_T := mx_in (i := 609) (by decide +kernel) rfl
theorem mw_610 : Cond.selects "MessageCrossbarModel" yR_data yR_data ∈ mx_T := mx_in (i := 610) (by decide +kernel) rfl
theorem mw_611 : Cond.code yR_data prog_7_method_21_code 1 (some .long) ∈ mx_T := mx_in (i := 611) (by decide +kernel) rfl
theorem mw_612 : Cond.methodLink "MessageCrossbarLaw" 76 yR_port ∈ mx_T := mx_in (i := 612) (by decide +kernel) rfl
theorem mw_613 : Cond.instanceMethod yR_port ∈ mx_T := mx_in (i := 613) (by decide +kernel) rfl
theorem mw_614 : Cond.selects "MessageCrossbarModel" yR_port yR_port ∈ mx_T := mx_in (i := 614) (by decide +kernel) rfl
theorem mw_615 : Cond.code yR_port prog_7_method_22_code 3 (some .int) ∈ mx_T := mx_in (i := 615) (by decide +kernel) rfl
theorem mw_616 : Cond.methodLink "MessageCrossbarLaw" 79 yR_owner ∈ mx_T := mx_in (i := 616) (by decide +kernel) rfl
theorem mw_617 : Cond.instanceMethod yR_owner ∈ mx_T := mx_in (i := 617) (by decide +kernel) rfl
theorem mw_618 : Cond.selects "MessageCrossbarModel" yR_owner yR_owner ∈ mx_T := mx_in (i := 618) (by decide +kernel) rfl
theorem mw_619 : Cond.code yR_owner prog_7_method_23_code 3 (some .int) ∈ mx_T := mx_in (i := 619) (by decide +kernel) rfl
theorem mw_620 : Cond.methodLink "MessageCrossbarLaw" 82 yR_master ∈ mx_T := mx_in (i := 620) (by decide +kernel) rfl
theorem mw_621 : Cond.instanceMethod yR_master ∈ mx_T := mx_in (i := 621) (by decide +kernel) rfl
theorem mw_622 : Cond.selects "MessageCrossbarModel" yR_master yR_master ∈ mx_T := mx_in (i := 622) (by decide +kernel) rfl
theorem mw_623 : Cond.code yR_master prog_7_method_24_code 5 (some .int) ∈ mx_T := mx_in (i := 623) (by decide +kernel) rfl
theorem mw_624 : Cond.methodLink "MessageCrossbarLaw" 85 yR_memory ∈ mx_T := mx_in (i := 624) (by decide +kernel) rfl
theorem mw_625 : Cond.instanceMethod yR_memory ∈ mx_T := mx_in (i := 625) (by decide +kernel) rfl
theorem mw_626 : Cond.selects "MessageCrossbarModel" yR_memory yR_memory ∈ mx_T := mx_in (i := 626) (by decide +kernel) rfl
theorem mw_627 : Cond.code yR_memory prog_7_method_25_code 2 (some .int) ∈ mx_T := mx_in (i := 627) (by decide +kernel) rfl
theorem mw_628 : Cond.methodLink "MessageCrossbarLaw" 89 yR_done ∈ mx_T := mx_in (i := 628) (by decide +kernel) rfl
theorem mw_629 : Cond.instanceMethod yR_done ∈ mx_T := mx_in (i := 629) (by decide +kernel) rfl
theorem mw_630 : Cond.selects "MessageCrossbarModel" yR_done yR_done ∈ mx_T := mx_in (i := 630) (by decide +kernel) rfl
theorem mw_631 : Cond.code yR_done prog_7_method_26_code 2 (some .int) ∈ mx_T := mx_in (i := 631) (by decide +kernel) rfl
theorem mw_632 : Cond.methodLink "MessageCrossbarLaw" 93 yR_count ∈ mx_T := mx_in (i := 632) (by decide +kernel) rfl
theorem mw_633 : Cond.instanceMethod yR_count ∈ mx_T := mx_in (i := 633) (by decide +kernel) rfl
theorem mw_634 : Cond.selects "MessageCrossbarModel" yR_count yR_count ∈ mx_T := mx_in (i := 634) (by decide +kernel) rfl
theorem mw_635 : Cond.code yR_count prog_7_method_27_code 2 (some .int) ∈ mx_T := mx_in (i := 635) (by decide +kernel) rfl
theorem mw_636 : Cond.constantLong "MessageCrossbarLaw" 45 (4294967295 : Int64) ∈ mx_T := mx_in (i := 636) (by decide +kernel) rfl
theorem ms_1 : Cond.selects "MessageCrossbar" yX_runTick yX_runTick ∈ mx_T := mx_se (y := yX_runTick) (n := 7) (i := 1) (by decide +kernel) rfl
theorem ms_2 : Cond.selects "MessageCrossbar" yX_moveAnswers yX_moveAnswers ∈ mx_T := mx_se (y := yX_moveAnswers) (n := 7) (i := 2) (by decide +kernel) rfl
theorem ms_3 : Cond.selects "MessageCrossbar" yX_nextAnsweringPort yX_nextAnsweringPort ∈ mx_T := mx_se (y := yX_nextAnsweringPort) (n := 7) (i := 3) (by decide +kernel) rfl
theorem ms_4 : Cond.selects "MessageCrossbar" yX_moveAnswer yX_moveAnswer ∈ mx_T := mx_se (y := yX_moveAnswer) (n := 7) (i := 4) (by decide +kernel) rfl
theorem ms_5 : Cond.selects "MessageCrossbar" yX_servePorts yX_servePorts ∈ mx_T := mx_se (y := yX_servePorts) (n := 7) (i := 5) (by decide +kernel) rfl
theorem ms_6 : Cond.selects "MessageCrossbar" yX_finishJob yX_finishJob ∈ mx_T := mx_se (y := yX_finishJob) (n := 7) (i := 6) (by decide +kernel) rfl
theorem ms_7 : Cond.selects "MessageCrossbar" yX_carryOut yX_carryOut ∈ mx_T := mx_se (y := yX_carryOut) (n := 7) (i := 7) (by decide +kernel) rfl
theorem ms_8 : Cond.selects "MessageCrossbar" yX_readBytes yX_readBytes ∈ mx_T := mx_se (y := yX_readBytes) (n := 7) (i := 8) (by decide +kernel) rfl
theorem ms_9 : Cond.selects "MessageCrossbar" yX_writeBytes yX_writeBytes ∈ mx_T := mx_se (y := yX_writeBytes) (n := 7) (i := 9) (by decide +kernel) rfl
theorem ms_10 : Cond.selects "MessageCrossbar" yX_beginJob yX_beginJob ∈ mx_T := mx_se (y := yX_beginJob) (n := 7) (i := 10) (by decide +kernel) rfl
theorem ms_11 : Cond.selects "MessageCrossbar" yX_moveRequests yX_moveRequests ∈ mx_T := mx_se (y := yX_moveRequests) (n := 7) (i := 11) (by decide +kernel) rfl
theorem ms_12 : Cond.selects "MessageCrossbar" yX_nextRequestingMaster yX_nextRequestingMaster ∈ mx_T := mx_se (y := yX_nextRequestingMaster) (n := 7) (i := 12) (by decide +kernel) rfl
theorem ms_13 : Cond.selects "MessageCrossbar" yX_moveRequest yX_moveRequest ∈ mx_T := mx_se (y := yX_moveRequest) (n := 7) (i := 13) (by decide +kernel) rfl
theorem ms_14 : Cond.selects "MessageCrossbar" yX_anyJobRuns yX_anyJobRuns ∈ mx_T := mx_se (y := yX_anyJobRuns) (n := 7) (i := 14) (by decide +kernel) rfl
theorem ms_15 : Cond.selects "MessageCrossbar" yX_countStillTicks yX_countStillTicks ∈ mx_T := mx_se (y := yX_countStillTicks) (n := 7) (i := 15) (by decide +kernel) rfl
theorem ms_16 : Cond.selects "MessageCrossbarModel" yR_many yR_many ∈ mx_T := mx_se (y := yR_many) (n := 20) (i := 16) (by decide +kernel) rfl
theorem ms_17 : Cond.selects "MessageCrossbarModel" yR_isAt yR_isAt ∈ mx_T := mx_se (y := yR_isAt) (n := 20) (i := 17) (by decide +kernel) rfl
theorem ms_18 : Cond.selects "MessageCrossbarModel" yR_go yR_go ∈ mx_T := mx_se (y := yR_go) (n := 20) (i := 18) (by decide +kernel) rfl
theorem ms_19 : Cond.selects "MessageCrossbarModel" yR_answers yR_answers ∈ mx_T := mx_se (y := yR_answers) (n := 20) (i := 19) (by decide +kernel) rfl
theorem ms_20 : Cond.selects "MessageCrossbarModel" yR_first yR_first ∈ mx_T := mx_se (y := yR_first) (n := 20) (i := 20) (by decide +kernel) rfl
theorem ms_21 : Cond.selects "MessageCrossbarModel" yR_serve yR_serve ∈ mx_T := mx_se (y := yR_serve) (n := 20) (i := 21) (by decide +kernel) rfl
theorem ms_22 : Cond.selects "MessageCrossbarModel" yR_work yR_work ∈ mx_T := mx_se (y := yR_work) (n := 20) (i := 22) (by decide +kernel) rfl
theorem ms_23 : Cond.selects "MessageCrossbarModel" yR_fetch yR_fetch ∈ mx_T := mx_se (y := yR_fetch) (n := 20) (i := 23) (by decide +kernel) rfl
theorem ms_24 : Cond.selects "MessageCrossbarModel" yR_freeId yR_freeId ∈ mx_T := mx_se (y := yR_freeId) (n := 20) (i := 24) (by decide +kernel) rfl
theorem ms_25 : Cond.selects "MessageCrossbarModel" yR_holder yR_holder ∈ mx_T := mx_se (y := yR_holder) (n := 20) (i := 25) (by decide +kernel) rfl
def mR_L : String := "MessageCrossbar$Line"
def mT_L : u_T := fun k => match k with
  | 0 => ("MessageCrossbar$Line", "keys", "[I", true)
  | _ => ("MessageCrossbar$Line", "size", "I", false)
def mt_L : Nat → FieldType := fun k => match k with
  | 0 => .array .int
  | _ => .int
theorem mn_L : ∀ a, a < 2 → ∀ b, b < 2 → a ≠ b → (mT_L a).2.1 ≠ (mT_L b).2.1 := by decide +kernel
theorem mk_L : ∀ k, k < 2 → parseFieldDescriptor (mT_L k).2.2.1 = some (mt_L k) := by decide +kernel
theorem mh_L : ∀ w ∈ u_ws mR_L mT_L 2, w ∈ mx_T := by
  show ∀ w ∈ [u_lay mR_L mT_L 0, u_lay mR_L mT_L 1], w ∈ mx_T
  exact List.forall_mem_cons.mpr ⟨mw_38, List.forall_mem_cons.mpr ⟨mw_40, fun _ h => absurd h List.not_mem_nil⟩⟩
def mR_M : String := "MessageCrossbar$Master"
def mT_M : u_T := fun k => match k with
  | 0 => ("MessageCrossbar$Master", "waiting", "LMessageCrossbar$Line;", true)
  | 1 => ("MessageCrossbar$Master", "box", "LMessageCrossbar$Line;", true)
  | 2 => ("MessageCrossbar$Master", "inFlight", "I", false)
  | 3 => ("MessageCrossbar$Master", "accepts", "Z", false)
  | _ => ("MessageCrossbar$Master", "latestPort", "I", false)
def mt_M : Nat → FieldType := fun k => match k with
  | 0 => .object "MessageCrossbar$Line"
  | 1 => .object "MessageCrossbar$Line"
  | 2 => .int
  | 3 => .boolean
  | _ => .int
theorem mn_M : ∀ a, a < 5 → ∀ b, b < 5 → a ≠ b → (mT_M a).2.1 ≠ (mT_M b).2.1 := by decide +kernel
theorem mk_M : ∀ k, k < 5 → parseFieldDescriptor (mT_M k).2.2.1 = some (mt_M k) := by decide +kernel
theorem mh_M : ∀ w ∈ u_ws mR_M mT_M 5, w ∈ mx_T := by
  show ∀ w ∈ [u_lay mR_M mT_M 0, u_lay mR_M mT_M 1, u_lay mR_M mT_M 2, u_lay mR_M mT_M 3, u_lay mR_M mT_M 4], w ∈ mx_T
  exact List.forall_mem_cons.mpr ⟨mw_54, List.forall_mem_cons.mpr ⟨mw_56, List.forall_mem_cons.mpr ⟨mw_58, List.forall_mem_cons.mpr ⟨mw_60, List.forall_mem_cons.mpr ⟨mw_62, fun _ h => absurd h List.not_mem_nil⟩⟩⟩⟩⟩
def mR_G : String := "MessageCrossbar$Message"
def mT_G : u_T := fun k => match k with
  | 0 => ("MessageCrossbar$Message", "sort", "I", false)
  | 1 => ("MessageCrossbar$Message", "z", "I", false)
  | 2 => ("MessageCrossbar$Message", "address", "I", false)
  | 3 => ("MessageCrossbar$Message", "data", "J", false)
  | _ => ("MessageCrossbar$Message", "mask", "I", false)
def mt_G : Nat → FieldType := fun k => match k with
  | 0 => .int
  | 1 => .int
  | 2 => .int
  | 3 => .long
  | _ => .int
theorem mn_G : ∀ a, a < 5 → ∀ b, b < 5 → a ≠ b → (mT_G a).2.1 ≠ (mT_G b).2.1 := by decide +kernel
theorem mk_G : ∀ k, k < 5 → parseFieldDescriptor (mT_G k).2.2.1 = some (mt_G k) := by decide +kernel
theorem mh_G : ∀ w ∈ u_ws mR_G mT_G 5, w ∈ mx_T := by
  show ∀ w ∈ [u_lay mR_G mT_G 0, u_lay mR_G mT_G 1, u_lay mR_G mT_G 2, u_lay mR_G mT_G 3, u_lay mR_G mT_G 4], w ∈ mx_T
  exact List.forall_mem_cons.mpr ⟨mw_118, List.forall_mem_cons.mpr ⟨mw_120, List.forall_mem_cons.mpr ⟨mw_122, List.forall_mem_cons.mpr ⟨mw_124, List.forall_mem_cons.mpr ⟨mw_126, fun _ h => absurd h List.not_mem_nil⟩⟩⟩⟩⟩
def mR_P : String := "MessageCrossbar$Port"
def mT_P : u_T := fun k => match k with
  | 0 => ("MessageCrossbar$Port", "requests", "LMessageCrossbar$Line;", true)
  | 1 => ("MessageCrossbar$Port", "answers", "LMessageCrossbar$Line;", true)
  | 2 => ("MessageCrossbar$Port", "owners", "[I", true)
  | 3 => ("MessageCrossbar$Port", "job", "I", false)
  | 4 => ("MessageCrossbar$Port", "ticksLeft", "I", false)
  | 5 => ("MessageCrossbar$Port", "jobsDone", "I", false)
  | _ => ("MessageCrossbar$Port", "latestMaster", "I", false)
def mt_P : Nat → FieldType := fun k => match k with
  | 0 => .object "MessageCrossbar$Line"
  | 1 => .object "MessageCrossbar$Line"
  | 2 => .array .int
  | 3 => .int
  | 4 => .int
  | 5 => .int
  | _ => .int
theorem mn_P : ∀ a, a < 7 → ∀ b, b < 7 → a ≠ b → (mT_P a).2.1 ≠ (mT_P b).2.1 := by decide +kernel
theorem mk_P : ∀ k, k < 7 → parseFieldDescriptor (mT_P k).2.2.1 = some (mt_P k) := by decide +kernel
theorem mh_P : ∀ w ∈ u_ws mR_P mT_P 7, w ∈ mx_T := by
  show ∀ w ∈ [u_lay mR_P mT_P 0, u_lay mR_P mT_P 1, u_lay mR_P mT_P 2, u_lay mR_P mT_P 3, u_lay mR_P mT_P 4, u_lay mR_P mT_P 5, u_lay mR_P mT_P 6], w ∈ mx_T
  exact List.forall_mem_cons.mpr ⟨mw_88, List.forall_mem_cons.mpr ⟨mw_90, List.forall_mem_cons.mpr ⟨mw_92, List.forall_mem_cons.mpr ⟨mw_94, List.forall_mem_cons.mpr ⟨mw_96, List.forall_mem_cons.mpr ⟨mw_98, List.forall_mem_cons.mpr ⟨mw_100, fun _ h => absurd h List.not_mem_nil⟩⟩⟩⟩⟩⟩⟩
def mR_X : String := "MessageCrossbar"
def mT_X : u_T := fun k => match k with
  | 0 => ("MessageCrossbar", "masters", "[LMessageCrossbar$Master;", true)
  | 1 => ("MessageCrossbar", "ports", "[LMessageCrossbar$Port;", true)
  | 2 => ("MessageCrossbar", "messages", "[LMessageCrossbar$Message;", true)
  | 3 => ("MessageCrossbar", "bytes", "[B", true)
  | 4 => ("MessageCrossbar", "log", "[I", true)
  | 5 => ("MessageCrossbar", "counts", "[I", true)
  | _ => ("MessageCrossbar", "latestData", "J", false)
def mt_X : Nat → FieldType := fun k => match k with
  | 0 => .array (.object "MessageCrossbar$Master")
  | 1 => .array (.object "MessageCrossbar$Port")
  | 2 => .array (.object "MessageCrossbar$Message")
  | 3 => .array .byte
  | 4 => .array .int
  | 5 => .array .int
  | _ => .long
theorem mn_X : ∀ a, a < 7 → ∀ b, b < 7 → a ≠ b → (mT_X a).2.1 ≠ (mT_X b).2.1 := by decide +kernel
theorem mk_X : ∀ k, k < 7 → parseFieldDescriptor (mT_X k).2.2.1 = some (mt_X k) := by decide +kernel
theorem mh_X : ∀ w ∈ u_ws mR_X mT_X 7, w ∈ mx_T := by
  show ∀ w ∈ [u_lay mR_X mT_X 0, u_lay mR_X mT_X 1, u_lay mR_X mT_X 2, u_lay mR_X mT_X 3, u_lay mR_X mT_X 4, u_lay mR_X mT_X 5, u_lay mR_X mT_X 6], w ∈ mx_T
  exact List.forall_mem_cons.mpr ⟨mw_136, List.forall_mem_cons.mpr ⟨mw_138, List.forall_mem_cons.mpr ⟨mw_140, List.forall_mem_cons.mpr ⟨mw_142, List.forall_mem_cons.mpr ⟨mw_144, List.forall_mem_cons.mpr ⟨mw_146, List.forall_mem_cons.mpr ⟨mw_148, fun _ h => absurd h List.not_mem_nil⟩⟩⟩⟩⟩⟩⟩
def mR_R : String := "MessageCrossbarModel"
def mT_R : u_T := fun k => match k with
  | 0 => ("MessageCrossbarModel", "code", "I", false)
  | 1 => ("MessageCrossbarModel", "stands", "[I", true)
  | 2 => ("MessageCrossbarModel", "since", "[I", true)
  | 3 => ("MessageCrossbarModel", "sort", "[I", true)
  | 4 => ("MessageCrossbarModel", "size", "[I", true)
  | 5 => ("MessageCrossbarModel", "address", "[I", true)
  | 6 => ("MessageCrossbarModel", "bytes", "[J", true)
  | 7 => ("MessageCrossbarModel", "mask", "[I", true)
  | 8 => ("MessageCrossbarModel", "id", "[I", true)
  | 9 => ("MessageCrossbarModel", "moves", "I", false)
  | 10 => ("MessageCrossbarModel", "refuses", "[Z", true)
  | 11 => ("MessageCrossbarModel", "portInTurn", "[I", true)
  | 12 => ("MessageCrossbarModel", "masterInTurn", "[I", true)
  | 13 => ("MessageCrossbarModel", "left", "[I", true)
  | 14 => ("MessageCrossbarModel", "jobs", "[I", true)
  | 15 => ("MessageCrossbarModel", "memory", "[I", true)
  | 16 => ("MessageCrossbarModel", "log", "[I", true)
  | 17 => ("MessageCrossbarModel", "counts", "[I", true)
  | 18 => ("MessageCrossbarModel", "latest", "J", false)
  | _ => ("MessageCrossbarModel", "moved", "Z", false)
def mt_R : Nat → FieldType := fun k => match k with
  | 0 => .int
  | 1 => .array .int
  | 2 => .array .int
  | 3 => .array .int
  | 4 => .array .int
  | 5 => .array .int
  | 6 => .array .long
  | 7 => .array .int
  | 8 => .array .int
  | 9 => .int
  | 10 => .array .boolean
  | 11 => .array .int
  | 12 => .array .int
  | 13 => .array .int
  | 14 => .array .int
  | 15 => .array .int
  | 16 => .array .int
  | 17 => .array .int
  | 18 => .long
  | _ => .boolean
theorem mn_R : ∀ a, a < 20 → ∀ b, b < 20 → a ≠ b → (mT_R a).2.1 ≠ (mT_R b).2.1 := by decide +kernel
theorem mk_R : ∀ k, k < 20 → parseFieldDescriptor (mT_R k).2.2.1 = some (mt_R k) := by decide +kernel
theorem mh_R : ∀ w ∈ u_ws mR_R mT_R 20, w ∈ mx_T := by
  show ∀ w ∈ [u_lay mR_R mT_R 0, u_lay mR_R mT_R 1, u_lay mR_R mT_R 2, u_lay mR_R mT_R 3, u_lay mR_R mT_R 4, u_lay mR_R mT_R 5, u_lay mR_R mT_R 6, u_lay mR_R mT_R 7, u_lay mR_R mT_R 8, u_lay mR_R mT_R 9, u_lay mR_R mT_R 10, u_lay mR_R mT_R 11, u_lay mR_R mT_R 12, u_lay mR_R mT_R 13, u_lay mR_R mT_R 14, u_lay mR_R mT_R 15, u_lay mR_R mT_R 16, u_lay mR_R mT_R 17, u_lay mR_R mT_R 18, u_lay mR_R mT_R 19], w ∈ mx_T
  exact List.forall_mem_cons.mpr ⟨mw_492, List.forall_mem_cons.mpr ⟨mw_494, List.forall_mem_cons.mpr ⟨mw_496, List.forall_mem_cons.mpr ⟨mw_498, List.forall_mem_cons.mpr ⟨mw_500, List.forall_mem_cons.mpr ⟨mw_502, List.forall_mem_cons.mpr ⟨mw_504, List.forall_mem_cons.mpr ⟨mw_506, List.forall_mem_cons.mpr ⟨mw_508, List.forall_mem_cons.mpr ⟨mw_510, List.forall_mem_cons.mpr ⟨mw_512, List.forall_mem_cons.mpr ⟨mw_514, List.forall_mem_cons.mpr ⟨mw_516, List.forall_mem_cons.mpr ⟨mw_518, List.forall_mem_cons.mpr ⟨mw_520, List.forall_mem_cons.mpr ⟨mw_522, List.forall_mem_cons.mpr ⟨mw_524, List.forall_mem_cons.mpr ⟨mw_526, List.forall_mem_cons.mpr ⟨mw_528, List.forall_mem_cons.mpr ⟨mw_530, fun _ h => absurd h List.not_mem_nil⟩⟩⟩⟩⟩⟩⟩⟩⟩⟩⟩⟩⟩⟩⟩⟩⟩⟩⟩⟩
abbrev mx_cl : List vw_C := [(mR_L, mT_L, 2), (mR_M, mT_M, 5), (mR_G, mT_G, 5), (mR_P, mT_P, 7), (mR_X, mT_X, 7), (mR_R, mT_R, 20)]
/-! words of a callee among a caller's: all have the same list behind their own code -/
theorem mx_one {w : Cond} (h : w ∈ mx_T) : w ∈ mx_T ∧ ((w.onTables && w.keeps) = true ∨ ∃ ty, w = .arrayClass ty) := ⟨h, good_of_word (List.mem_filter.mp h).2⟩
theorem mx_good {c : Cond} (h : c ∈ mx_T) : GoodIn mx_T (c :: mx_T) := fun w hw => (List.mem_cons.mp hw).elim (fun e => by rw [e]; exact mx_one h) mx_one
theorem mx_gV {own C : String} {idx : Nat} {y : MethodName} {c : Cond} (h1 : Cond.methodLink own idx y ∈ mx_T) (h2 : Cond.instanceMethod y ∈ mx_T) (h3 : Cond.selects C y y ∈ mx_T) (h4 : Cond.initialized C ∈ mx_T) (h : c ∈ mx_T) : GoodIn mx_T (wsV own idx C y (c :: mx_T)) := by
  intro w hw
  unfold wsV at hw
  rcases List.mem_append.mp hw with hw | hw
  · simp only [List.mem_cons, List.not_mem_nil, or_false] at hw
    rcases hw with rfl | rfl | rfl | rfl
    · exact mx_one h1
    · exact mx_one h2
    · exact mx_one h3
    · exact mx_one h4
  · exact mx_good h w hw
theorem mx_gS {own : String} {idx : Nat} {y : MethodName} {c : Cond} (h1 : Cond.methodLink own idx y ∈ mx_T) (h2 : Cond.static y ∈ mx_T) (h4 : Cond.initialized own ∈ mx_T) (h : c ∈ mx_T) : GoodIn mx_T (wsS own idx y (c :: mx_T)) := by
  intro w hw
  unfold wsS at hw
  rcases List.mem_append.mp hw with hw | hw
  · simp only [List.mem_cons, List.not_mem_nil, or_false] at hw
    rcases hw with rfl | rfl | rfl
    · exact mx_one h1
    · exact mx_one h2
    · exact mx_one h4
  · exact mx_good h w hw
end
section
/-! worlds that are laid out by a table: cell j lies at 'ad j' and holds 'E σ τ j' (σ: ints by cell and place, τ: longs) -/
abbrev gx_L : Type := (Nat → Nat → Int32) → (Nat → Nat → Int64) → Nat → va_E
abbrev gx_U : Type := (Nat → Nat → Int32) × (Nat → Nat → Int64)
def gx_ws (E : gx_L) (ad : Nat → Nat) (N : Nat) (σ : Nat → Nat → Int32) (τ : Nat → Nat → Int64) : va_W := (List.range N).map fun j => (ad j, E σ τ j)
def gx_loc (E : gx_L) : Prop := ∀ (σ σ' : Nat → Nat → Int32) (τ τ' : Nat → Nat → Int64) (i : Nat), σ i = σ' i → τ i = τ' i → E σ τ i = E σ' τ' i
def gx_A (ad : Nat → Nat) (N : Nat) : Nat → Prop := fun q => ∃ j : Nat, j < N ∧ q = ad j
def gx_inj (ad : Nat → Nat) (N : Nat) : Prop := ∀ i j : Nat, i < N → j < N → ad i = ad j → i = j
def gx_V (D : va_G) (cl : List vw_C) (tys : List (ClassId × FieldType)) (E : gx_L) (ad : Nat → Nat) (N : Nat) (σ : Nat → Nat → Int32) (τ : Nat → Nat → Int64) (U : State) (H : Heap) : Prop := va_P D cl (gx_ws E ad N σ τ) H ∧ va_K D cl tys U ∧ gx_inj ad N
def gx_P (D : va_G) (cl : List vw_C) (tys : List (ClassId × FieldType)) (E : gx_L) (ad : Nat → Nat) (N : Nat) (Z : State → Heap → Prop) (σ : Nat → Nat → Int32) (τ : Nat → Nat → Int64) (U : State) : Prop := gx_V D cl tys E ad N σ τ U U.heap ∧ Z U U.heap
def gx_B (D : va_G) (cl : List vw_C) (E : gx_L) (ad : Nat → Nat) (N : Nat) (u : gx_U) (t : State) : Prop := va_P D cl (gx_ws E ad N u.1 u.2) t.heap
def gx_ok (A : Nat → Prop) (Z : State → Heap → Prop) : Prop := ∀ (U U' : State) (H H' : Heap), U.WarmedH U'.vm → (∀ q : Nat, q < H.size → ¬ A q → H'[q]? = H[q]?) → Z U H → Z U' H'
def gx_upL (τ : Nat → Nat → Int64) (j k : Nat) (v : Int64) : Nat → Nat → Int64 := fun i q => if i = j ∧ q = k then v else τ i q
theorem gx_upL_s {τ : Nat → Nat → Int64} {j k : Nat} {v : Int64} : gx_upL τ j k v j k = v := by simp [gx_upL]
theorem gx_upL_J {τ : Nat → Nat → Int64} {j k i : Nat} {v : Int64} (h : i ≠ j) : gx_upL τ j k v i = τ i := by funext q; simp [gx_upL, h]
section GXA
variable {E : gx_L} {ad : Nat → Nat} {N : Nat} {σ σ' : Nat → Nat → Int32} {τ τ' : Nat → Nat → Int64}
theorem gx_at {j : Nat} (hj : j < N) {e : va_E} (he : E σ τ j = e) : (gx_ws E ad N σ τ)[j]? = some (ad j, e) := by
  unfold gx_ws
  rw [List.getElem?_map, List.getElem?_range hj, ← he]
  rfl
theorem gx_of {k : Nat} {q : Nat × va_E} (h : (gx_ws E ad N σ τ)[k]? = some q) : k < N ∧ q = (ad k, E σ τ k) := by
  unfold gx_ws at h
  have hk : k < N := by
    have := (List.getElem?_eq_some_iff.mp h).1
    simpa using this
  rw [List.getElem?_map, List.getElem?_range hk] at h
  exact ⟨hk, (Option.some.inj h).symm⟩
theorem gx_len : (gx_ws E ad N σ τ).length = N := by simp [gx_ws]
theorem gx_set (hE : gx_loc E) {j : Nat} (hj : j < N) {e : va_E} (he : E σ' τ' j = e) (h1 : ∀ i, i ≠ j → σ' i = σ i) (h2 : ∀ i, i ≠ j → τ' i = τ i) : (gx_ws E ad N σ τ).set j (ad j, e) = gx_ws E ad N σ' τ' := by
  apply List.ext_getElem?
  intro i
  by_cases hi : i = j
  · subst hi
    rw [List.getElem?_set_self (by rw [gx_len]; exact hj), gx_at hj he]
  · rw [List.getElem?_set_ne (Ne.symm hi)]
    by_cases hN : i < N
    · rw [gx_at hN rfl, gx_at hN rfl, hE σ σ' τ τ' i (h1 i hi).symm (h2 i hi).symm]
    · rw [List.getElem?_eq_none (by rw [gx_len]; omega), List.getElem?_eq_none (by rw [gx_len]; omega)]
theorem gx_D (h : gx_inj ad N) : va_D (gx_A ad N) (gx_ws E ad N σ τ) := by
  refine ⟨fun i j p q hp hq e => ?_, fun k q hk => ?_⟩
  · obtain ⟨a1, rfl⟩ := gx_of hp
    obtain ⟨a2, rfl⟩ := gx_of hq
    exact h i j a1 a2 e
  · obtain ⟨a1, rfl⟩ := gx_of hk
    exact ⟨k, a1, rfl⟩
end GXA
section GXR
variable {p : Program} {l : Launch} {e : Env} {R : Room} {s : State} {m : MethodId} {args : Array Value} {below : List Frame} {meth : Method} {c : Code} {H : Heap} {locs : List Loc} {cells slots : Nat} {Q : State → Prop}
variable {cc : ByteArray} {pc : Nat} {ls : Array Slot} {rest : List Value} {D : va_G} {cl : List vw_C} {tys : List (ClassId × FieldType)}
variable {E : gx_L} {ad : Nat → Nat} {N : Nat} {σ : Nat → Nat → Int32} {τ : Nat → Nat → Int64} {Z : State → Heap → Prop}
theorem gx_get (hexec : p.tables.exec = Jvm.exec) (hb : c.code = cc) {own ref C : String} {T : u_T} {N' ci index : Nat} {Ts : List Cond} (hts : ∀ w ∈ Ts, w.before args s = true) (hin : ∀ w ∈ u_ws C T N', w ∈ Ts) (hown : s.vm.findClass own = some m.cls) (hV : gx_V D cl tys E ad N σ τ s H) {j : Nat} (hj : j < N) {fs : List Value} (he : E σ τ j = .inr (ci, fs)) (hc : cl[ci]? = some (C, T, N')) (k : Nat) (hk : k < N') (hlink : (Cond.fieldLink own index ref (T k).2.1 (T k).2.2.1).before args s = true) (hsame : ∀ x, s.fieldFound? (T k).1 (T k).2.1 (T k).2.2.1 = some x → s.fieldFound? ref (T k).2.1 (T k).2.2.1 = some x) {v : Value} (hv : fs[k]? = some v) (hdg : decode cc pc = .ok (.getfield index, 3))
    (kk : W p l e R s m args below meth c H locs cells slots Q (F0 m (pc + 3) ls (v :: rest))) : W p l e R s m args below meth c H locs cells slots Q (F0 m pc ls (.ref (ad j) :: rest)) :=
  va_get hexec hb hts hin hown hV.2.1 hV.1 j (gx_at hj he) hc k hk hlink hsame hv hdg kk
theorem gx_put (hE : gx_loc E) (hexec : p.tables.exec = Jvm.exec) (hb : c.code = cc) {own ref C : String} {T : u_T} {N' ci index : Nat} {Ts : List Cond} (hts : ∀ w ∈ Ts, w.before args s = true) (hin : ∀ w ∈ u_ws C T N', w ∈ Ts) (ty0 : Nat → FieldType) (hty : ∀ k, k < N' → parseFieldDescriptor (T k).2.2.1 = some (ty0 k)) (hnm : ∀ a, a < N' → ∀ b, b < N' → a ≠ b → (T a).2.1 ≠ (T b).2.1) (hown : s.vm.findClass own = some m.cls) (hV : gx_V D cl tys E ad N σ τ s H) (hS : va_S (gx_A ad N) s.heap H locs) {j : Nat} (hj : j < N) {fs : List Value} (he : E σ τ j = .inr (ci, fs)) (hc : cl[ci]? = some (C, T, N')) (k : Nat) (hk : k < N') (hlink : (Cond.fieldLink own index ref (T k).2.1 (T k).2.2.1).before args s = true) (hsame : ∀ x, s.fieldFound? (T k).1 (T k).2.1 (T k).2.2.1 = some x → s.fieldFound? ref (T k).2.1 (T k).2.2.1 = some x) (hfin : (T k).2.2.2 = false) {ty : FieldType} {v : Value} (hd : parseFieldDescriptor (T k).2.2.1 = some ty) (hn : narrow ty v = v) (hfit : fits ty v = true) (hl : k < fs.length)
    (hdg : decode cc pc = .ok (.putfield index, 3)) (σ' : Nat → Nat → Int32) (τ' : Nat → Nat → Int64) (he' : E σ' τ' j = .inr (ci, fs.set k v)) (h1 : ∀ i, i ≠ j → σ' i = σ i) (h2 : ∀ i, i ≠ j → τ' i = τ i)
    (kk : ∀ (H1 : Heap) (locs1 : List Loc), gx_V D cl tys E ad N σ' τ' s H1 → va_S (gx_A ad N) s.heap H1 locs1 → W p l e R s m args below meth c H1 locs1 cells slots Q (F0 m (pc + 3) ls rest)) : W p l e R s m args below meth c H locs cells slots Q (F0 m pc ls (v :: .ref (ad j) :: rest)) :=
  va_put hexec hb hts hin ty0 hty hnm hown hV.2.1 hV.1 (gx_D hV.2.2) hS j (gx_at hj he) hc k hk hlink hsame hfin hd hn hfit hl hdg (fun H1 locs1 hP1 _ hS1 => kk H1 locs1 ⟨by rw [gx_set hE hj he' h1 h2] at hP1; exact hP1, hV.2.1, hV.2.2⟩ hS1)
theorem gx_ia {x : Int32} {k n : Nat} (hk : k < n) (hn : n < 2 ^ 31) (hi : x = nI k) : vp_in x n ∧ x.toNatClampNeg = k := by
  subst hi
  exact ⟨vp_in_nI hk hn, nI_clamp (by omega)⟩
theorem gx_iald (hexec : p.tables.exec = Jvm.exec) (hb : c.code = cc) (hV : gx_V D cl tys E ad N σ τ s H) {j : Nat} (hj : j < N) (t0 : Nat) {cA : ClassId} {n : Nat} {f : Nat → Int32} (he : E σ τ j = .inl (cA, n, .inl f)) (ht : tys[t0]? = some (cA, .int)) {i : Int32} (k : Nat) (hk : k < n) (hn : n < 2 ^ 31) (hi : i = nI k) (hdg : decode cc pc = .ok (.iaload, 1))
    (kk : W p l e R s m args below meth c H locs cells slots Q (F0 m (pc + 1) ls (.int (f k) :: rest))) : W p l e R s m args below meth c H locs cells slots Q (F0 m pc ls (.int i :: .ref (ad j) :: rest)) := by
  obtain ⟨h1, h2⟩ := gx_ia hk hn hi
  exact va_iald hexec hb hV.2.1 hV.1 j t0 (gx_at hj he) ht h1 hdg (by rw [h2]; exact kk)
theorem gx_bald (hexec : p.tables.exec = Jvm.exec) (hb : c.code = cc) (hV : gx_V D cl tys E ad N σ τ s H) {j : Nat} (hj : j < N) (t0 : Nat) {cA : ClassId} {n : Nat} {f : Nat → Int32} (he : E σ τ j = .inl (cA, n, .inl f)) (ht : tys[t0]? = some (cA, .byte)) {i : Int32} (k : Nat) (hk : k < n) (hn : n < 2 ^ 31) (hi : i = nI k) (hdg : decode cc pc = .ok (.baload, 1))
    (kk : W p l e R s m args below meth c H locs cells slots Q (F0 m (pc + 1) ls (.int (f k) :: rest))) : W p l e R s m args below meth c H locs cells slots Q (F0 m pc ls (.int i :: .ref (ad j) :: rest)) := by
  obtain ⟨h1, h2⟩ := gx_ia hk hn hi
  exact va_bald hexec hb hV.2.1 hV.1 j t0 (gx_at hj he) ht h1 hdg (by rw [h2]; exact kk)
theorem gx_zald (hexec : p.tables.exec = Jvm.exec) (hb : c.code = cc) (hV : gx_V D cl tys E ad N σ τ s H) {j : Nat} (hj : j < N) (t0 : Nat) {cA : ClassId} {n : Nat} {f : Nat → Int32} (he : E σ τ j = .inl (cA, n, .inl f)) (ht : tys[t0]? = some (cA, .boolean)) {i : Int32} (k : Nat) (hk : k < n) (hn : n < 2 ^ 31) (hi : i = nI k) (hdg : decode cc pc = .ok (.baload, 1))
    (kk : W p l e R s m args below meth c H locs cells slots Q (F0 m (pc + 1) ls (.int (f k) :: rest))) : W p l e R s m args below meth c H locs cells slots Q (F0 m pc ls (.int i :: .ref (ad j) :: rest)) := by
  obtain ⟨h1, h2⟩ := gx_ia hk hn hi
  exact va_zald hexec hb hV.2.1 hV.1 j t0 (gx_at hj he) ht h1 hdg (by rw [h2]; exact kk)
theorem gx_lald (hexec : p.tables.exec = Jvm.exec) (hb : c.code = cc) (hV : gx_V D cl tys E ad N σ τ s H) {j : Nat} (hj : j < N) (t0 : Nat) {cA : ClassId} {n : Nat} {f : Nat → Int64} (he : E σ τ j = .inl (cA, n, .inr (.inl f))) (ht : tys[t0]? = some (cA, .long)) {i : Int32} (k : Nat) (hk : k < n) (hn : n < 2 ^ 31) (hi : i = nI k) (hdg : decode cc pc = .ok (.laload, 1))
    (kk : W p l e R s m args below meth c H locs cells slots Q (F0 m (pc + 1) ls (.long (f k) :: rest))) : W p l e R s m args below meth c H locs cells slots Q (F0 m pc ls (.int i :: .ref (ad j) :: rest)) := by
  obtain ⟨h1, h2⟩ := gx_ia hk hn hi
  exact va_lald hexec hb hV.2.1 hV.1 j t0 (gx_at hj he) ht h1 hdg (by rw [h2]; exact kk)
theorem gx_aald (hexec : p.tables.exec = Jvm.exec) (hb : c.code = cc) (hV : gx_V D cl tys E ad N σ τ s H) {j : Nat} (hj : j < N) (t0 : Nat) {cA : ClassId} {C : String} {n a : Nat} {f : Nat → Option Nat} (he : E σ τ j = .inl (cA, n, .inr (.inr (.inr (.inr f))))) (ht : tys[t0]? = some (cA, .object C)) {i : Int32} (k : Nat) (hk : k < n) (hn : n < 2 ^ 31) (hi : i = nI k) (hf : f k = some a) (hdg : decode cc pc = .ok (.aaload, 1))
    (kk : W p l e R s m args below meth c H locs cells slots Q (F0 m (pc + 1) ls (.ref a :: rest))) : W p l e R s m args below meth c H locs cells slots Q (F0 m pc ls (.int i :: .ref (ad j) :: rest)) := by
  obtain ⟨h1, h2⟩ := gx_ia hk hn hi
  exact va_aldq hexec hb hV.2.1 hV.1 j t0 (gx_at hj he) ht h1 hdg (by rw [h2, hf]; exact kk)
theorem gx_alen (hexec : p.tables.exec = Jvm.exec) (hb : c.code = cc) (hV : gx_V D cl tys E ad N σ τ s H) {j : Nat} (hj : j < N) (t0 : Nat) {cA : ClassId} {x : vp_A} (he : E σ τ j = .inl (cA, x)) {ty : FieldType} (ht : tys[t0]? = some (cA, ty)) {v : Int32} (hv : Int32.ofNat x.1 = v) (hdg : decode cc pc = .ok (.arraylength, 1))
    (kk : W p l e R s m args below meth c H locs cells slots Q (F0 m (pc + 1) ls (.int v :: rest))) : W p l e R s m args below meth c H locs cells slots Q (F0 m pc ls (.ref (ad j) :: rest)) :=
  va_alen hexec hb hV.2.1 hV.1 j t0 (gx_at hj he) ht hv hdg kk
theorem gx_iast (hE : gx_loc E) (hexec : p.tables.exec = Jvm.exec) (hb : c.code = cc) (hV : gx_V D cl tys E ad N σ τ s H) (hS : va_S (gx_A ad N) s.heap H locs) {j : Nat} (hj : j < N) (t0 : Nat) {cA : ClassId} {n : Nat} {f : Nat → Int32} (he : E σ τ j = .inl (cA, n, .inl f)) (ht : tys[t0]? = some (cA, .int)) {i x : Int32} (k : Nat) (hk : k < n) (hn : n < 2 ^ 31) (hi : i = nI k) (hdg : decode cc pc = .ok (.iastore, 1))
    (σ' : Nat → Nat → Int32) (he' : E σ' τ j = .inl (cA, n, .inl (upd f k x))) (h1 : ∀ i, i ≠ j → σ' i = σ i)
    (kk : ∀ (H1 : Heap) (locs1 : List Loc), gx_V D cl tys E ad N σ' τ s H1 → va_S (gx_A ad N) s.heap H1 locs1 → W p l e R s m args below meth c H1 locs1 cells slots Q (F0 m (pc + 1) ls rest)) : W p l e R s m args below meth c H locs cells slots Q (F0 m pc ls (.int x :: .int i :: .ref (ad j) :: rest)) := by
  obtain ⟨g1, g2⟩ := gx_ia hk hn hi
  exact va_iast hexec hb hV.2.1 hV.1 (gx_D hV.2.2) hS j t0 (gx_at hj he) ht g1 hdg (fun H1 locs1 hP1 _ hS1 => kk H1 locs1 ⟨by rw [g2, gx_set hE hj he' h1 (fun _ _ => rfl)] at hP1; exact hP1, hV.2.1, hV.2.2⟩ hS1)
theorem gx_bast (hE : gx_loc E) (hexec : p.tables.exec = Jvm.exec) (hb : c.code = cc) (hV : gx_V D cl tys E ad N σ τ s H) (hS : va_S (gx_A ad N) s.heap H locs) {j : Nat} (hj : j < N) (t0 : Nat) {cA : ClassId} {n : Nat} {f : Nat → Int32} (he : E σ τ j = .inl (cA, n, .inl f)) (ht : tys[t0]? = some (cA, .byte)) {i x : Int32} (k : Nat) (hk : k < n) (hn : n < 2 ^ 31) (hi : i = nI k) (hdg : decode cc pc = .ok (.bastore, 1))
    (σ' : Nat → Nat → Int32) (he' : E σ' τ j = .inl (cA, n, .inl (upd f k (vp_nar .byte x)))) (h1 : ∀ i, i ≠ j → σ' i = σ i)
    (kk : ∀ (H1 : Heap) (locs1 : List Loc), gx_V D cl tys E ad N σ' τ s H1 → va_S (gx_A ad N) s.heap H1 locs1 → W p l e R s m args below meth c H1 locs1 cells slots Q (F0 m (pc + 1) ls rest)) : W p l e R s m args below meth c H locs cells slots Q (F0 m pc ls (.int x :: .int i :: .ref (ad j) :: rest)) := by
  obtain ⟨g1, g2⟩ := gx_ia hk hn hi
  exact va_bast hexec hb hV.2.1 hV.1 (gx_D hV.2.2) hS j t0 (gx_at hj he) ht g1 hdg (fun H1 locs1 hP1 _ hS1 => kk H1 locs1 ⟨by rw [g2, gx_set hE hj he' h1 (fun _ _ => rfl)] at hP1; exact hP1, hV.2.1, hV.2.2⟩ hS1)
theorem gx_last (hE : gx_loc E) (hexec : p.tables.exec = Jvm.exec) (hb : c.code = cc) (hV : gx_V D cl tys E ad N σ τ s H) (hS : va_S (gx_A ad N) s.heap H locs) {j : Nat} (hj : j < N) (t0 : Nat) {cA : ClassId} {n : Nat} {f : Nat → Int64} (he : E σ τ j = .inl (cA, n, .inr (.inl f))) (ht : tys[t0]? = some (cA, .long)) {i : Int32} {x : Int64} (k : Nat) (hk : k < n) (hn : n < 2 ^ 31) (hi : i = nI k) (hdg : decode cc pc = .ok (.lastore, 1))
    (τ' : Nat → Nat → Int64) (he' : E σ τ' j = .inl (cA, n, .inr (.inl (vp_updL f k x)))) (h1 : ∀ i, i ≠ j → τ' i = τ i)
    (kk : ∀ (H1 : Heap) (locs1 : List Loc), gx_V D cl tys E ad N σ τ' s H1 → va_S (gx_A ad N) s.heap H1 locs1 → W p l e R s m args below meth c H1 locs1 cells slots Q (F0 m (pc + 1) ls rest)) : W p l e R s m args below meth c H locs cells slots Q (F0 m pc ls (.long x :: .int i :: .ref (ad j) :: rest)) := by
  obtain ⟨g1, g2⟩ := gx_ia hk hn hi
  exact va_last hexec hb hV.2.1 hV.1 (gx_D hV.2.2) hS j t0 (gx_at hj he) ht g1 hdg (fun H1 locs1 hP1 _ hS1 => kk H1 locs1 ⟨by rw [g2, gx_set hE hj he' (fun _ _ => rfl) h1] at hP1; exact hP1, hV.2.1, hV.2.2⟩ hS1)
/-! calls of a method of the same world -/
theorem gx_blind (hok : gx_ok (gx_A ad N) Z) (av : List Value) : FrameBlind (va_Pc av (gx_P D cl tys E ad N Z σ τ)) := fun a U g mk q => ⟨q.1, ⟨q.2.1.1, va_K.moved (u := U) (U := U.calling g mk a) (Vm.Alike.refl U.vm) q.2.1.2.1, q.2.1.2.2⟩, hok U (U.calling g mk a) U.heap U.heap (State.WarmedH.refl U) (fun _ _ _ => rfl) q.2.2⟩
theorem gx_into (hok : gx_ok (gx_A ad N) Z) (hV : gx_V D cl tys E ad N σ τ s H) (hZ : Z s s.heap) (hS : va_S (gx_A ad N) s.heap H locs) (U : State) (hU : U.heap = H) (hW : s.WarmedH U.vm) : gx_P D cl tys E ad N Z σ τ U :=
  ⟨⟨by rw [hU]; exact hV.1, va_K.moved hW.alike hV.2.1, hV.2.2⟩, by rw [hU]; exact hok s U s.heap H hW hS.2.1 hZ⟩
theorem gx_preV (hok : gx_ok (gx_A ad N) Z) (hV : gx_V D cl tys E ad N σ τ s H) (hZ : Z s s.heap) (hS : va_S (gx_A ad N) s.heap H locs) {j ci : Nat} {q : vw_C} {fs : List Value} (hj : j < N) (he : E σ τ j = .inr (ci, fs)) (hc : cl[ci]? = some q) (As : List Value) : PreV s H q.1 (ad j) (va_Pc (.ref (ad j) :: As) (gx_P D cl tys E ad N Z σ τ)) As :=
  ⟨gx_blind hok _, va_recv hV.2.1 hV.1 hc (gx_at hj he), fun U hU hW => ⟨rfl, gx_into hok hV hZ hS U hU hW⟩⟩
theorem gx_preS (hok : gx_ok (gx_A ad N) Z) (hV : gx_V D cl tys E ad N σ τ s H) (hZ : Z s s.heap) (hS : va_S (gx_A ad N) s.heap H locs) (As : List Value) : PreS s H (va_Pc As (gx_P D cl tys E ad N Z σ τ)) As :=
  ⟨gx_blind hok _, fun U hU hW => ⟨rfl, gx_into hok hV hZ hS U hU hW⟩⟩
variable {st0 : List Value} {a : Array Value}
theorem gx_calli {post : Int32 → gx_U → Prop} (hr : va_Run p l e R s m args below meth c H locs cells slots 0 0 (F0 m pc ls st0) rest (va_Qi post (gx_B D cl E ad N) (gx_A ad N) a) (gx_A ad N)) (hV : gx_V D cl tys E ad N σ τ s H) (hS : va_S (gx_A ad N) s.heap H locs)
    (kk : ∀ (r : Int32) (σ' : Nat → Nat → Int32) (τ' : Nat → Nat → Int64) (H1 : Heap) (locs1 : List Loc), post r (σ', τ') → gx_V D cl tys E ad N σ' τ' s H1 → va_S (gx_A ad N) s.heap H1 locs1 → W p l e R s m args below meth c H1 locs1 cells slots Q (F0 m (pc + 3) ls (.int r :: rest))) : W p l e R s m args below meth c H locs cells slots Q (F0 m pc ls st0) :=
  va_calli hr hS (fun _ _ h => h) (fun _ h => h) (fun r u t H1 locs1 ht _ hp hB _ _ hS1 => kk r u.1 u.2 H1 locs1 hp ⟨by rw [← ht]; exact hB, hV.2.1, hV.2.2⟩ hS1)
theorem gx_calll {post : Int64 → gx_U → Prop} (hr : va_Run p l e R s m args below meth c H locs cells slots 0 0 (F0 m pc ls st0) rest (va_Ql post (gx_B D cl E ad N) (gx_A ad N) a) (gx_A ad N)) (hV : gx_V D cl tys E ad N σ τ s H) (hS : va_S (gx_A ad N) s.heap H locs)
    (kk : ∀ (r : Int64) (σ' : Nat → Nat → Int32) (τ' : Nat → Nat → Int64) (H1 : Heap) (locs1 : List Loc), post r (σ', τ') → gx_V D cl tys E ad N σ' τ' s H1 → va_S (gx_A ad N) s.heap H1 locs1 → W p l e R s m args below meth c H1 locs1 cells slots Q (F0 m (pc + 3) ls (.long r :: rest))) : W p l e R s m args below meth c H locs cells slots Q (F0 m pc ls st0) :=
  va_calll hr hS (fun _ _ h => h) (fun _ h => h) (fun r u t H1 locs1 ht _ hp hB _ _ hS1 => kk r u.1 u.2 H1 locs1 hp ⟨by rw [← ht]; exact hB, hV.2.1, hV.2.2⟩ hS1)
theorem gx_callv {post : gx_U → Prop} (hr : va_Run p l e R s m args below meth c H locs cells slots 0 0 (F0 m pc ls st0) rest (va_Qv post (gx_B D cl E ad N) (gx_A ad N) a) (gx_A ad N)) (hV : gx_V D cl tys E ad N σ τ s H) (hS : va_S (gx_A ad N) s.heap H locs)
    (kk : ∀ (σ' : Nat → Nat → Int32) (τ' : Nat → Nat → Int64) (H1 : Heap) (locs1 : List Loc), post (σ', τ') → gx_V D cl tys E ad N σ' τ' s H1 → va_S (gx_A ad N) s.heap H1 locs1 → W p l e R s m args below meth c H1 locs1 cells slots Q (F0 m (pc + 3) ls rest)) : W p l e R s m args below meth c H locs cells slots Q (F0 m pc ls st0) :=
  va_callv hr hS (fun _ _ h => h) (fun _ h => h) (fun u t H1 locs1 ht _ hp hB _ _ hS1 => kk u.1 u.2 H1 locs1 hp ⟨by rw [← ht]; exact hB, hV.2.1, hV.2.2⟩ hS1)
/-- a call of a method that only counts: no cell is touched -/
theorem gx_callp {post : Int32 → Prop} (hr : va_Run p l e R s m args below meth c H locs cells slots 0 0 (F0 m pc ls st0) rest (va_Qi (fun r (_ : Unit) => post r) (fun _ _ => True) (fun _ => False) a) (fun _ => False)) (hV : gx_V D cl tys E ad N σ τ s H) (hS : va_S (gx_A ad N) s.heap H locs)
    (kk : ∀ (r : Int32) (H1 : Heap) (locs1 : List Loc), post r → gx_V D cl tys E ad N σ τ s H1 → va_S (gx_A ad N) s.heap H1 locs1 → W p l e R s m args below meth c H1 locs1 cells slots Q (F0 m (pc + 3) ls (.int r :: rest))) : W p l e R s m args below meth c H locs cells slots Q (F0 m pc ls st0) :=
  va_calli hr hS (fun _ _ h => h.elim) (fun _ h => h.elim) (fun r u t H1 locs1 _ _ hp _ _ hk hS1 => kk r H1 locs1 hp ⟨hV.1.kept (fun k q hq => hk q.1 ((hV.1 k q hq).lt) (fun z => z)), hV.2.1, hV.2.2⟩ hS1)
theorem gx_preP (As : List Value) : PreS s H (va_Pc As (fun _ => True)) As := ⟨fun _ _ _ _ q => ⟨q.1, trivial⟩, fun _ _ _ => ⟨rfl, trivial⟩⟩
end GXR
/-- a contract is opened: the machine, the code, the words, the world, the locals -/
theorem gx_met {l : Launch} {y : MethodName} {ws ws' : List Cond} {rm : Room} {av : List Value} {B : State → Prop} {Qc : Array Value → State → Outcome → State → Prop} {mc ms : Nat} {free : Addr → Prop} {cc : ByteArray} {maxL : Nat} {ret : Option FieldType}
    (hy : plainName y.cls = true) (hw : ws = Cond.code y cc maxL ret :: ws') (hlen : (lg_sl av).length ≤ maxL)
    (body : ∀ (p : Program) (e : Env) (s : State) (m : MethodId) (args : Array Value) (below : List Frame) (meth : Method) (c : Code) (ls : Array Slot), p.tables.exec = Jvm.exec → c.code = cc → meth.sig.returnType = ret → c.maxLocals = maxL → (∀ w ∈ ws', w.before args s = true) → s.vm.findClass y.cls = some m.cls → meth.locks = false → meth.name = y.name → args = av.toArray → B s → lv_has ls maxL (lv_args 0 av) →
      W p l e (headSpec ws rm).room s m args below meth c s.heap [] 0 0 (MQ below Qc args s mc ms free) (F0 m 0 ls [])) : Met l y ws rm (va_Pc av B) Qc mc ms free := by
  refine Met.ofW (cc := cc) (maxL := maxL) (ret := ret) hy hw ?_
  intro p e s m args below meth c s₁ B' hml hv
  obtain ⟨ha, hB⟩ := hv
  have hts := atoms_spec (ws := ws) B'.pre
  have hown : s.vm.findClass y.cls = some m.cls := findClass_of_methodNamed B'.named
  have hl := lv_entry av (n := maxL) hlen
  have hnm : meth.name = y.name := (name_of_methodNamed B'.named B'.method).1
  have hE : entryFrame m args maxL = F0 m 0 ((lg_sl av ++ List.replicate (maxL - (lg_sl av).length) Slot.unset).toArray) [] := by rw [ha]; exact lg_entry_eq m av maxL
  rw [hE]
  exact body p e s m args below meth c _ B'.exec B'.bytes B'.returns hml (fun w h => hts w (by rw [hw]; exact List.mem_cons_of_mem _ h)) hown B'.notSynchronized hnm ha hB hl
end
section
/-! what a state IS: the reference's numbers (cell, place), the class's ints (cell, place) and longs -/
def mq_up (ρ : Nat → Nat → Nat) (j k v : Nat) : Nat → Nat → Nat := fun i q => if i = j ∧ q = k then v else ρ i q
theorem mq_up_s {ρ : Nat → Nat → Nat} {j k v : Nat} : mq_up ρ j k v j k = v := by simp [mq_up]
theorem mq_up_j {ρ : Nat → Nat → Nat} {j k v i q : Nat} (h : i ≠ j) : mq_up ρ j k v i q = ρ i q := by simp [mq_up, h]
theorem mq_up_k {ρ : Nat → Nat → Nat} {j k v i q : Nat} (h : q ≠ k) : mq_up ρ j k v i q = ρ i q := by simp [mq_up, h]
/-- an int that may be none -/
def mq_oI (o : Option Nat) : Int32 := match o with
  | none => -1
  | some x => nI x
def mq_port (a : Nat) : Nat := if a < 256 then 0 else if a < 512 then 1 else if a < 640 then 2 else 3
def mq_width (p : Nat) : Nat := if p = 0 then 4 else if p = 1 then 1 else 8
def mq_delay (p : Nat) : Nat := if p = 0 then 2 else if p = 2 then 3 else 1
/-- message x stands at w with g: a master below 3, else port g - 3. Cells of the reference: 0 itself (places 0 code, 1 moves, 2 moved), 1 stands, 2 since, 3 sort, 4 size, 5 address, 7 mask, 8 id, 9 refuses, 10 portInTurn, 11 masterInTurn, 12 left, 13 jobs, 14 memory, 15 log, 16 counts -/
def mq_is (ρ : Nat → Nat → Nat) (w g x : Nat) : Bool := (ρ 1 x == w) && (if g < 3 then x / 8 == g else mq_port (ρ 5 x) + 3 == g)
def mq_cnt (p : Nat → Bool) : Nat → Nat
  | 0 => 0
  | n + 1 => mq_cnt p n + (if p n = true then 1 else 0)
def mq_fst (p : Nat → Bool) (s : Nat → Nat) : Nat → Option Nat
  | 0 => none
  | n + 1 => if (p n && (match mq_fst p s n with | none => true | some y => decide (s n < s y))) = true then some n else mq_fst p s n
def mq_fnd (p : Nat → Bool) : Nat → Nat → Option Nat
  | _, 0 => none
  | i, n + 1 => if p i = true then some i else mq_fnd p (i + 1) n
def mq_many (ρ : Nat → Nat → Nat) (w g : Nat) : Nat := mq_cnt (mq_is ρ w g) 24
def mq_first (ρ : Nat → Nat → Nat) (w g : Nat) : Option Nat := mq_fst (mq_is ρ w g) (ρ 2) 24
def mq_go (ρ : Nat → Nat → Nat) (x w : Nat) : Nat → Nat → Nat := mq_up (mq_up (mq_up (mq_up ρ 1 x w) 2 x (ρ 0 1)) 0 1 (ρ 0 1 + 1)) 0 2 1
def mq_hold (ρ : Nat → Nat → Nat) (p i x : Nat) : Bool := decide (2 ≤ ρ 1 x) && (decide (ρ 1 x ≤ 4) && ((mq_port (ρ 5 x) == p) && (ρ 8 x == i)))
def mq_holder (ρ : Nat → Nat → Nat) (p i : Nat) : Option Nat := mq_fnd (mq_hold ρ p i) 0 24
def mq_free (ρ : Nat → Nat → Nat) (p : Nat) : Option Nat := mq_fnd (fun i => (mq_holder ρ p i).isNone) 0 4
def mq_inc (ρ : Nat → Nat → Nat) (k : Nat) : Nat → Nat → Nat := mq_up ρ 16 k (ρ 16 k + 1)
def mq_ansK (ρ : Nat → Nat → Nat) (m k : Nat) : Bool := match mq_first ρ 4 (3 + (ρ 10 m + k) % 4) with
  | none => false
  | some x => x / 8 == m
def mq_ansM (ρ : Nat → Nat → Nat) (m p x : Nat) : Nat → Nat → Nat := mq_inc (mq_go (mq_up ρ 10 m ((p + 1) % 4)) x 5) 4
def mq_ansD (ρ : Nat → Nat → Nat) (m : Nat) : Option Nat := if ρ 9 m ≠ 0 ∨ 3 < mq_many ρ 5 m then none else mq_fnd (mq_ansK ρ m) 0 4
def mq_answers (ρ : Nat → Nat → Nat) (m : Nat) : Nat → Nat → Nat := match mq_ansD ρ m with
  | none => ρ
  | some k => mq_ansM ρ m ((ρ 10 m + k) % 4) ((mq_first ρ 4 (3 + (ρ 10 m + k) % 4)).getD 0)
def mq_reqK (ρ : Nat → Nat → Nat) (p k : Nat) : Bool := match mq_first ρ 1 ((ρ 11 p + k) % 3) with
  | none => false
  | some x => mq_port (ρ 5 x) == p
def mq_reqM (ρ : Nat → Nat → Nat) (p m x i : Nat) : Nat → Nat → Nat := mq_inc (mq_go (mq_up (mq_up ρ 11 p ((m + 1) % 3)) 8 x i) x 2) 2
def mq_reqD (ρ : Nat → Nat → Nat) (p : Nat) : Option Nat := if mq_free ρ p = none ∨ 1 < mq_many ρ 2 (3 + p) then none else mq_fnd (mq_reqK ρ p) 0 3
def mq_fetch (ρ : Nat → Nat → Nat) (p : Nat) : Nat → Nat → Nat := match mq_reqD ρ p with
  | none => ρ
  | some k => mq_reqM ρ p ((ρ 11 p + k) % 3) ((mq_first ρ 1 ((ρ 11 p + k) % 3)).getD 0) ((mq_free ρ p).getD 0)
/-- the bytes of a memory from a, n of them, as one number -/
def mq_got (bt : Nat → Nat) (a : Nat) : Nat → Nat
  | 0 => 0
  | n + 1 => mq_got bt a n + bt (a + n) * 256 ^ n
/-- byte k of a long -/
def mq_byte (d : Int64) (k : Nat) : Nat := d.toBitVec.toNat / 256 ^ k % 256
/-- n bytes of d come to the memory at a: all of them (sort 1), or those of the mask -/
def mq_wr (ρ : Nat → Nat → Nat) (so mk a : Nat) (d : Int64) : Nat → Nat → Nat → Nat
  | 0 => ρ
  | n + 1 => if so = 1 ∨ mk / 2 ^ n % 2 = 1 then mq_up (mq_wr ρ so mk a d n) 14 (a + n) (mq_byte d n) else mq_wr ρ so mk a d n
def mq_work (ρ : Nat → Nat → Nat) (d : Int64) (x : Nat) : (Nat → Nat → Nat) × Int64 :=
  if 640 ≤ ρ 5 x then (ρ, 0) else if ρ 3 x = 0 then (ρ, lN (mq_got (ρ 14) (ρ 5 x) (ρ 4 x))) else (mq_wr ρ (ρ 3 x) (ρ 7 x) (ρ 5 x) d (ρ 4 x), 0)
def mq_upL (μ : Nat → Int64) (x : Nat) (d : Int64) : Nat → Int64 := fun y => if y = x then d else μ y
def mq_begin (ρ : Nat → Nat → Nat) (p : Nat) : Nat → Nat → Nat := match mq_first ρ 2 (3 + p) with
  | none => ρ
  | some x => mq_go (mq_up ρ 12 p (mq_delay p + max 1 (ρ 4 x / mq_width p))) x 3
def mq_fin (ρ : Nat → Nat → Nat) (p x : Nat) : Nat → Nat → Nat :=
  let a := mq_go ρ x 4
  let b := mq_inc (mq_up a 15 (a 16 3 % 32) (64 * p + x)) 3
  mq_up b 13 p (b 13 p + 1)
/-- does port p finish its job, when its count stands as in ρ? -/
def mq_finD (ρ : Nat → Nat → Nat) (p : Nat) : Option Nat := if 0 < ρ 12 p ∨ 1 < mq_many ρ 4 (3 + p) then none else mq_first ρ 3 (3 + p)
def mq_cd (ρ : Nat → Nat → Nat) (p : Nat) : Nat → Nat → Nat := mq_up ρ 12 p (ρ 12 p - 1)
def mq_serve (ρ : Nat → Nat → Nat) (μ : Nat → Int64) (p : Nat) : (Nat → Nat → Nat) × (Nat → Int64) := match mq_first ρ 3 (3 + p) with
  | none => (mq_begin ρ p, μ)
  | some x => match mq_finD (mq_cd ρ p) p with
    | none => (mq_cd ρ p, μ)
    | some _ => (mq_begin (mq_fin (mq_work (mq_cd ρ p) (μ x) x).1 p x) p, mq_upL μ x (mq_work (mq_cd ρ p) (μ x) x).2)
def mq_ansN (ρ : Nat → Nat → Nat) : Nat → Nat → Nat → Nat
  | 0 => ρ
  | n + 1 => mq_answers (mq_ansN ρ n) n
def mq_srv (ρ : Nat → Nat → Nat) (μ : Nat → Int64) : Nat → (Nat → Nat → Nat) × (Nat → Int64)
  | 0 => (ρ, μ)
  | n + 1 => mq_serve (mq_srv ρ μ n).1 (mq_srv ρ μ n).2 n
def mq_ftc (ρ : Nat → Nat → Nat) : Nat → Nat → Nat → Nat
  | 0 => ρ
  | n + 1 => mq_fetch (mq_ftc ρ n) n
def mq_mid (ρ : Nat → Nat → Nat) (μ : Nat → Int64) : (Nat → Nat → Nat) × (Nat → Int64) := (mq_ftc (mq_srv (mq_ansN (mq_up ρ 0 2 0) 3) μ 4).1 4, (mq_srv (mq_ansN (mq_up ρ 0 2 0) 3) μ 4).2)
def mq_end (ρ : Nat → Nat → Nat) : Nat → Nat → Nat := mq_up (mq_inc ρ 0) 16 7 (ρ 16 7 + (if ρ 0 2 = 0 then 1 else 0))
def mq_tick1 (ρ : Nat → Nat → Nat) (μ : Nat → Int64) : (Nat → Nat → Nat) × (Nat → Int64) := (mq_end (mq_mid ρ μ).1, (mq_mid ρ μ).2)
def mq_tick (ρ : Nat → Nat → Nat) (μ : Nat → Int64) : Nat → (Nat → Nat → Nat) × (Nat → Int64)
  | 0 => (ρ, μ)
  | n + 1 => mq_tick1 (mq_tick ρ μ n).1 (mq_tick ρ μ n).2
/-- k ticks in which nothing moved are counted -/
def mq_bump (ρ : Nat → Nat → Nat) (k : Nat) : Nat → Nat → Nat := mq_up (mq_up ρ 16 0 (ρ 16 0 + k)) 16 7 (ρ 16 7 + k)
/-! the class: cells 0 itself, 1 masters, 2+5m master m, 3+5m waiting, 4+5m its keys, 5+5m box, 6+5m its keys, 17 ports, 18+6p port p, 19+6p requests, 20+6p keys, 21+6p answers, 22+6p keys, 23+6p owners, 42 messages, 43+x message x, 67 bytes, 68 log, 69 counts -/
def cx_up (σ : Nat → Nat → Int32) (j k : Nat) (v : Int32) : Nat → Nat → Int32 := fun i q => if i = j ∧ q = k then v else σ i q
theorem cx_up_s {σ : Nat → Nat → Int32} {j k : Nat} {v : Int32} : cx_up σ j k v j k = v := by simp [cx_up]
theorem cx_up_j {σ : Nat → Nat → Int32} {j k i q : Nat} {v : Int32} (h : i ≠ j) : cx_up σ j k v i q = σ i q := by simp [cx_up, h]
theorem cx_up_k {σ : Nat → Nat → Int32} {j k i q : Nat} {v : Int32} (h : q ≠ k) : cx_up σ j k v i q = σ i q := by simp [cx_up, h]
theorem cx_up_J {σ : Nat → Nat → Int32} {j k i : Nat} {v : Int32} (h : i ≠ j) : cx_up σ j k v i = σ i := by funext q; exact cx_up_j h
/-- lines: a line at cell l holds its size at place 1, its keys in cell l + 1 -/
def cx_app (σ : Nat → Nat → Int32) (l n : Nat) (key : Int32) : Nat → Nat → Int32 := cx_up (cx_up σ (l + 1) n key) l 1 (nI (n + 1))
/-- the first i keys moved one place down -/
def cx_sh (σ : Nat → Nat → Int32) (l i : Nat) : Nat → Nat → Int32 := fun j k => if j = l + 1 ∧ k < i then σ (l + 1) (k + 1) else σ j k
def cx_rem (σ : Nat → Nat → Int32) (l n : Nat) : Nat → Nat → Int32 := cx_sh (cx_up σ l 1 (nI n)) l n
def cx_ln (σ : Nat → Nat → Int32) (l : Nat) (xs : List Nat) : Prop := σ l 1 = nI xs.length ∧ ∀ (i x : Nat), xs[i]? = some x → σ (l + 1) i = nI x
theorem cx_ln.first {σ : Nat → Nat → Int32} {l x : Nat} {t : List Nat} (h : cx_ln σ l (x :: t)) : σ (l + 1) 0 = nI x := h.2 0 x rfl
theorem cx_ln.app {σ : Nat → Nat → Int32} {l : Nat} {xs : List Nat} (h : cx_ln σ l xs) (x : Nat) : cx_ln (cx_app σ l xs.length (nI x)) l (xs ++ [x]) := by
  refine ⟨?_, fun i y hy => ?_⟩
  · rw [List.length_append]
    exact cx_up_s
  · unfold cx_app
    rw [cx_up_j (by omega)]
    by_cases hi : i < xs.length
    · rw [List.getElem?_append_left hi] at hy
      rw [cx_up_k (by omega)]
      exact h.2 i y hy
    · rw [List.getElem?_append_right (by omega)] at hy
      have h1 : i - xs.length < 1 := by
        have := (List.getElem?_eq_some_iff.mp hy).1
        simpa using this
      have h2 : i = xs.length := by omega
      subst h2
      rw [Nat.sub_self] at hy
      cases hy
      exact cx_up_s
theorem cx_ln.rem {σ : Nat → Nat → Int32} {l x : Nat} {t : List Nat} (h : cx_ln σ l (x :: t)) : cx_ln (cx_rem σ l t.length) l t := by
  refine ⟨?_, fun i y hy => ?_⟩
  · unfold cx_rem cx_sh
    rw [if_neg (by omega)]
    exact cx_up_s
  · have hi := (List.getElem?_eq_some_iff.mp hy).1
    unfold cx_rem cx_sh
    rw [if_pos ⟨rfl, hi⟩, cx_up_j (by omega)]
    exact h.2 (i + 1) y (by simpa using hy)
theorem cx_app_n {σ : Nat → Nat → Int32} {l n j : Nat} {key : Int32} (h1 : j ≠ l) (h2 : j ≠ l + 1) : cx_app σ l n key j = σ j := by
  unfold cx_app
  rw [cx_up_J h1, cx_up_J h2]
theorem cx_rem_n {σ : Nat → Nat → Int32} {l n j : Nat} (h1 : j ≠ l) (h2 : j ≠ l + 1) : cx_rem σ l n j = σ j := by
  funext q
  unfold cx_rem cx_sh
  rw [if_neg (by omega), cx_up_J h1]
theorem cx_ln.keep {σ σ' : Nat → Nat → Int32} {l : Nat} {xs : List Nat} (h : cx_ln σ l xs) (h1 : σ' l 1 = σ l 1) (h2 : σ' (l + 1) = σ (l + 1)) : cx_ln σ' l xs := ⟨h1.trans h.1, fun i x hx => by rw [h2]; exact h.2 i x hx⟩
def cx_wr (σ : Nat → Nat → Int32) (so mk a : Nat) (d : Int64) : Nat → Nat → Nat → Int32
  | 0 => σ
  | n + 1 => if so = 1 ∨ mk / 2 ^ n % 2 = 1 then cx_up (cx_wr σ so mk a d n) 67 (a + n) (nI (mq_byte d n)).toInt8.toInt32 else cx_wr σ so mk a d n
theorem cx_wr_n {σ : Nat → Nat → Int32} {so mk a n j : Nat} {d : Int64} (h : j ≠ 67) : cx_wr σ so mk a d n j = σ j := by
  induction n with
  | zero => rfl
  | succ n ih =>
    unfold cx_wr
    split
    · rw [cx_up_J h, ih]
    · exact ih
theorem mq_wr_n {ρ : Nat → Nat → Nat} {so mk a n j q : Nat} {d : Int64} (h : j ≠ 14) : mq_wr ρ so mk a d n j q = ρ j q := by
  induction n with
  | zero => rfl
  | succ n ih =>
    unfold mq_wr
    split
    · rw [mq_up_j h, ih]
    · exact ih
theorem cx_up_same {σ : Nat → Nat → Int32} {j k : Nat} {v : Int32} (h : σ j k = v) : cx_up σ j k v = σ := by
  funext i q
  unfold cx_up
  split
  · next e => rw [e.1, e.2, h]
  · rfl
theorem cx_up_upd {σ : Nat → Nat → Int32} {j k : Nat} {v : Int32} : cx_up σ j k v j = upd (σ j) k v := by
  funext q
  simp [cx_up, upd]
end
section
/-! pure rows: counting, the first by its time, places -/
theorem mq_cnt_len {p : Nat → Bool} : ∀ (n : Nat) (xs : List Nat), xs.Nodup → (∀ x, x ∈ xs ↔ x < n ∧ p x = true) → mq_cnt p n = xs.length := by
  intro n
  induction n with
  | zero =>
    intro xs _ h
    cases xs with
    | nil => rfl
    | cons a t =>
      have h1 := (h a).mp (by simp)
      omega
  | succ n ih =>
    intro xs nd h
    by_cases hp : p n = true
    · have hm : n ∈ xs := (h n).mpr ⟨by omega, hp⟩
      have h2 := ih (xs.erase n) (nd.erase n) (fun x => by
        rw [nd.mem_erase_iff, h x]
        constructor
        · rintro ⟨a, b, c⟩
          exact ⟨by omega, c⟩
        · rintro ⟨a, b⟩
          exact ⟨by omega, by omega, b⟩)
      have hl := List.length_erase_of_mem hm
      have hpos : 0 < xs.length := List.length_pos_of_mem hm
      simp only [mq_cnt, hp, if_true]
      omega
    · have h2 := ih xs nd (fun x => by
        rw [h x]
        constructor
        · rintro ⟨a, b⟩
          refine ⟨?_, b⟩
          by_cases hx : x = n
          · subst hx
            exact absurd b hp
          · omega
        · rintro ⟨a, b⟩
          exact ⟨by omega, b⟩)
      simp only [mq_cnt, hp, if_false]
      simpa using h2
theorem mq_fst_sp {p : Nat → Bool} {s : Nat → Nat} : ∀ n : Nat, (∀ y, mq_fst p s n = some y → y < n ∧ p y = true ∧ ∀ x, x < n → p x = true → s y ≤ s x) ∧ (mq_fst p s n = none → ∀ x, x < n → p x = false) := by
  intro n
  induction n with
  | zero => exact ⟨fun y h => by simp [mq_fst] at h, fun _ x hx => by omega⟩
  | succ n ih =>
    obtain ⟨ih1, ih2⟩ := ih
    have hc : ∀ x, x < n + 1 → x < n ∨ x = n := fun x h => by omega
    cases hf : mq_fst p s n with
    | none =>
      have h0 := ih2 hf
      by_cases hp : p n = true
      · have hr : mq_fst p s (n + 1) = some n := by simp [mq_fst, hf, hp]
        rw [hr]
        refine ⟨fun y hy => ?_, fun h => by cases h⟩
        cases hy
        refine ⟨by omega, hp, fun x hx hpx => ?_⟩
        rcases hc x hx with h | h
        · rw [h0 x h] at hpx
          cases hpx
        · rw [h]
          exact Nat.le_refl _
      · have hr : mq_fst p s (n + 1) = none := by simp [mq_fst, hf, hp]
        rw [hr]
        refine ⟨fun y hy => (by cases hy), fun _ x hx => ?_⟩
        rcases hc x hx with h | h
        · exact h0 x h
        · rw [h]
          simpa using hp
    | some z =>
      obtain ⟨g1, g2, g3⟩ := ih1 z hf
      by_cases hp : p n = true ∧ s n < s z
      · have hr : mq_fst p s (n + 1) = some n := by simp [mq_fst, hf, hp.1, hp.2]
        rw [hr]
        refine ⟨fun y hy => ?_, fun h => by cases h⟩
        cases hy
        refine ⟨by omega, hp.1, fun x hx hpx => ?_⟩
        rcases hc x hx with h | h
        · have := g3 x h hpx
          omega
        · rw [h]
          exact Nat.le_refl _
      · have hr : mq_fst p s (n + 1) = some z := by
          simp only [mq_fst, hf]
          rw [if_neg]
          simpa using hp
        rw [hr]
        refine ⟨fun y hy => ?_, fun h => by cases h⟩
        cases hy
        refine ⟨by omega, g2, fun x hx hpx => ?_⟩
        rcases hc x hx with h | h
        · exact g3 x h hpx
        · subst h
          by_cases hq : s x < s z
          · exact absurd ⟨hpx, hq⟩ hp
          · omega
theorem mq_fst_head {p : Nat → Bool} {s : Nat → Nat} {n : Nat} {xs : List Nat} (hs : xs.Pairwise (fun x y => s x < s y)) (h : ∀ x, x ∈ xs ↔ x < n ∧ p x = true) : mq_fst p s n = xs.head? := by
  obtain ⟨h1, h2⟩ := mq_fst_sp (p := p) (s := s) n
  cases hf : mq_fst p s n with
  | none =>
    cases xs with
    | nil => rfl
    | cons a t =>
      have ha := (h a).mp (by simp)
      have := h2 hf a ha.1
      rw [ha.2] at this
      cases this
  | some y =>
    obtain ⟨g1, g2, g3⟩ := h1 y hf
    have hy := (h y).mpr ⟨g1, g2⟩
    cases xs with
    | nil => simp at hy
    | cons a t =>
      have ha := (h a).mp (by simp)
      have hle := g3 a ha.1 ha.2
      rcases List.mem_cons.mp hy with e | e
      · rw [e]; rfl
      · have := (List.pairwise_cons.mp hs).1 y e
        omega
theorem mq_fnd_sp {p : Nat → Bool} : ∀ (n i : Nat), (∀ k, mq_fnd p i n = some k → i ≤ k ∧ k < i + n ∧ p k = true ∧ ∀ j, i ≤ j → j < k → p j = false) ∧ (mq_fnd p i n = none → ∀ j, i ≤ j → j < i + n → p j = false) := by
  intro n
  induction n with
  | zero => intro i; exact ⟨fun k h => by simp [mq_fnd] at h, fun _ j h1 h2 => by omega⟩
  | succ n ih =>
    intro i
    obtain ⟨ih1, ih2⟩ := ih (i + 1)
    by_cases hp : p i = true
    · have hr : mq_fnd p i (n + 1) = some i := by simp [mq_fnd, hp]
      rw [hr]
      refine ⟨fun k hk => ?_, fun h => by cases h⟩
      cases hk
      exact ⟨Nat.le_refl _, by omega, hp, fun j h1 h2 => by omega⟩
    · have hr : mq_fnd p i (n + 1) = mq_fnd p (i + 1) n := by simp [mq_fnd, hp]
      have hpf : p i = false := by simpa using hp
      rw [hr]
      refine ⟨fun k hk => ?_, fun h j h1 h2 => ?_⟩
      · obtain ⟨a, b, c, d⟩ := ih1 k hk
        refine ⟨by omega, by omega, c, fun j h1 h2 => ?_⟩
        by_cases hj : j = i
        · rw [hj]; exact hpf
        · exact d j (by omega) h2
      · by_cases hj : j = i
        · rw [hj]; exact hpf
        · exact ih2 h j (by omega) (by omega)
theorem mq_fnd_congr {p q : Nat → Bool} : ∀ (n i : Nat), (∀ j, i ≤ j → j < i + n → p j = q j) → mq_fnd p i n = mq_fnd q i n := by
  intro n
  induction n with
  | zero => intro i _; rfl
  | succ n ih =>
    intro i h
    have h0 := h i (Nat.le_refl _) (by omega)
    have h1 := ih (i + 1) (fun j a b => h j (by omega) (by omega))
    simp only [mq_fnd, h0, h1]
/-- where a message stands by its place: master or port -/
def mq_in (ρ : Nat → Nat → Nat) (g x : Nat) : Prop := if g < 3 then x / 8 = g else mq_port (ρ 5 x) + 3 = g
theorem mq_is_iff {ρ : Nat → Nat → Nat} {w g x : Nat} : mq_is ρ w g x = true ↔ ρ 1 x = w ∧ mq_in ρ g x := by
  unfold mq_is mq_in
  by_cases h : g < 3
  · simp [h]
  · simp [h]
def mq_ok (w g : Nat) : Prop := ((w = 1 ∨ w = 5) ∧ g < 3) ∨ ((w = 2 ∨ w = 3 ∨ w = 4) ∧ 3 ≤ g ∧ g < 7)
theorem mq_in_eq {ρ : Nat → Nat → Nat} {w g b x : Nat} (h1 : mq_ok w g) (h2 : mq_ok w b) (hg : mq_in ρ g x) (hb : mq_in ρ b x) : g = b := by
  unfold mq_in at hg hb
  unfold mq_ok at h1 h2
  by_cases a : g < 3
  · have c : b < 3 := by omega
    rw [if_pos a] at hg
    rw [if_pos c] at hb
    omega
  · have c : ¬ b < 3 := by omega
    rw [if_neg a] at hg
    rw [if_neg c] at hb
    omega
def mq_Pl (ρ : Nat → Nat → Nat) (pl : Nat → Nat → List Nat) : Prop :=
  (∀ w g, mq_ok w g → (∀ x, x ∈ pl w g ↔ x < 24 ∧ mq_is ρ w g x = true) ∧ (pl w g).Pairwise (fun x y => ρ 2 x < ρ 2 y)) ∧ (∀ x, x < 24 → ρ 1 x ≠ 0 → ρ 2 x < ρ 0 1) ∧ ∀ x, x < 24 → ρ 1 x ≤ 5
def mq_set (pl : Nat → Nat → List Nat) (w g : Nat) (xs : List Nat) : Nat → Nat → List Nat := fun a b => if a = w ∧ b = g then xs else pl a b
theorem mq_set_s {pl : Nat → Nat → List Nat} {w g : Nat} {xs : List Nat} : mq_set pl w g xs w g = xs := by simp [mq_set]
theorem mq_set_n {pl : Nat → Nat → List Nat} {w g a b : Nat} {xs : List Nat} (h : ¬ (a = w ∧ b = g)) : mq_set pl w g xs a b = pl a b := by simp only [mq_set]; rw [if_neg h]
theorem mq_Pl.nodup {ρ : Nat → Nat → Nat} {pl : Nat → Nat → List Nat} (h : mq_Pl ρ pl) {w g : Nat} (hk : mq_ok w g) : (pl w g).Nodup := by
  refine List.Pairwise.imp ?_ (h.1 w g hk).2
  intro a b hlt heq
  subst heq
  exact Nat.lt_irrefl _ hlt
theorem mq_Pl.many {ρ : Nat → Nat → Nat} {pl : Nat → Nat → List Nat} (h : mq_Pl ρ pl) {w g : Nat} (hk : mq_ok w g) : mq_many ρ w g = (pl w g).length :=
  mq_cnt_len 24 _ (h.nodup hk) (h.1 w g hk).1
theorem mq_Pl.first {ρ : Nat → Nat → Nat} {pl : Nat → Nat → List Nat} (h : mq_Pl ρ pl) {w g : Nat} (hk : mq_ok w g) : mq_first ρ w g = (pl w g).head? :=
  mq_fst_head (h.1 w g hk).2 (h.1 w g hk).1
theorem mq_Pl.mem {ρ : Nat → Nat → Nat} {pl : Nat → Nat → List Nat} (h : mq_Pl ρ pl) {w g x : Nat} (hk : mq_ok w g) (hx : x ∈ pl w g) : x < 24 ∧ ρ 1 x = w ∧ mq_in ρ g x := by
  have h1 := ((h.1 w g hk).1 x).mp hx
  exact ⟨h1.1, mq_is_iff.mp h1.2⟩
/-- a message leaves its place: it was the first there -/
theorem mq_Pl.leave {ρ ρ' : Nat → Nat → Nat} {pl : Nat → Nat → List Nat} (h : mq_Pl ρ pl) {w g x : Nat} {t : List Nat} (hk : mq_ok w g) (hh : pl w g = x :: t)
    (h0 : ρ' 1 x = 0) (h1 : ∀ y, y ≠ x → ρ' 1 y = ρ 1 y) (h2 : ∀ y, ρ' 2 y = ρ 2 y) (h5 : ∀ y, y ≠ x → ρ' 5 y = ρ 5 y) (hm : ρ' 0 1 = ρ 0 1) : mq_Pl ρ' (mq_set pl w g t) := by
  have hx := h.mem hk (x := x) (by rw [hh]; simp)
  have hw : w ≠ 0 := by unfold mq_ok at hk; omega
  have hnd : x ∉ t := by
    have := h.nodup hk
    rw [hh] at this
    exact (List.nodup_cons.mp this).1
  have his : ∀ a b y, y ≠ x → (mq_is ρ' a b y = true ↔ mq_is ρ a b y = true) := by
    intro a b y hy
    rw [mq_is_iff, mq_is_iff, h1 y hy]
    unfold mq_in
    rw [h5 y hy]
  have hno : ∀ a b, mq_ok a b → ¬ mq_is ρ' a b x = true := by
    intro a b hab q
    have := (mq_is_iff.mp q).1
    rw [h0] at this
    unfold mq_ok at hab
    omega
  refine ⟨fun a b hab => ?_, fun y hy hy0 => ?_, fun y hy => ?_⟩
  · have hsame := h.1 a b hab
    by_cases e : a = w ∧ b = g
    · obtain ⟨rfl, rfl⟩ := e
      rw [mq_set_s]
      rw [hh] at hsame
      refine ⟨fun y => ?_, ?_⟩
      · by_cases hy : y = x
        · subst hy
          constructor
          · intro q; exact absurd q hnd
          · intro q; exact absurd q.2 (hno _ _ hab)
        · rw [his _ _ y hy, ← hsame.1 y, List.mem_cons]
          constructor
          · intro q; exact Or.inr q
          · intro q
            rcases q with q | q
            · exact absurd q hy
            · exact q
      · refine List.Pairwise.imp ?_ (List.pairwise_cons.mp hsame.2).2
        intro u v huv
        rw [h2 u, h2 v]
        exact huv
    · rw [mq_set_n e]
      refine ⟨fun y => ?_, ?_⟩
      · by_cases hy : y = x
        · subst hy
          constructor
          · intro q
            obtain ⟨-, q2, q3⟩ := h.mem hab q
            have ew : w = a := hx.2.1.symm.trans q2
            subst ew
            exact absurd ⟨rfl, (mq_in_eq hab hk q3 hx.2.2)⟩ e
          · intro q; exact absurd q.2 (hno _ _ hab)
        · rw [his _ _ y hy]
          exact hsame.1 y
      · refine List.Pairwise.imp ?_ hsame.2
        intro u v huv
        rw [h2 u, h2 v]
        exact huv
  · by_cases e : y = x
    · subst e; exact absurd h0 hy0
    · rw [h2, hm]
      exact h.2.1 y hy (by rw [← h1 y e]; exact hy0)
  · by_cases e : y = x
    · subst e; omega
    · rw [h1 y e]; exact h.2.2 y hy
/-- a message that stands nowhere comes to a place, behind all others -/
theorem mq_Pl.join {ρ ρ' : Nat → Nat → Nat} {pl : Nat → Nat → List Nat} (h : mq_Pl ρ pl) {w g x : Nat} (hk : mq_ok w g) (hx : x < 24) (h0 : ρ 1 x = 0) (hw : ρ' 1 x = w) (hs : ρ' 2 x = ρ 0 1) (hin : mq_in ρ' g x)
    (h1 : ∀ y, y ≠ x → ρ' 1 y = ρ 1 y) (h2 : ∀ y, y ≠ x → ρ' 2 y = ρ 2 y) (h5 : ∀ y, y ≠ x → ρ' 5 y = ρ 5 y) (hm : ρ' 0 1 = ρ 0 1 + 1) : mq_Pl ρ' (mq_set pl w g (pl w g ++ [x])) := by
  have his : ∀ a b y, y ≠ x → (mq_is ρ' a b y = true ↔ mq_is ρ a b y = true) := by
    intro a b y hy
    rw [mq_is_iff, mq_is_iff, h1 y hy]
    unfold mq_in
    rw [h5 y hy]
  have hnin : ∀ a b, mq_ok a b → x ∉ pl a b := by
    intro a b hab q
    have := (h.mem hab q).2.1
    rw [h0] at this
    unfold mq_ok at hab
    omega
  have hpw : ∀ a b, mq_ok a b → (pl a b).Pairwise (fun u v => ρ' 2 u < ρ' 2 v) := by
    intro a b hab
    refine List.Pairwise.imp_of_mem ?_ (h.1 a b hab).2
    intro u v hu hv huv
    rw [h2 u (fun q => hnin a b hab (q ▸ hu)), h2 v (fun q => hnin a b hab (q ▸ hv))]
    exact huv
  refine ⟨fun a b hab => ?_, fun y hy hy0 => ?_, fun y hy => ?_⟩
  · by_cases e : a = w ∧ b = g
    · obtain ⟨rfl, rfl⟩ := e
      rw [mq_set_s]
      refine ⟨fun y => ?_, ?_⟩
      · rw [List.mem_append, List.mem_singleton]
        by_cases hy : y = x
        · subst hy
          constructor
          · intro _; exact ⟨hx, mq_is_iff.mpr ⟨hw, hin⟩⟩
          · intro _; exact Or.inr rfl
        · rw [his _ _ y hy, ← (h.1 a b hab).1 y]
          constructor
          · intro q
            rcases q with q | q
            · exact q
            · exact absurd q hy
          · intro q; exact Or.inl q
      · rw [List.pairwise_append]
        refine ⟨hpw a b hab, by simp, fun u hu v hv => ?_⟩
        rw [List.mem_singleton.mp hv, hs]
        have hm := h.mem hab hu
        rw [h2 u (fun q => hnin a b hab (q ▸ hu))]
        refine h.2.1 u hm.1 ?_
        rw [hm.2.1]
        unfold mq_ok at hab
        omega
    · rw [mq_set_n e]
      refine ⟨fun y => ?_, hpw a b hab⟩
      by_cases hy : y = x
      · subst hy
        constructor
        · intro q; exact absurd q (hnin a b hab)
        · intro q
          obtain ⟨q1, q2⟩ := mq_is_iff.mp q.2
          have ew : w = a := hw.symm.trans q1
          subst ew
          exact absurd ⟨rfl, mq_in_eq hab hk q2 hin⟩ e
      · rw [his _ _ y hy]
        exact (h.1 a b hab).1 y
  · by_cases e : y = x
    · subst e; rw [hs, hm]; omega
    · rw [h2 y e, hm]
      have := h.2.1 y hy (by rw [← h1 y e]; exact hy0)
      omega
  · by_cases e : y = x
    · subst e; rw [hw]; unfold mq_ok at hk; omega
    · rw [h1 y e]; exact h.2.2 y hy
end
section
/-! the relation between the class's state (σ, τ) and the reference's (ρ, μ, lt), by the lists pl of what stands where -/
def rr_ln (w g : Nat) : Nat := if w = 1 then 3 + 5 * g else if w = 5 then 5 + 5 * g else if w = 2 then 19 + 6 * (g - 3) else 21 + 6 * (g - 3)
def rr_room (w : Nat) : Nat := if w = 1 then 8 else if w = 5 then 4 else 2
def rr_L (σ : Nat → Nat → Int32) (pl : Nat → Nat → List Nat) : Prop := ∀ w g, mq_ok w g → w ≠ 3 → cx_ln σ (rr_ln w g) (pl w g) ∧ (pl w g).length ≤ rr_room w
def rr_J (σ : Nat → Nat → Int32) (ρ : Nat → Nat → Nat) (pl : Nat → Nat → List Nat) : Prop := ∀ p, p < 4 → (pl 3 (3 + p)).length ≤ 1 ∧ σ (18 + 6 * p) 3 = mq_oI (pl 3 (3 + p)).head? ∧ σ (18 + 6 * p) 4 = nI (ρ 12 p) ∧ (pl 3 (3 + p) = [] → ρ 12 p = 0) ∧ ρ 12 p < 16 ∧ σ (18 + 6 * p) 5 = nI (ρ 13 p) ∧ ∃ lm, lm < 3 ∧ σ (18 + 6 * p) 6 = nI lm ∧ ρ 11 p = (lm + 1) % 3
def rr_M (σ : Nat → Nat → Int32) (ρ : Nat → Nat → Nat) : Prop := ∀ m, m < 3 → (∃ lp, lp < 4 ∧ σ (2 + 5 * m) 4 = nI lp ∧ ρ 10 m = (lp + 1) % 4) ∧ (ρ 9 m ≤ 1 ∧ σ (2 + 5 * m) 3 = nI (1 - ρ 9 m)) ∧ ∃ b, b < 256 ∧ σ (2 + 5 * m) 2 = nI b ∧ ∀ s, s < 8 → b.testBit s = decide (ρ 1 (8 * m + s) ≠ 0)
def rr_O (σ : Nat → Nat → Int32) (ρ : Nat → Nat → Nat) : Prop := (∀ p, p < 4 → ∀ i, i < 4 → (∀ x, x < 24 → mq_hold ρ p i x = true → σ (23 + 6 * p) i = nI x) ∧ ((∀ x, x < 24 → mq_hold ρ p i x = false) → σ (23 + 6 * p) i = -1)) ∧ ∀ x, x < 24 → 2 ≤ ρ 1 x → ρ 1 x ≤ 4 → ρ 8 x < 4
def rr_G1 (σ : Nat → Nat → Int32) (τ : Nat → Nat → Int64) (ρ : Nat → Nat → Nat) (μ : Nat → Int64) (x : Nat) : Prop := (σ (43 + x) 0 = nI (ρ 3 x) ∧ ρ 3 x < 3) ∧ (∃ z, z < 4 ∧ σ (43 + x) 1 = nI z ∧ ρ 4 x = 2 ^ z) ∧ (σ (43 + x) 2 = nI (ρ 5 x) ∧ ρ 5 x < 1024 ∧ ρ 5 x % ρ 4 x = 0) ∧ (σ (43 + x) 4 = nI (ρ 7 x) ∧ ρ 7 x < 256) ∧ τ (43 + x) 0 = μ x
def rr_G (σ : Nat → Nat → Int32) (τ : Nat → Nat → Int64) (ρ : Nat → Nat → Nat) (μ : Nat → Int64) : Prop := ∀ x, x < 24 → ρ 1 x ≠ 0 → rr_G1 σ τ ρ μ x
def rr_B (σ : Nat → Nat → Int32) (ρ : Nat → Nat → Nat) : Prop := (∀ a, a < 640 → ρ 14 a < 256 ∧ σ 67 a = (nI (ρ 14 a)).toInt8.toInt32) ∧ (∀ i, i < 32 → σ 68 i = nI (ρ 15 i)) ∧ (∀ i, i < 8 → σ 69 i = nI (ρ 16 i)) ∧ ρ 16 3 ≤ ρ 0 1
def rr_R (σ : Nat → Nat → Int32) (τ : Nat → Nat → Int64) (ρ : Nat → Nat → Nat) (μ : Nat → Int64) (lt : Int64) (pl : Nat → Nat → List Nat) : Prop := rr_L σ pl ∧ mq_Pl ρ pl ∧ rr_J σ ρ pl ∧ rr_M σ ρ ∧ rr_O σ ρ ∧ rr_G σ τ ρ μ ∧ rr_B σ ρ ∧ τ 0 0 = lt
theorem rr_ln_ne {w g a b : Nat} (h1 : mq_ok w g) (h2 : w ≠ 3) (h3 : mq_ok a b) (h4 : a ≠ 3) (h : ¬ (a = w ∧ b = g)) : rr_ln a b ≠ rr_ln w g ∧ rr_ln a b ≠ rr_ln w g + 1 ∧ rr_ln a b + 1 ≠ rr_ln w g := by
  unfold mq_ok at h1 h3
  have hw : w = 1 ∨ w = 5 ∨ w = 2 ∨ w = 4 := by omega
  have ha : a = 1 ∨ a = 5 ∨ a = 2 ∨ a = 4 := by omega
  rcases hw with rfl | rfl | rfl | rfl <;> rcases ha with rfl | rfl | rfl | rfl <;> simp [rr_ln] <;> omega
/-- no line lies at these cells -/
theorem rr_ln_in {a b : Nat} (h3 : mq_ok a b) (h4 : a ≠ 3) : (∃ q, q < 3 ∧ (rr_ln a b = 3 + 5 * q ∨ rr_ln a b = 5 + 5 * q)) ∨ ∃ q, q < 4 ∧ (rr_ln a b = 19 + 6 * q ∨ rr_ln a b = 21 + 6 * q) := by
  unfold mq_ok at h3
  have ha : a = 1 ∨ a = 5 ∨ a = 2 ∨ a = 4 := by omega
  rcases ha with rfl | rfl | rfl | rfl
  · exact Or.inl ⟨b, by omega, Or.inl (by simp [rr_ln])⟩
  · exact Or.inl ⟨b, by omega, Or.inr (by simp [rr_ln])⟩
  · exact Or.inr ⟨b - 3, by omega, Or.inl (by simp [rr_ln])⟩
  · exact Or.inr ⟨b - 3, by omega, Or.inr (by simp [rr_ln])⟩
theorem rr_L.step {σ σ' : Nat → Nat → Int32} {pl : Nat → Nat → List Nat} (h : rr_L σ pl) {w g : Nat} {xs : List Nat} (hk : mq_ok w g) (hw : w ≠ 3) (hoth : ∀ a b, mq_ok a b → a ≠ 3 → ¬ (a = w ∧ b = g) → σ' (rr_ln a b) 1 = σ (rr_ln a b) 1 ∧ σ' (rr_ln a b + 1) = σ (rr_ln a b + 1)) (hn : cx_ln σ' (rr_ln w g) xs) (hl : xs.length ≤ rr_room w) : rr_L σ' (mq_set pl w g xs) := by
  intro a b hab ha
  by_cases e : a = w ∧ b = g
  · obtain ⟨rfl, rfl⟩ := e
    rw [mq_set_s]
    exact ⟨hn, hl⟩
  · rw [mq_set_n e]
    obtain ⟨h1, h2⟩ := hoth a b hab ha e
    exact ⟨(h a b hab ha).1.keep h1 h2, (h a b hab ha).2⟩
theorem rr_L.keep {σ σ' : Nat → Nat → Int32} {pl pl' : Nat → Nat → List Nat} (h : rr_L σ pl) (hp : ∀ a b, mq_ok a b → a ≠ 3 → pl' a b = pl a b) (hoth : ∀ a b, mq_ok a b → a ≠ 3 → σ' (rr_ln a b) 1 = σ (rr_ln a b) 1 ∧ σ' (rr_ln a b + 1) = σ (rr_ln a b + 1)) : rr_L σ' pl' := by
  intro a b hab ha
  rw [hp a b hab ha]
  obtain ⟨h1, h2⟩ := hoth a b hab ha
  exact ⟨(h a b hab ha).1.keep h1 h2, (h a b hab ha).2⟩
/-- what the class's moveAnswer makes of its state -/
def cx_rel (σ : Nat → Nat → Int32) (p : Nat) (key : Int32) : Nat → Nat → Int32 := fun j k => if j = 23 + 6 * p ∧ k < 4 ∧ σ (23 + 6 * p) k = key then -1 else σ j k
theorem cx_rel_n {σ : Nat → Nat → Int32} {p j : Nat} {key : Int32} (h : j ≠ 23 + 6 * p) : cx_rel σ p key j = σ j := by
  funext k
  unfold cx_rel
  rw [if_neg (fun q => h q.1)]
def cx_mva (σ : Nat → Nat → Int32) (p m nt nb x : Nat) : Nat → Nat → Int32 :=
  cx_up (cx_up (cx_app (cx_rel (cx_rem σ (21 + 6 * p) nt) p (nI x)) (5 + 5 * m) nb (nI x)) (2 + 5 * m) 4 (nI p)) 69 4 (σ 69 4 + 1)
theorem cx_mva_n {σ : Nat → Nat → Int32} {p m nt nb x j : Nat} (h1 : j ≠ 69) (h2 : j ≠ 2 + 5 * m) (h3 : j ≠ 5 + 5 * m) (h4 : j ≠ 6 + 5 * m) (h5 : j ≠ 23 + 6 * p) (h6 : j ≠ 21 + 6 * p) (h7 : j ≠ 22 + 6 * p) : cx_mva σ p m nt nb x j = σ j := by
  unfold cx_mva
  rw [cx_up_J h1, cx_up_J h2, cx_app_n h3 (by omega), cx_rel_n h5, cx_rem_n h6 (by omega)]
theorem mq_go_n {ρ : Nat → Nat → Nat} {x w i q : Nat} (h0 : i ≠ 0) (h1 : i ≠ 1) (h2 : i ≠ 2) : mq_go ρ x w i q = ρ i q := by
  unfold mq_go
  rw [mq_up_j h0, mq_up_j h0, mq_up_j h2, mq_up_j h1]
theorem mq_go_1 {ρ : Nat → Nat → Nat} {x w q : Nat} : mq_go ρ x w 1 q = if q = x then w else ρ 1 q := by
  unfold mq_go mq_up
  simp
theorem mq_go_2 {ρ : Nat → Nat → Nat} {x w q : Nat} : mq_go ρ x w 2 q = if q = x then ρ 0 1 else ρ 2 q := by
  unfold mq_go mq_up
  simp
theorem mq_go_01 {ρ : Nat → Nat → Nat} {x w : Nat} : mq_go ρ x w 0 1 = ρ 0 1 + 1 := by
  unfold mq_go mq_up
  simp
theorem mq_go_02 {ρ : Nat → Nat → Nat} {x w : Nat} : mq_go ρ x w 0 2 = 1 := by
  unfold mq_go mq_up
  simp
/-- from one place to another: leave, then join -/
theorem mq_Pl.move {ρ ρ' : Nat → Nat → Nat} {pl : Nat → Nat → List Nat} (h : mq_Pl ρ pl) {w g x a b : Nat} {t : List Nat} (hk : mq_ok w g) (hh : pl w g = x :: t) (hab : mq_ok a b) (hne : ¬ (a = w ∧ b = g)) (hin : mq_in ρ b x)
    (h1 : ∀ y, ρ' 1 y = if y = x then a else ρ 1 y) (h2 : ∀ y, ρ' 2 y = if y = x then ρ 0 1 else ρ 2 y) (h5 : ∀ y, ρ' 5 y = ρ 5 y) (hm : ρ' 0 1 = ρ 0 1 + 1) : mq_Pl ρ' (mq_set (mq_set pl w g t) a b (pl a b ++ [x])) := by
  have hx := h.mem hk (x := x) (by rw [hh]; simp)
  have hl := h.leave (ρ' := mq_up ρ 1 x 0) hk hh mq_up_s (fun y hy => mq_up_k hy) (fun y => mq_up_j (by omega)) (fun y _ => mq_up_j (by omega)) (mq_up_j (by omega))
  have hj := hl.join (ρ' := ρ') hab hx.1 mq_up_s (by rw [h1]; simp) (by rw [h2]; simp [mq_up]) (by
    unfold mq_in at hin ⊢
    rw [h5]
    exact hin) (fun y hy => by rw [h1, if_neg hy, mq_up_k hy]) (fun y hy => by rw [h2, if_neg hy, mq_up_j (by omega)]) (fun y _ => by rw [h5, mq_up_j (by omega)]) (by rw [hm, mq_up_j (by omega)])
  rw [mq_set_n hne] at hj
  exact hj
def rr_free (j : Nat) : Prop := ∀ a b, mq_ok a b → a ≠ 3 → j ≠ rr_ln a b ∧ j ≠ rr_ln a b + 1
theorem rr_free_M {m : Nat} : rr_free (2 + 5 * m) ∨ 3 ≤ m := by
  by_cases hm : m < 3
  · refine Or.inl fun a b hab ha => ?_
    rcases rr_ln_in hab ha with ⟨q, hq, h | h⟩ | ⟨q, hq, h | h⟩ <;> rw [h] <;> omega
  · exact Or.inr (by omega)
theorem rr_freeM {m : Nat} (hm : m < 3) : rr_free (2 + 5 * m) := by
  intro a b hab ha
  rcases rr_ln_in hab ha with ⟨q, hq, h | h⟩ | ⟨q, hq, h | h⟩ <;> rw [h] <;> omega
theorem rr_freeP {p : Nat} (hp : p < 4) : rr_free (18 + 6 * p) := by
  intro a b hab ha
  rcases rr_ln_in hab ha with ⟨q, hq, h | h⟩ | ⟨q, hq, h | h⟩ <;> rw [h] <;> omega
theorem rr_freeO {p : Nat} (hp : p < 4) : rr_free (23 + 6 * p) := by
  intro a b hab ha
  rcases rr_ln_in hab ha with ⟨q, hq, h | h⟩ | ⟨q, hq, h | h⟩ <;> rw [h] <;> omega
theorem rr_freeB {j : Nat} (hj : 43 ≤ j) : rr_free j := by
  intro a b hab ha
  rcases rr_ln_in hab ha with ⟨q, hq, h | h⟩ | ⟨q, hq, h | h⟩ <;> rw [h] <;> omega
theorem rr_L.upF {σ : Nat → Nat → Int32} {pl : Nat → Nat → List Nat} (h : rr_L σ pl) {j k : Nat} {v : Int32} (hj : rr_free j) : rr_L (cx_up σ j k v) pl :=
  h.keep (fun _ _ _ _ => rfl) (fun a b hab ha => ⟨cx_up_j (Ne.symm (hj a b hab ha).1), cx_up_J (Ne.symm (hj a b hab ha).2)⟩)
theorem rr_L.rel {σ : Nat → Nat → Int32} {pl : Nat → Nat → List Nat} (h : rr_L σ pl) {p : Nat} {key : Int32} (hp : p < 4) : rr_L (cx_rel σ p key) pl :=
  h.keep (fun _ _ _ _ => rfl) (fun a b hab ha => by
    have hj := rr_freeO hp a b hab ha
    rw [cx_rel_n (Ne.symm hj.1), cx_rel_n (Ne.symm hj.2)]
    exact ⟨rfl, rfl⟩)
theorem rr_L.app {σ : Nat → Nat → Int32} {pl : Nat → Nat → List Nat} (h : rr_L σ pl) {w g x : Nat} (hk : mq_ok w g) (hw : w ≠ 3) (hl : (pl w g).length < rr_room w) : rr_L (cx_app σ (rr_ln w g) (pl w g).length (nI x)) (mq_set pl w g (pl w g ++ [x])) := by
  refine h.step hk hw (fun a b hab ha e => ?_) ((h w g hk hw).1.app x) (by rw [List.length_append]; show (pl w g).length + 1 ≤ _; omega)
  obtain ⟨e1, e2, e3⟩ := rr_ln_ne hk hw hab ha e
  rw [cx_app_n e1 e2, cx_app_n e3 (by omega)]
  exact ⟨rfl, rfl⟩
theorem rr_L.rem {σ : Nat → Nat → Int32} {pl : Nat → Nat → List Nat} (h : rr_L σ pl) {w g x : Nat} {t : List Nat} (hk : mq_ok w g) (hw : w ≠ 3) (hh : pl w g = x :: t) : rr_L (cx_rem σ (rr_ln w g) t.length) (mq_set pl w g t) := by
  have h0 := h w g hk hw
  rw [hh] at h0
  refine h.step hk hw (fun a b hab ha e => ?_) h0.1.rem (by have := h0.2; simp at this; omega)
  obtain ⟨e1, e2, e3⟩ := rr_ln_ne hk hw hab ha e
  rw [cx_rem_n e1 e2, cx_rem_n e3 (by omega)]
  exact ⟨rfl, rfl⟩
theorem rr_inj {x y : Nat} (hx : x < 24) (hy : y < 24) (h : nI x = nI y) : x = y := (nI_eq (by omega) (by omega)).mp h
theorem rr_m1 {x : Nat} (hx : x < 24) : nI x ≠ -1 := by
  intro h
  have h1 := nI_toInt (n := x) (by omega)
  rw [h] at h1
  have : ((-1 : Int32)).toInt = -1 := by decide
  omega
theorem rr_G.keep {σ σ' : Nat → Nat → Int32} {τ τ' : Nat → Nat → Int64} {ρ ρ' : Nat → Nat → Nat} {μ μ' : Nat → Int64} (h : rr_G σ τ ρ μ) (h1 : ∀ x, x < 24 → ρ' 1 x ≠ 0 → ρ 1 x ≠ 0) (hs : ∀ x, x < 24 → σ' (43 + x) = σ (43 + x)) (h3 : ∀ x, ρ' 3 x = ρ 3 x) (h4 : ∀ x, ρ' 4 x = ρ 4 x) (h5 : ∀ x, ρ' 5 x = ρ 5 x) (h7 : ∀ x, ρ' 7 x = ρ 7 x) (ht : ∀ x, x < 24 → τ' (43 + x) 0 = τ (43 + x) 0) (hm : ∀ x, x < 24 → μ' x = μ x) : rr_G σ' τ' ρ' μ' := by
  intro x hx h0
  have := h x hx (h1 x hx h0)
  unfold rr_G1 at this ⊢
  rw [hs x hx, h3, h4, h5, h7, ht x hx, hm x hx]
  exact this
theorem mq_hold_iff {ρ : Nat → Nat → Nat} {p i x : Nat} : mq_hold ρ p i x = true ↔ 2 ≤ ρ 1 x ∧ ρ 1 x ≤ 4 ∧ mq_port (ρ 5 x) = p ∧ ρ 8 x = i := by
  simp [mq_hold]
theorem mq_hold_f {ρ : Nat → Nat → Nat} {p i x : Nat} : mq_hold ρ p i x = false ↔ ¬ (2 ≤ ρ 1 x ∧ ρ 1 x ≤ 4 ∧ mq_port (ρ 5 x) = p ∧ ρ 8 x = i) := by
  rw [← mq_hold_iff]
  simp
theorem mq_ansM_sp {ρ : Nat → Nat → Nat} {m p x : Nat} : (∀ y, mq_ansM ρ m p x 1 y = if y = x then 5 else ρ 1 y) ∧ (∀ y, mq_ansM ρ m p x 2 y = if y = x then ρ 0 1 else ρ 2 y) ∧ (∀ i q, i ≠ 0 → i ≠ 1 → i ≠ 2 → i ≠ 10 → i ≠ 16 → mq_ansM ρ m p x i q = ρ i q) ∧ (∀ q, mq_ansM ρ m p x 10 q = if q = m then (p + 1) % 4 else ρ 10 q) ∧ (∀ q, mq_ansM ρ m p x 16 q = if q = 4 then ρ 16 4 + 1 else ρ 16 q) ∧ mq_ansM ρ m p x 0 1 = ρ 0 1 + 1 ∧ mq_ansM ρ m p x 0 2 = 1 := by
  unfold mq_ansM mq_inc mq_go mq_up
  refine ⟨fun y => by simp, fun y => by simp, fun i q h0 h1 h2 h10 h16 => by simp [h0, h1, h2, h10, h16], fun q => by simp, fun q => by simp, by simp, by simp⟩
theorem rr_R.ans {σ : Nat → Nat → Int32} {τ : Nat → Nat → Int64} {ρ : Nat → Nat → Nat} {μ : Nat → Int64} {lt : Int64} {pl : Nat → Nat → List Nat} (h : rr_R σ τ ρ μ lt pl) {m p x : Nat} {t : List Nat} (hm : m < 3) (hp : p < 4) (hh : pl 4 (3 + p) = x :: t) (hxm : x / 8 = m) (hb : (pl 5 m).length < 4) :
    rr_R (cx_mva σ p m t.length (pl 5 m).length x) τ (mq_ansM ρ m p x) μ lt (mq_set (mq_set pl 4 (3 + p) t) 5 m (pl 5 m ++ [x])) := by
  obtain ⟨hL, hP, hJ, hM, hO, hG, hB, hT⟩ := h
  have ok4 : mq_ok 4 (3 + p) := Or.inr ⟨by simp, by omega, by omega⟩
  have ok5 : mq_ok 5 m := Or.inl ⟨by simp, hm⟩
  obtain ⟨hx1, hx2, hx3⟩ := hP.mem ok4 (x := x) (by rw [hh]; simp)
  have hport : mq_port (ρ 5 x) = p := by
    unfold mq_in at hx3
    rw [if_neg (by omega)] at hx3
    omega
  obtain ⟨e1, e2, eo, e10, e16, e01, -⟩ := mq_ansM_sp (ρ := ρ) (m := m) (p := p) (x := x)
  have hset : mq_set pl 4 (3 + p) t 5 m = pl 5 m := mq_set_n (by omega)
  have hne0 : ∀ y, (mq_ansM ρ m p x 1 y ≠ 0 ↔ ρ 1 y ≠ 0) := by
    intro y
    rw [e1]
    by_cases hy : y = x
    · subst hy; simp [hx2]
    · simp [hy]
  refine ⟨?_, ?_, ?_, ?_, ?_, ?_, ?_, hT⟩
  · have g1 := hL.rem ok4 (by omega) hh
    have g2 := g1.rel (p := p) (key := nI x) hp
    have g3 := g2.app (w := 5) (g := m) (x := x) ok5 (by omega) (by rw [hset]; simpa [rr_room] using hb)
    rw [hset] at g3
    have l4 : rr_ln 4 (3 + p) = 21 + 6 * p := by simp [rr_ln]
    have l5 : rr_ln 5 m = 5 + 5 * m := by simp [rr_ln]
    rw [l4, l5] at g3
    exact (g3.upF (rr_freeM hm)).upF (rr_freeB (by omega))
  · exact hP.move ok4 hh ok5 (by omega) (by unfold mq_in; rw [if_pos hm]; exact hxm) e1 e2 (fun y => eo 5 y (by omega) (by omega) (by omega) (by omega) (by omega)) e01
  · intro q hq
    have := hJ q hq
    rw [mq_set_n (by omega), mq_set_n (by omega), cx_mva_n (by omega) (by omega) (by omega) (by omega) (by omega) (by omega) (by omega), eo 12 q (by omega) (by omega) (by omega) (by omega) (by omega), eo 13 q (by omega) (by omega) (by omega) (by omega) (by omega), eo 11 q (by omega) (by omega) (by omega) (by omega) (by omega)]
    exact this
  · intro q hq
    obtain ⟨⟨lp, a1, a2, a3⟩, ⟨b1, b2⟩, bb, c1, c2, c3⟩ := hM q hq
    have hs : ∀ k, cx_mva σ p m t.length (pl 5 m).length x (2 + 5 * q) k = if q = m ∧ k = 4 then nI p else σ (2 + 5 * q) k := by
      intro k
      unfold cx_mva
      rw [cx_up_J (by omega)]
      by_cases hqm : q = m
      · subst hqm
        by_cases hk : k = 4
        · subst hk; simp [cx_up_s]
        · rw [cx_up_k hk, cx_app_n (by omega) (by omega), cx_rel_n (by omega), cx_rem_n (by omega) (by omega), if_neg (fun z => hk z.2)]
      · rw [cx_up_J (by omega), cx_app_n (by omega) (by omega), cx_rel_n (by omega), cx_rem_n (by omega) (by omega), if_neg (fun z => hqm z.1)]
    refine ⟨?_, ⟨?_, ?_⟩, bb, c1, ?_, fun s hs' => ?_⟩
    · by_cases hqm : q = m
      · exact ⟨p, hp, by rw [hs, if_pos ⟨hqm, rfl⟩], by rw [e10, if_pos hqm]⟩
      · exact ⟨lp, a1, by rw [hs, if_neg (fun z => hqm z.1)]; exact a2, by rw [e10, if_neg hqm]; exact a3⟩
    · rw [eo 9 q (by omega) (by omega) (by omega) (by omega) (by omega)]; exact b1
    · rw [hs, if_neg (by omega), eo 9 q (by omega) (by omega) (by omega) (by omega) (by omega)]; exact b2
    · rw [hs, if_neg (by omega)]; exact c2
    · rw [c3 s hs']
      exact decide_eq_decide.mpr (hne0 _).symm
  · obtain ⟨hO1, hO2⟩ := hO
    have hhold : ∀ q i y, mq_hold (mq_ansM ρ m p x) q i y = true ↔ mq_hold ρ q i y = true ∧ y ≠ x := by
      intro q i y
      rw [mq_hold_iff, mq_hold_iff, e1, eo 5 y (by omega) (by omega) (by omega) (by omega) (by omega), eo 8 y (by omega) (by omega) (by omega) (by omega) (by omega)]
      by_cases hy : y = x
      · simp [hy]
      · simp [hy]
    have hown : ∀ q i, cx_mva σ p m t.length (pl 5 m).length x (23 + 6 * q) i = if q = p ∧ i < 4 ∧ σ (23 + 6 * p) i = nI x then -1 else σ (23 + 6 * q) i := by
      intro q i
      unfold cx_mva
      rw [cx_up_J (by omega), cx_up_J (by omega), cx_app_n (by omega) (by omega)]
      by_cases hq : q = p
      · subst hq
        unfold cx_rel
        rw [cx_rem_n (by omega) (by omega)]
        simp
      · rw [cx_rel_n (by omega), cx_rem_n (by omega) (by omega), if_neg (fun z => hq z.1)]
    refine ⟨fun q hq i hi => ⟨fun y hy hh' => ?_, fun hno => ?_⟩, fun y hy h2 h4 => ?_⟩
    · obtain ⟨k1, k2⟩ := (hhold q i y).mp hh'
      have hs := (hO1 q hq i hi).1 y hy k1
      rw [hown, if_neg]
      · exact hs
      · rintro ⟨rfl, -, z⟩
        rw [hs] at z
        exact k2 (rr_inj hy hx1 z)
    · rw [hown]
      by_cases hc : q = p ∧ i < 4 ∧ σ (23 + 6 * p) i = nI x
      · rw [if_pos hc]
      · rw [if_neg hc]
        refine (hO1 q hq i hi).2 fun y hy => ?_
        by_cases hyx : y = x
        · subst hyx
          cases hhy : mq_hold ρ q i y with
          | false => rfl
          | true =>
            exfalso
            have hs := (hO1 q hq i hi).1 y hy hhy
            have hqp : q = p := by
              have := (mq_hold_iff.mp hhy).2.2.1
              omega
            subst hqp
            exact hc ⟨rfl, hi, hs⟩
        · have := hno y hy
          cases hhy : mq_hold ρ q i y with
          | false => rfl
          | true =>
            rw [(hhold q i y).mpr ⟨hhy, hyx⟩] at this
            cases this
    · rw [e1] at h2 h4
      rw [eo 8 y (by omega) (by omega) (by omega) (by omega) (by omega)]
      by_cases hyx : y = x
      · rw [if_pos hyx] at h4; omega
      · rw [if_neg hyx] at h2 h4
        exact hO2 y hy h2 h4
  · exact hG.keep (fun y _ h0 => (hne0 y).mp h0) (fun y hy => cx_mva_n (by omega) (by omega) (by omega) (by omega) (by omega) (by omega) (by omega)) (fun y => eo 3 y (by omega) (by omega) (by omega) (by omega) (by omega)) (fun y => eo 4 y (by omega) (by omega) (by omega) (by omega) (by omega)) (fun y => eo 5 y (by omega) (by omega) (by omega) (by omega) (by omega)) (fun y => eo 7 y (by omega) (by omega) (by omega) (by omega) (by omega)) (fun _ _ => rfl) (fun _ _ => rfl)
  · obtain ⟨hB1, hB2, hB3, hB4⟩ := hB
    refine ⟨fun a ha => ?_, fun i hi => ?_, fun i hi => ?_, ?_⟩
    · rw [cx_mva_n (by omega) (by omega) (by omega) (by omega) (by omega) (by omega) (by omega), eo 14 a (by omega) (by omega) (by omega) (by omega) (by omega)]
      exact hB1 a ha
    · rw [cx_mva_n (by omega) (by omega) (by omega) (by omega) (by omega) (by omega) (by omega), eo 15 i (by omega) (by omega) (by omega) (by omega) (by omega)]
      exact hB2 i hi
    · rw [e16]
      unfold cx_mva
      by_cases h4 : i = 4
      · subst h4
        rw [cx_up_s, if_pos rfl, hB3 4 (by omega), nI_succ]
      · rw [cx_up_k h4, if_neg h4, cx_up_J (by omega), cx_app_n (by omega) (by omega), cx_rel_n (by omega), cx_rem_n (by omega) (by omega)]
        exact hB3 i hi
    · rw [e16, e01, if_neg (by omega)]
      omega
end
section
/-! one step of the class beside one of the reference: a job begins, a request is fetched, the count goes down -/
theorem rr_O.keep {σ σ' : Nat → Nat → Int32} {ρ ρ' : Nat → Nat → Nat} (h : rr_O σ ρ) (hs : ∀ q, q < 4 → σ' (23 + 6 * q) = σ (23 + 6 * q)) (h1 : ∀ y, y < 24 → ((2 ≤ ρ' 1 y ∧ ρ' 1 y ≤ 4) ↔ (2 ≤ ρ 1 y ∧ ρ 1 y ≤ 4))) (h5 : ∀ y, ρ' 5 y = ρ 5 y) (h8 : ∀ y, ρ' 8 y = ρ 8 y) : rr_O σ' ρ' := by
  obtain ⟨hO1, hO2⟩ := h
  have hh : ∀ q i y, y < 24 → (mq_hold ρ' q i y = true ↔ mq_hold ρ q i y = true) := by
    intro q i y hy
    rw [mq_hold_iff, mq_hold_iff, h5, h8]
    constructor
    · rintro ⟨a, b, c, d⟩
      obtain ⟨a', b'⟩ := (h1 y hy).mp ⟨a, b⟩
      exact ⟨a', b', c, d⟩
    · rintro ⟨a, b, c, d⟩
      obtain ⟨a', b'⟩ := (h1 y hy).mpr ⟨a, b⟩
      exact ⟨a', b', c, d⟩
  refine ⟨fun q hq i hi => ⟨fun y hy g => ?_, fun hno => ?_⟩, fun y hy a b => ?_⟩
  · rw [hs q hq]
    exact (hO1 q hq i hi).1 y hy ((hh q i y hy).mp g)
  · rw [hs q hq]
    refine (hO1 q hq i hi).2 fun y hy => ?_
    cases hb : mq_hold ρ q i y with
    | false => rfl
    | true =>
      have := hno y hy
      rw [(hh q i y hy).mpr hb] at this
      cases this
  · rw [h8]
    obtain ⟨a', b'⟩ := (h1 y hy).mp ⟨a, b⟩
    exact hO2 y hy a' b'
theorem rr_M.keep {σ σ' : Nat → Nat → Int32} {ρ ρ' : Nat → Nat → Nat} (h : rr_M σ ρ) (hs : ∀ q, q < 3 → σ' (2 + 5 * q) = σ (2 + 5 * q)) (h1 : ∀ y, (ρ' 1 y ≠ 0 ↔ ρ 1 y ≠ 0)) (h9 : ∀ y, ρ' 9 y = ρ 9 y) (h10 : ∀ y, ρ' 10 y = ρ 10 y) : rr_M σ' ρ' := by
  intro q hq
  obtain ⟨a, b, bb, c1, c2, c3⟩ := h q hq
  refine ⟨by rw [hs q hq, h10]; exact a, by rw [hs q hq, h9]; exact b, bb, c1, by rw [hs q hq]; exact c2, fun s hs' => ?_⟩
  rw [c3 s hs']
  exact decide_eq_decide.mpr (h1 _).symm
theorem rr_B.keep {σ σ' : Nat → Nat → Int32} {ρ ρ' : Nat → Nat → Nat} (h : rr_B σ ρ) (h67 : σ' 67 = σ 67) (h68 : σ' 68 = σ 68) (h69 : σ' 69 = σ 69) (h14 : ∀ y, ρ' 14 y = ρ 14 y) (h15 : ∀ y, ρ' 15 y = ρ 15 y) (h16 : ∀ y, ρ' 16 y = ρ 16 y) (h0 : ρ 0 1 ≤ ρ' 0 1) : rr_B σ' ρ' := by
  obtain ⟨a, b, c, d⟩ := h
  refine ⟨fun i hi => by rw [h67, h14]; exact a i hi, fun i hi => by rw [h68, h15]; exact b i hi, fun i hi => by rw [h69, h16]; exact c i hi, by rw [h16]; omega⟩
/-- countDown -/
theorem rr_R.cd {σ : Nat → Nat → Int32} {τ : Nat → Nat → Int64} {ρ : Nat → Nat → Nat} {μ : Nat → Int64} {lt : Int64} {pl : Nat → Nat → List Nat} (h : rr_R σ τ ρ μ lt pl) {p : Nat} (hp : p < 4) :
    rr_R (cx_up σ (18 + 6 * p) 4 (nI (ρ 12 p - 1))) τ (mq_up ρ 12 p (ρ 12 p - 1)) μ lt pl := by
  obtain ⟨hL, hP, hJ, hM, hO, hG, hB, hT⟩ := h
  have e : ∀ i q, i ≠ 12 → mq_up ρ 12 p (ρ 12 p - 1) i q = ρ i q := fun i q hi => mq_up_j hi
  refine ⟨hL.upF (rr_freeP hp), ?_, ?_, ?_, ?_, ?_, ?_, hT⟩
  · obtain ⟨a, b, c⟩ := hP
    exact ⟨a, b, c⟩
  · intro q hq
    have hq' := hJ q hq
    by_cases hqp : q = p
    · subst hqp
      obtain ⟨j1, j2, j3, j4, j5, j6, lm, j7, j8, j9⟩ := hq'
      refine ⟨j1, by rw [cx_up_k (by omega)]; exact j2, by rw [cx_up_s, mq_up_s], fun h0 => by rw [mq_up_s, j4 h0], by rw [mq_up_s]; omega, by rw [cx_up_k (by omega), e 13 q (by omega)]; exact j6, lm, j7, by rw [cx_up_k (by omega)]; exact j8, by rw [e 11 q (by omega)]; exact j9⟩
    · rw [cx_up_J (by omega), mq_up_k hqp, e 13 q (by omega), e 11 q (by omega)]
      exact hq'
  · exact hM.keep (fun q hq => cx_up_J (by omega)) (fun y => by rw [e 1 y (by omega)]) (fun y => e 9 y (by omega)) (fun y => e 10 y (by omega))
  · exact hO.keep (fun q hq => cx_up_J (by omega)) (fun y _ => by rw [e 1 y (by omega)]) (fun y => e 5 y (by omega)) (fun y => e 8 y (by omega))
  · exact hG.keep (fun y _ h0 => by rw [e 1 y (by omega)] at h0; exact h0) (fun y hy => cx_up_J (by omega)) (fun y => e 3 y (by omega)) (fun y => e 4 y (by omega)) (fun y => e 5 y (by omega)) (fun y => e 7 y (by omega)) (fun _ _ => rfl) (fun _ _ => rfl)
  · exact hB.keep (cx_up_J (by omega)) (cx_up_J (by omega)) (cx_up_J (by omega)) (fun y => e 14 y (by omega)) (fun y => e 15 y (by omega)) (fun y => e 16 y (by omega)) (Nat.le_of_eq (e 0 1 (by omega)).symm)
/-- beginJob -/
def cx_beg (σ : Nat → Nat → Int32) (p nt x v : Nat) : Nat → Nat → Int32 := cx_up (cx_up (cx_rem σ (19 + 6 * p) nt) (18 + 6 * p) 3 (nI x)) (18 + 6 * p) 4 (nI v)
theorem cx_beg_n {σ : Nat → Nat → Int32} {p nt x v j : Nat} (h1 : j ≠ 18 + 6 * p) (h2 : j ≠ 19 + 6 * p) (h3 : j ≠ 20 + 6 * p) : cx_beg σ p nt x v j = σ j := by
  unfold cx_beg
  rw [cx_up_J h1, cx_up_J h1, cx_rem_n h2 (by omega)]
theorem rr_R.beg {σ : Nat → Nat → Int32} {τ : Nat → Nat → Int64} {ρ : Nat → Nat → Nat} {μ : Nat → Int64} {lt : Int64} {pl : Nat → Nat → List Nat} (h : rr_R σ τ ρ μ lt pl) {p x v : Nat} {t : List Nat} (hp : p < 4) (hh : pl 2 (3 + p) = x :: t) (hj : pl 3 (3 + p) = []) (hv : v < 16) :
    rr_R (cx_beg σ p t.length x v) τ (mq_go (mq_up ρ 12 p v) x 3) μ lt (mq_set (mq_set pl 2 (3 + p) t) 3 (3 + p) [x]) := by
  obtain ⟨hL, hP, hJ, hM, hO, hG, hB, hT⟩ := h
  have ok2 : mq_ok 2 (3 + p) := Or.inr ⟨by simp, by omega, by omega⟩
  have ok3 : mq_ok 3 (3 + p) := Or.inr ⟨by simp, by omega, by omega⟩
  obtain ⟨hx1, hx2, hx3⟩ := hP.mem ok2 (x := x) (by rw [hh]; simp)
  have e1 : ∀ y, mq_go (mq_up ρ 12 p v) x 3 1 y = if y = x then 3 else ρ 1 y := fun y => by rw [mq_go_1, mq_up_j (by omega)]
  have e2 : ∀ y, mq_go (mq_up ρ 12 p v) x 3 2 y = if y = x then ρ 0 1 else ρ 2 y := fun y => by rw [mq_go_2, mq_up_j (by omega), mq_up_j (by omega)]
  have e01 : mq_go (mq_up ρ 12 p v) x 3 0 1 = ρ 0 1 + 1 := by rw [mq_go_01, mq_up_j (by omega)]
  have eo : ∀ i q, 3 ≤ i → i ≠ 12 → mq_go (mq_up ρ 12 p v) x 3 i q = ρ i q := fun i q h3 h12 => by rw [mq_go_n (by omega) (by omega) (by omega), mq_up_j h12]
  have e12 : ∀ q, mq_go (mq_up ρ 12 p v) x 3 12 q = if q = p then v else ρ 12 q := fun q => by
    rw [mq_go_n (by omega) (by omega) (by omega)]
    simp [mq_up]
  have hne0 : ∀ y, (mq_go (mq_up ρ 12 p v) x 3 1 y ≠ 0 ↔ ρ 1 y ≠ 0) := by
    intro y
    rw [e1]
    by_cases hy : y = x
    · subst hy; simp [hx2]
    · simp [hy]
  have l2 : rr_ln 2 (3 + p) = 19 + 6 * p := by simp [rr_ln]
  refine ⟨?_, ?_, ?_, ?_, ?_, ?_, ?_, hT⟩
  · have g1 := hL.rem ok2 (by omega) hh
    rw [l2] at g1
    exact ((g1.upF (rr_freeP hp)).upF (rr_freeP hp)).keep (fun a b _ ha => mq_set_n (by omega)) (fun _ _ _ _ => ⟨rfl, rfl⟩)
  · have := hP.move ok2 hh ok3 (by omega) hx3 e1 e2 (fun y => eo 5 y (by omega) (by omega)) e01
    rw [hj] at this
    exact this
  · intro q hq
    obtain ⟨j1, j2, j3, j4, j5, j6, lm, j7, j8, j9⟩ := hJ q hq
    by_cases hqp : q = p
    · subst hqp
      have hs : ∀ k, k ≠ 3 → k ≠ 4 → cx_beg σ q t.length x v (18 + 6 * q) k = σ (18 + 6 * q) k := fun k h3 h4 => by
        unfold cx_beg
        rw [cx_up_k h4, cx_up_k h3, cx_rem_n (by omega) (by omega)]
      rw [mq_set_s]
      refine ⟨by simp, ?_, ?_, fun z => (by cases z), ?_, ?_, lm, j7, ?_, ?_⟩
      · unfold cx_beg
        rw [cx_up_k (by omega), cx_up_s]
        rfl
      · unfold cx_beg
        rw [cx_up_s, e12, if_pos rfl]
      · rw [e12, if_pos rfl]; exact hv
      · rw [hs 5 (by omega) (by omega), eo 13 q (by omega) (by omega)]; exact j6
      · rw [hs 6 (by omega) (by omega)]; exact j8
      · rw [eo 11 q (by omega) (by omega)]; exact j9
    · rw [mq_set_n (by omega), mq_set_n (by omega), cx_beg_n (by omega) (by omega) (by omega), e12, if_neg hqp, eo 13 q (by omega) (by omega), eo 11 q (by omega) (by omega)]
      exact ⟨j1, j2, j3, j4, j5, j6, lm, j7, j8, j9⟩
  · exact hM.keep (fun q hq => cx_beg_n (by omega) (by omega) (by omega)) hne0 (fun y => eo 9 y (by omega) (by omega)) (fun y => eo 10 y (by omega) (by omega))
  · refine hO.keep (fun q hq => cx_beg_n (by omega) (by omega) (by omega)) (fun y _ => ?_) (fun y => eo 5 y (by omega) (by omega)) (fun y => eo 8 y (by omega) (by omega))
    rw [e1]
    by_cases hy : y = x
    · subst hy; simp [hx2]
    · simp [hy]
  · exact hG.keep (fun y _ h0 => (hne0 y).mp h0) (fun y hy => cx_beg_n (by omega) (by omega) (by omega)) (fun y => eo 3 y (by omega) (by omega)) (fun y => eo 4 y (by omega) (by omega)) (fun y => eo 5 y (by omega) (by omega)) (fun y => eo 7 y (by omega) (by omega)) (fun _ _ => rfl) (fun _ _ => rfl)
  · exact hB.keep (cx_beg_n (by omega) (by omega) (by omega)) (cx_beg_n (by omega) (by omega) (by omega)) (cx_beg_n (by omega) (by omega) (by omega)) (fun y => eo 14 y (by omega) (by omega)) (fun y => eo 15 y (by omega) (by omega)) (fun y => eo 16 y (by omega) (by omega)) (by omega)
/-- moveRequest -/
def cx_mvr (σ : Nat → Nat → Int32) (p m nt nq x i : Nat) : Nat → Nat → Int32 :=
  cx_up (cx_up (cx_app (cx_up (cx_rem σ (3 + 5 * m) nt) (23 + 6 * p) i (nI x)) (19 + 6 * p) nq (nI x)) (18 + 6 * p) 6 (nI m)) 69 2 (σ 69 2 + 1)
theorem cx_mvr_n {σ : Nat → Nat → Int32} {p m nt nq x i j : Nat} (h1 : j ≠ 69) (h2 : j ≠ 18 + 6 * p) (h3 : j ≠ 19 + 6 * p) (h4 : j ≠ 20 + 6 * p) (h5 : j ≠ 23 + 6 * p) (h6 : j ≠ 3 + 5 * m) (h7 : j ≠ 4 + 5 * m) : cx_mvr σ p m nt nq x i j = σ j := by
  unfold cx_mvr
  rw [cx_up_J h1, cx_up_J h2, cx_app_n h3 (by omega), cx_up_J h5, cx_rem_n h6 (by omega)]
theorem mq_reqM_sp {ρ : Nat → Nat → Nat} {p m x i : Nat} : (∀ y, mq_reqM ρ p m x i 1 y = if y = x then 2 else ρ 1 y) ∧ (∀ y, mq_reqM ρ p m x i 2 y = if y = x then ρ 0 1 else ρ 2 y) ∧ (∀ j q, 3 ≤ j → j ≠ 8 → j ≠ 11 → j ≠ 16 → mq_reqM ρ p m x i j q = ρ j q) ∧ (∀ q, mq_reqM ρ p m x i 11 q = if q = p then (m + 1) % 3 else ρ 11 q) ∧ (∀ q, mq_reqM ρ p m x i 8 q = if q = x then i else ρ 8 q) ∧ (∀ q, mq_reqM ρ p m x i 16 q = if q = 2 then ρ 16 2 + 1 else ρ 16 q) ∧ mq_reqM ρ p m x i 0 1 = ρ 0 1 + 1 ∧ mq_reqM ρ p m x i 0 2 = 1 := by
  unfold mq_reqM mq_inc mq_go mq_up
  refine ⟨fun y => by simp, fun y => by simp, fun j q h3 h8 h11 h16 => ?_, fun q => by simp, fun q => by simp, fun q => by simp, by simp, by simp⟩
  have h0 : j ≠ 0 := by omega
  have h1 : j ≠ 1 := by omega
  have h2 : j ≠ 2 := by omega
  simp [h0, h1, h2, h8, h11, h16]
theorem rr_R.req {σ : Nat → Nat → Int32} {τ : Nat → Nat → Int64} {ρ : Nat → Nat → Nat} {μ : Nat → Int64} {lt : Int64} {pl : Nat → Nat → List Nat} (h : rr_R σ τ ρ μ lt pl) {p m x i : Nat} {t : List Nat} (hp : p < 4) (hm : m < 3) (hh : pl 1 m = x :: t) (hpx : mq_port (ρ 5 x) = p) (hl2 : (pl 2 (3 + p)).length < 2) (hi : i < 4) (hfree : ∀ y, y < 24 → mq_hold ρ p i y = false) :
    rr_R (cx_mvr σ p m t.length (pl 2 (3 + p)).length x i) τ (mq_reqM ρ p m x i) μ lt (mq_set (mq_set pl 1 m t) 2 (3 + p) (pl 2 (3 + p) ++ [x])) := by
  obtain ⟨hL, hP, hJ, hM, hO, hG, hB, hT⟩ := h
  have ok1 : mq_ok 1 m := Or.inl ⟨by simp, hm⟩
  have ok2 : mq_ok 2 (3 + p) := Or.inr ⟨by simp, by omega, by omega⟩
  obtain ⟨hx1, hx2, hx3⟩ := hP.mem ok1 (x := x) (by rw [hh]; simp)
  obtain ⟨e1, e2, eo, e11, e8, e16, e01, -⟩ := mq_reqM_sp (ρ := ρ) (p := p) (m := m) (x := x) (i := i)
  have hset : mq_set pl 1 m t 2 (3 + p) = pl 2 (3 + p) := mq_set_n (by omega)
  have hne0 : ∀ y, (mq_reqM ρ p m x i 1 y ≠ 0 ↔ ρ 1 y ≠ 0) := by
    intro y
    rw [e1]
    by_cases hy : y = x
    · subst hy; simp [hx2]
    · simp [hy]
  have l1 : rr_ln 1 m = 3 + 5 * m := by simp [rr_ln]
  have l2 : rr_ln 2 (3 + p) = 19 + 6 * p := by simp [rr_ln]
  refine ⟨?_, ?_, ?_, ?_, ?_, ?_, ?_, hT⟩
  · have g1 := hL.rem ok1 (by omega) hh
    have g2 := g1.upF (j := 23 + 6 * p) (k := i) (v := nI x) (rr_freeO hp)
    have g3 := g2.app (w := 2) (g := 3 + p) (x := x) ok2 (by omega) (by rw [hset]; simpa [rr_room] using hl2)
    rw [hset, l1, l2] at g3
    exact (g3.upF (rr_freeP hp)).upF (rr_freeB (by omega))
  · exact hP.move ok1 hh ok2 (by omega) (by unfold mq_in; rw [if_neg (by omega)]; omega) e1 e2 (fun y => eo 5 y (by omega) (by omega) (by omega) (by omega)) e01
  · intro q hq
    obtain ⟨j1, j2, j3, j4, j5, j6, lm, j7, j8, j9⟩ := hJ q hq
    rw [mq_set_n (by omega), mq_set_n (by omega), eo 12 q (by omega) (by omega) (by omega) (by omega), eo 13 q (by omega) (by omega) (by omega) (by omega), e11]
    by_cases hqp : q = p
    · subst hqp
      have hs : ∀ k, k ≠ 6 → cx_mvr σ q m t.length (pl 2 (3 + q)).length x i (18 + 6 * q) k = σ (18 + 6 * q) k := fun k h6 => by
        unfold cx_mvr
        rw [cx_up_J (by omega), cx_up_k h6, cx_app_n (by omega) (by omega), cx_up_J (by omega), cx_rem_n (by omega) (by omega)]
      rw [hs 3 (by omega), hs 4 (by omega), hs 5 (by omega), if_pos rfl]
      refine ⟨j1, j2, j3, j4, j5, j6, m, hm, ?_, rfl⟩
      unfold cx_mvr
      rw [cx_up_J (by omega), cx_up_s]
    · rw [cx_mvr_n (by omega) (by omega) (by omega) (by omega) (by omega) (by omega) (by omega), if_neg hqp]
      exact ⟨j1, j2, j3, j4, j5, j6, lm, j7, j8, j9⟩
  · exact hM.keep (fun q hq => cx_mvr_n (by omega) (by omega) (by omega) (by omega) (by omega) (by omega) (by omega)) hne0 (fun y => eo 9 y (by omega) (by omega) (by omega) (by omega)) (fun y => eo 10 y (by omega) (by omega) (by omega) (by omega))
  · obtain ⟨hO1, hO2⟩ := hO
    have hhold : ∀ q k y, mq_hold (mq_reqM ρ p m x i) q k y = true ↔ (mq_hold ρ q k y = true ∨ (y = x ∧ q = p ∧ k = i)) := by
      intro q k y
      rw [mq_hold_iff, mq_hold_iff, e1, e8, eo 5 y (by omega) (by omega) (by omega) (by omega)]
      by_cases hy : y = x
      · subst hy
        simp only [if_true]
        constructor
        · rintro ⟨-, -, a, b⟩
          exact Or.inr ⟨trivial, by omega, b.symm⟩
        · rintro (⟨a, b, -, -⟩ | ⟨-, a, b⟩)
          · omega
          · exact ⟨by omega, by omega, by omega, b.symm⟩
      · simp [hy]
    have hown : ∀ q k, cx_mvr σ p m t.length (pl 2 (3 + p)).length x i (23 + 6 * q) k = if q = p ∧ k = i then nI x else σ (23 + 6 * q) k := by
      intro q k
      unfold cx_mvr
      rw [cx_up_J (by omega), cx_up_J (by omega), cx_app_n (by omega) (by omega)]
      by_cases hq : q = p
      · subst hq
        by_cases hk : k = i
        · subst hk
          rw [cx_up_s, if_pos ⟨rfl, rfl⟩]
        · rw [cx_up_k hk, cx_rem_n (by omega) (by omega), if_neg (fun z => hk z.2)]
      · rw [cx_up_J (by omega), cx_rem_n (by omega) (by omega), if_neg (fun z => hq z.1)]
    refine ⟨fun q hq k hk => ⟨fun y hy g => ?_, fun hno => ?_⟩, fun y hy a b => ?_⟩
    · rw [hown]
      rcases (hhold q k y).mp g with g2 | ⟨rfl, rfl, rfl⟩
      · rw [if_neg]
        · exact (hO1 q hq k hk).1 y hy g2
        · intro z
          rw [z.1, z.2, hfree y hy] at g2
          cases g2
      · rw [if_pos ⟨rfl, rfl⟩]
    · rw [hown, if_neg]
      · refine (hO1 q hq k hk).2 fun y hy => ?_
        cases hb : mq_hold ρ q k y with
        | false => rfl
        | true =>
          have := hno y hy
          rw [(hhold q k y).mpr (Or.inl hb)] at this
          cases this
      · rintro ⟨rfl, rfl⟩
        have := hno x hx1
        rw [(hhold q k x).mpr (Or.inr ⟨rfl, rfl, rfl⟩)] at this
        cases this
    · rw [e8]
      rw [e1] at a b
      by_cases hy' : y = x
      · rw [if_pos hy']; exact hi
      · rw [if_neg hy'] at a b ⊢
        exact hO2 y hy a b
  · exact hG.keep (fun y _ h0 => (hne0 y).mp h0) (fun y hy => cx_mvr_n (by omega) (by omega) (by omega) (by omega) (by omega) (by omega) (by omega)) (fun y => eo 3 y (by omega) (by omega) (by omega) (by omega)) (fun y => eo 4 y (by omega) (by omega) (by omega) (by omega)) (fun y => eo 5 y (by omega) (by omega) (by omega) (by omega)) (fun y => eo 7 y (by omega) (by omega) (by omega) (by omega)) (fun _ _ => rfl) (fun _ _ => rfl)
  · obtain ⟨hB1, hB2, hB3, hB4⟩ := hB
    refine ⟨fun a ha => ?_, fun k hk => ?_, fun k hk => ?_, ?_⟩
    · rw [cx_mvr_n (by omega) (by omega) (by omega) (by omega) (by omega) (by omega) (by omega), eo 14 a (by omega) (by omega) (by omega) (by omega)]
      exact hB1 a ha
    · rw [cx_mvr_n (by omega) (by omega) (by omega) (by omega) (by omega) (by omega) (by omega), eo 15 k (by omega) (by omega) (by omega) (by omega)]
      exact hB2 k hk
    · rw [e16]
      by_cases h2 : k = 2
      · subst h2
        unfold cx_mvr
        rw [cx_up_s, if_pos rfl, hB3 2 (by omega), nI_succ]
      · rw [if_neg h2]
        unfold cx_mvr
        rw [cx_up_k h2, cx_up_J (by omega), cx_app_n (by omega) (by omega), cx_up_J (by omega), cx_rem_n (by omega) (by omega)]
        exact hB3 k hk
    · rw [e16, e01, if_neg (by omega)]
      omega
end
section
/-! a job is done: the class's finishJob beside the reference's -/
theorem rr_wr {σ : Nat → Nat → Int32} {ρ : Nat → Nat → Nat} {so mk a : Nat} {d : Int64} (h : ∀ b, b < 640 → ρ 14 b < 256 ∧ σ 67 b = (nI (ρ 14 b)).toInt8.toInt32) : ∀ n b, b < 640 → mq_wr ρ so mk a d n 14 b < 256 ∧ cx_wr σ so mk a d n 67 b = (nI (mq_wr ρ so mk a d n 14 b)).toInt8.toInt32 := by
  intro n
  induction n with
  | zero => exact h
  | succ n ih =>
    intro b hb
    by_cases hc : so = 1 ∨ mk / 2 ^ n % 2 = 1
    · simp only [mq_wr, cx_wr, if_pos hc]
      by_cases e : b = a + n
      · subst e
        rw [mq_up_s, cx_up_s]
        exact ⟨Nat.mod_lt _ (by omega), rfl⟩
      · rw [mq_up_k e, cx_up_k e]
        exact ih b hb
    · simp only [mq_wr, cx_wr, if_neg hc]
      exact ih b hb
def cx_car (σ : Nat → Nat → Int32) (so mk a n : Nat) (d : Int64) : Nat → Nat → Int32 := if 640 ≤ a ∨ so = 0 then σ else cx_wr σ so mk a d n
theorem cx_car_n {σ : Nat → Nat → Int32} {so mk a n j : Nat} {d : Int64} (h : j ≠ 67) : cx_car σ so mk a n d j = σ j := by
  unfold cx_car
  split
  · rfl
  · exact cx_wr_n h
theorem mq_work_n {ρ : Nat → Nat → Nat} {d : Int64} {x j q : Nat} (h : j ≠ 14) : (mq_work ρ d x).1 j q = ρ j q := by
  unfold mq_work
  split
  · rfl
  · split
    · rfl
    · exact mq_wr_n h
theorem rr_car {σ : Nat → Nat → Int32} {ρ : Nat → Nat → Nat} {d : Int64} {x : Nat} (h : ∀ b, b < 640 → ρ 14 b < 256 ∧ σ 67 b = (nI (ρ 14 b)).toInt8.toInt32) : ∀ b, b < 640 → (mq_work ρ d x).1 14 b < 256 ∧ cx_car σ (ρ 3 x) (ρ 7 x) (ρ 5 x) (ρ 4 x) d 67 b = (nI ((mq_work ρ d x).1 14 b)).toInt8.toInt32 := by
  intro b hb
  unfold mq_work cx_car
  by_cases h1 : 640 ≤ ρ 5 x
  · rw [if_pos h1, if_pos (Or.inl h1)]
    exact h b hb
  · by_cases h2 : ρ 3 x = 0
    · rw [if_neg h1, if_pos h2, if_pos (Or.inr h2)]
      exact h b hb
    · rw [if_neg h1, if_neg h2, if_neg (by omega)]
      exact rr_wr h _ b hb
def cx_fin (σ : Nat → Nat → Int32) (p na x so mk a n c3 : Nat) (d : Int64) : Nat → Nat → Int32 :=
  cx_up (cx_up (cx_car (cx_up (cx_up (cx_app σ (21 + 6 * p) na (nI x)) (18 + 6 * p) 3 (-1)) (18 + 6 * p) 5 (σ (18 + 6 * p) 5 + 1)) so mk a n d) 68 (c3 % 32) (nI (64 * p + x))) 69 3 (σ 69 3 + 1)
theorem cx_fin_n {σ : Nat → Nat → Int32} {p na x so mk a n c3 j : Nat} {d : Int64} (h1 : j ≠ 69) (h2 : j ≠ 68) (h3 : j ≠ 67) (h4 : j ≠ 18 + 6 * p) (h5 : j ≠ 21 + 6 * p) (h6 : j ≠ 22 + 6 * p) : cx_fin σ p na x so mk a n c3 d j = σ j := by
  unfold cx_fin
  rw [cx_up_J h1, cx_up_J h2, cx_car_n h3, cx_up_J h4, cx_up_J h4, cx_app_n h5 (by omega)]
theorem mq_fin_sp {ρ : Nat → Nat → Nat} {p x : Nat} : (∀ y, mq_fin ρ p x 1 y = if y = x then 4 else ρ 1 y) ∧ (∀ y, mq_fin ρ p x 2 y = if y = x then ρ 0 1 else ρ 2 y) ∧ (∀ j q, 3 ≤ j → j ≠ 13 → j ≠ 15 → j ≠ 16 → mq_fin ρ p x j q = ρ j q) ∧ (∀ q, mq_fin ρ p x 13 q = if q = p then ρ 13 p + 1 else ρ 13 q) ∧ (∀ q, mq_fin ρ p x 15 q = if q = ρ 16 3 % 32 then 64 * p + x else ρ 15 q) ∧ (∀ q, mq_fin ρ p x 16 q = if q = 3 then ρ 16 3 + 1 else ρ 16 q) ∧ mq_fin ρ p x 0 1 = ρ 0 1 + 1 ∧ mq_fin ρ p x 0 2 = 1 := by
  unfold mq_fin mq_inc mq_go mq_up
  refine ⟨fun y => by simp, fun y => by simp, fun j q h3 h13 h15 h16 => ?_, fun q => by simp, fun q => by simp, fun q => by simp, by simp, by simp⟩
  have h0 : j ≠ 0 := by omega
  have h1 : j ≠ 1 := by omega
  have h2 : j ≠ 2 := by omega
  simp [h0, h1, h2, h13, h15, h16]
theorem rr_L.car {σ : Nat → Nat → Int32} {pl : Nat → Nat → List Nat} (h : rr_L σ pl) {so mk a n : Nat} {d : Int64} : rr_L (cx_car σ so mk a n d) pl :=
  h.keep (fun _ _ _ _ => rfl) (fun a b hab ha => by
    have hj := rr_freeB (j := 67) (by omega) a b hab ha
    rw [cx_car_n (Ne.symm hj.1), cx_car_n (Ne.symm hj.2)]
    exact ⟨rfl, rfl⟩)
theorem rr_R.fin {σ : Nat → Nat → Int32} {τ : Nat → Nat → Int64} {ρ : Nat → Nat → Nat} {μ : Nat → Int64} {lt : Int64} {pl : Nat → Nat → List Nat} (h : rr_R σ τ ρ μ lt pl) {p x : Nat} (hp : p < 4) (hj : pl 3 (3 + p) = [x]) (h0 : ρ 12 p = 0) (hl : (pl 4 (3 + p)).length < 2) :
    rr_R (cx_fin σ p (pl 4 (3 + p)).length x (ρ 3 x) (ρ 7 x) (ρ 5 x) (ρ 4 x) (ρ 16 3) (μ x)) (gx_upL τ (43 + x) 0 (mq_work ρ (μ x) x).2) (mq_fin (mq_work ρ (μ x) x).1 p x) (mq_upL μ x (mq_work ρ (μ x) x).2) lt (mq_set (mq_set pl 3 (3 + p) []) 4 (3 + p) (pl 4 (3 + p) ++ [x])) := by
  obtain ⟨hL, hP, hJ, hM, hO, hG, hB, hT⟩ := h
  have ok3 : mq_ok 3 (3 + p) := Or.inr ⟨by simp, by omega, by omega⟩
  have ok4 : mq_ok 4 (3 + p) := Or.inr ⟨by simp, by omega, by omega⟩
  obtain ⟨hx1, hx2, hx3⟩ := hP.mem ok3 (x := x) (by rw [hj]; simp)
  have hw : ∀ i q, i ≠ 14 → (mq_work ρ (μ x) x).1 i q = ρ i q := fun i q hi => mq_work_n hi
  obtain ⟨e1, e2, eo, e13, e15, e16, e01, -⟩ := mq_fin_sp (ρ := (mq_work ρ (μ x) x).1) (p := p) (x := x)
  have hcar := rr_car (d := μ x) (x := x) hB.1
  generalize hρ : (mq_work ρ (μ x) x).1 = ρw at hw e1 e2 eo e13 e15 e16 e01 hcar ⊢
  generalize hvv : (mq_work ρ (μ x) x).2 = vv
  have eo' : ∀ j q, 3 ≤ j → j ≠ 13 → j ≠ 14 → j ≠ 15 → j ≠ 16 → mq_fin ρw p x j q = ρ j q := fun j q h3 h13 h14 h15 h16 => by rw [eo j q h3 h13 h15 h16, hw j q h14]
  have f1 : ∀ y, mq_fin ρw p x 1 y = if y = x then 4 else ρ 1 y := fun y => by rw [e1, hw 1 y (by omega)]
  have f2 : ∀ y, mq_fin ρw p x 2 y = if y = x then ρ 0 1 else ρ 2 y := fun y => by rw [e2, hw 2 y (by omega), hw 0 1 (by omega)]
  have f01 : mq_fin ρw p x 0 1 = ρ 0 1 + 1 := by rw [e01, hw 0 1 (by omega)]
  have hne0 : ∀ y, (mq_fin ρw p x 1 y ≠ 0 ↔ ρ 1 y ≠ 0) := by
    intro y
    rw [f1]
    by_cases hy : y = x
    · subst hy; simp [hx2]
    · simp [hy]
  have l4 : rr_ln 4 (3 + p) = 21 + 6 * p := by simp [rr_ln]
  have hset : mq_set pl 3 (3 + p) [] 4 (3 + p) = pl 4 (3 + p) := mq_set_n (by omega)
  refine ⟨?_, ?_, ?_, ?_, ?_, ?_, ?_, ?_⟩
  · have g1 := hL.app (w := 4) (g := 3 + p) (x := x) ok4 (by omega) (by simpa [rr_room] using hl)
    rw [l4] at g1
    have g2 := ((((g1.upF (j := 18 + 6 * p) (k := 3) (v := -1) (rr_freeP hp)).upF (j := 18 + 6 * p) (k := 5) (v := σ (18 + 6 * p) 5 + 1) (rr_freeP hp)).car (so := ρ 3 x) (mk := ρ 7 x) (a := ρ 5 x) (n := ρ 4 x) (d := μ x)).upF (j := 68) (k := ρ 16 3 % 32) (v := nI (64 * p + x)) (rr_freeB (by omega))).upF (j := 69) (k := 3) (v := σ 69 3 + 1) (rr_freeB (by omega))
    refine g2.keep (fun a b hab ha => ?_) (fun _ _ _ _ => ⟨rfl, rfl⟩)
    by_cases e : a = 4 ∧ b = 3 + p
    · obtain ⟨rfl, rfl⟩ := e
      rw [mq_set_s, mq_set_s]
    · rw [mq_set_n e, mq_set_n e, mq_set_n (by omega)]
  · exact hP.move ok3 hj ok4 (by omega) hx3 f1 f2 (fun y => eo' 5 y (by omega) (by omega) (by omega) (by omega) (by omega)) f01
  · intro q hq
    obtain ⟨j1, j2, j3, j4, j5, j6, lm, j7, j8, j9⟩ := hJ q hq
    rw [mq_set_n (by omega), eo' 12 q (by omega) (by omega) (by omega) (by omega) (by omega), e13, eo' 11 q (by omega) (by omega) (by omega) (by omega) (by omega), hw 13 q (by omega), hw 13 p (by omega)]
    by_cases hqp : q = p
    · subst hqp
      have hs : ∀ k, k ≠ 3 → k ≠ 5 → cx_fin σ q (pl 4 (3 + q)).length x (ρ 3 x) (ρ 7 x) (ρ 5 x) (ρ 4 x) (ρ 16 3) (μ x) (18 + 6 * q) k = σ (18 + 6 * q) k := fun k h3 h5 => by
        unfold cx_fin
        rw [cx_up_J (by omega), cx_up_J (by omega), cx_car_n (by omega), cx_up_k h5, cx_up_k h3, cx_app_n (by omega) (by omega)]
      rw [mq_set_s, if_pos rfl]
      refine ⟨by simp, ?_, ?_, fun _ => h0, j5, ?_, lm, j7, ?_, j9⟩
      · unfold cx_fin
        rw [cx_up_J (by omega), cx_up_J (by omega), cx_car_n (by omega), cx_up_k (by omega), cx_up_s]
        rfl
      · rw [hs 4 (by omega) (by omega)]; exact j3
      · unfold cx_fin
        rw [cx_up_J (by omega), cx_up_J (by omega), cx_car_n (by omega), cx_up_s, j6, nI_succ]
      · rw [hs 6 (by omega) (by omega)]; exact j8
    · rw [mq_set_n (by omega), cx_fin_n (by omega) (by omega) (by omega) (by omega) (by omega) (by omega), if_neg hqp]
      exact ⟨j1, j2, j3, j4, j5, j6, lm, j7, j8, j9⟩
  · exact hM.keep (fun q hq => cx_fin_n (by omega) (by omega) (by omega) (by omega) (by omega) (by omega)) hne0 (fun y => eo' 9 y (by omega) (by omega) (by omega) (by omega) (by omega)) (fun y => eo' 10 y (by omega) (by omega) (by omega) (by omega) (by omega))
  · refine hO.keep (fun q hq => cx_fin_n (by omega) (by omega) (by omega) (by omega) (by omega) (by omega)) (fun y _ => ?_) (fun y => eo' 5 y (by omega) (by omega) (by omega) (by omega) (by omega)) (fun y => eo' 8 y (by omega) (by omega) (by omega) (by omega) (by omega))
    rw [f1]
    by_cases hy : y = x
    · subst hy; simp [hx2]
    · simp [hy]
  · intro y hy hy0
    have hg := hG y hy ((hne0 y).mp hy0)
    obtain ⟨a, b, c, d, e⟩ := hg
    unfold rr_G1
    rw [cx_fin_n (by omega) (by omega) (by omega) (by omega) (by omega) (by omega), eo' 3 y (by omega) (by omega) (by omega) (by omega) (by omega), eo' 4 y (by omega) (by omega) (by omega) (by omega) (by omega), eo' 5 y (by omega) (by omega) (by omega) (by omega) (by omega), eo' 7 y (by omega) (by omega) (by omega) (by omega) (by omega)]
    refine ⟨a, b, c, d, ?_⟩
    by_cases hyx : y = x
    · subst hyx
      rw [gx_upL_s]
      simp [mq_upL]
    · rw [gx_upL_J (by omega), e]
      simp [mq_upL, hyx]
  · obtain ⟨hB1, hB2, hB3, hB4⟩ := hB
    refine ⟨fun b hb => ?_, fun i hi => ?_, fun i hi => ?_, ?_⟩
    · have := hcar b hb
      rw [eo 14 b (by omega) (by omega) (by omega) (by omega)]
      refine ⟨this.1, ?_⟩
      unfold cx_fin
      rw [cx_up_J (by omega), cx_up_J (by omega), ← this.2]
      unfold cx_car
      split
      · rw [cx_up_J (by omega), cx_up_J (by omega), cx_app_n (by omega) (by omega)]
      · clear this hcar
        generalize ρ 4 x = n
        induction n with
        | zero => simp only [cx_wr]; rw [cx_up_J (by omega), cx_up_J (by omega), cx_app_n (by omega) (by omega)]
        | succ n ih =>
          simp only [cx_wr]
          split
          · by_cases hbn : b = ρ 5 x + n
            · subst hbn; rw [cx_up_s, cx_up_s]
            · rw [cx_up_k hbn, cx_up_k hbn]; exact ih
          · exact ih
    · rw [e15, hw 15 i (by omega), hw 16 3 (by omega)]
      unfold cx_fin
      rw [cx_up_J (by omega)]
      by_cases hi' : i = ρ 16 3 % 32
      · subst hi'
        rw [cx_up_s, if_pos rfl]
      · rw [cx_up_k hi', if_neg hi', cx_car_n (by omega), cx_up_J (by omega), cx_up_J (by omega), cx_app_n (by omega) (by omega)]
        exact hB2 i hi
    · rw [e16, hw 16 i (by omega), hw 16 3 (by omega)]
      unfold cx_fin
      by_cases hi' : i = 3
      · subst hi'
        rw [cx_up_s, if_pos rfl, hB3 3 (by omega), nI_succ]
      · rw [cx_up_k hi', if_neg hi', cx_up_J (by omega), cx_car_n (by omega), cx_up_J (by omega), cx_up_J (by omega), cx_app_n (by omega) (by omega)]
        exact hB3 i hi
    · rw [e16, f01, if_pos rfl, hw 16 3 (by omega)]
      omega
  · rw [gx_upL_J (by omega)]
    exact hT
end
section
/-! what the class decides is what the reference decides -/
theorem rr_R.own {σ : Nat → Nat → Int32} {τ : Nat → Nat → Int64} {ρ : Nat → Nat → Nat} {μ : Nat → Int64} {lt : Int64} {pl : Nat → Nat → List Nat} (h : rr_R σ τ ρ μ lt pl) {p i : Nat} (hp : p < 4) (hi : i < 4) : σ (23 + 6 * p) i = mq_oI (mq_holder ρ p i) := by
  have hO := h.2.2.2.2.1.1 p hp i hi
  obtain ⟨h1, h2⟩ := mq_fnd_sp (p := mq_hold ρ p i) 24 0
  cases hf : mq_holder ρ p i with
  | none => exact hO.2 (fun x hx => h2 hf x (by omega) (by omega))
  | some x =>
    obtain ⟨-, g2, g3, -⟩ := h1 x hf
    exact hO.1 x (by omega) g3
theorem mq_holder_lt {ρ : Nat → Nat → Nat} {p i x : Nat} (h : mq_holder ρ p i = some x) : x < 24 := by
  have := ((mq_fnd_sp (p := mq_hold ρ p i) 24 0).1 x h).2.1
  omega
theorem rr_R.freeB {σ : Nat → Nat → Int32} {τ : Nat → Nat → Int64} {ρ : Nat → Nat → Nat} {μ : Nat → Int64} {lt : Int64} {pl : Nat → Nat → List Nat} (h : rr_R σ τ ρ μ lt pl) {p i : Nat} (hp : p < 4) (hi : i < 4) : (σ (23 + 6 * p) i = -1) ↔ (mq_holder ρ p i).isNone = true := by
  rw [h.own hp hi]
  cases hf : mq_holder ρ p i with
  | none => simp [mq_oI]
  | some x =>
    have := rr_m1 (mq_holder_lt hf)
    simp [mq_oI, this]
theorem mq_first_of {ρ : Nat → Nat → Nat} {pl : Nat → Nat → List Nat} (hP : mq_Pl ρ pl) {w g x : Nat} (hk : mq_ok w g) (hf : mq_first ρ w g = some x) : ∃ t, pl w g = x :: t := by
  rw [hP.first hk] at hf
  exact List.head?_eq_some_iff.mp hf
theorem rr_ansD {ρ : Nat → Nat → Nat} {pl : Nat → Nat → List Nat} (hP : mq_Pl ρ pl) {m k : Nat} (hm : m < 3) (hd : mq_ansD ρ m = some k) : k < 4 ∧ (pl 5 m).length < 4 ∧ ∃ x t, pl 4 (3 + (ρ 10 m + k) % 4) = x :: t ∧ x / 8 = m ∧ mq_answers ρ m = mq_ansM ρ m ((ρ 10 m + k) % 4) x := by
  have ok5 : mq_ok 5 m := Or.inl ⟨by simp, hm⟩
  have hd0 := hd
  unfold mq_ansD at hd
  split at hd
  · cases hd
  · next hc =>
    rw [hP.many ok5] at hc
    obtain ⟨-, g2, g3, -⟩ := (mq_fnd_sp (p := mq_ansK ρ m) 4 0).1 k hd
    unfold mq_ansK at g3
    cases hf : mq_first ρ 4 (3 + (ρ 10 m + k) % 4) with
    | none => rw [hf] at g3; cases g3
    | some x =>
      rw [hf] at g3
      obtain ⟨t, ht⟩ := mq_first_of hP (Or.inr ⟨by simp, by omega, by omega⟩) hf
      refine ⟨by omega, by omega, x, t, ht, by simpa using g3, ?_⟩
      unfold mq_answers
      rw [hd0]
      show mq_ansM ρ m ((ρ 10 m + k) % 4) ((mq_first ρ 4 (3 + (ρ 10 m + k) % 4)).getD 0) = _
      rw [hf]
      rfl
theorem rr_ansN {ρ : Nat → Nat → Nat} {m : Nat} (hd : mq_ansD ρ m = none) : mq_answers ρ m = ρ := by
  unfold mq_answers
  rw [hd]
theorem mq_free_sp {ρ : Nat → Nat → Nat} {p i : Nat} (h : mq_free ρ p = some i) : i < 4 ∧ ∀ y, y < 24 → mq_hold ρ p i y = false := by
  obtain ⟨-, g2, g3, -⟩ := (mq_fnd_sp (p := fun i => (mq_holder ρ p i).isNone) 4 0).1 i h
  refine ⟨by omega, fun y hy => ?_⟩
  have hn : mq_holder ρ p i = none := by
    cases hf : mq_holder ρ p i with
    | none => rfl
    | some x => rw [hf] at g3; cases g3
  exact (mq_fnd_sp (p := mq_hold ρ p i) 24 0).2 hn y (by omega) (by omega)
theorem rr_reqD {ρ : Nat → Nat → Nat} {pl : Nat → Nat → List Nat} (hP : mq_Pl ρ pl) {p k : Nat} (hp : p < 4) (hd : mq_reqD ρ p = some k) : k < 3 ∧ (pl 2 (3 + p)).length < 2 ∧ ∃ i x t, mq_free ρ p = some i ∧ i < 4 ∧ (∀ y, y < 24 → mq_hold ρ p i y = false) ∧ pl 1 ((ρ 11 p + k) % 3) = x :: t ∧ mq_port (ρ 5 x) = p ∧ mq_fetch ρ p = mq_reqM ρ p ((ρ 11 p + k) % 3) x i := by
  have ok2 : mq_ok 2 (3 + p) := Or.inr ⟨by simp, by omega, by omega⟩
  have hd0 := hd
  unfold mq_reqD at hd
  split at hd
  · cases hd
  · next hc =>
    rw [hP.many ok2] at hc
    obtain ⟨-, g2, g3, -⟩ := (mq_fnd_sp (p := mq_reqK ρ p) 3 0).1 k hd
    unfold mq_reqK at g3
    cases hfr : mq_free ρ p with
    | none => exact absurd (Or.inl hfr) hc
    | some i =>
      obtain ⟨hi, hno⟩ := mq_free_sp hfr
      cases hf : mq_first ρ 1 ((ρ 11 p + k) % 3) with
      | none => rw [hf] at g3; cases g3
      | some x =>
        rw [hf] at g3
        obtain ⟨t, ht⟩ := mq_first_of hP (w := 1) (g := (ρ 11 p + k) % 3) (Or.inl ⟨by simp, by omega⟩) hf
        refine ⟨by omega, by omega, i, x, t, rfl, hi, hno, ht, by simpa using g3, ?_⟩
        unfold mq_fetch
        rw [hd0]
        show mq_reqM ρ p ((ρ 11 p + k) % 3) ((mq_first ρ 1 ((ρ 11 p + k) % 3)).getD 0) ((mq_free ρ p).getD 0) = _
        rw [hf, hfr]
        rfl
theorem rr_reqN {ρ : Nat → Nat → Nat} {p : Nat} (hd : mq_reqD ρ p = none) : mq_fetch ρ p = ρ := by
  unfold mq_fetch
  rw [hd]
end
section
/-! ticks in which nothing moves -/
def mq_sim (ρ ρ' : Nat → Nat → Nat) : Prop := ∀ i q, i ≠ 12 → i ≠ 16 → ρ' i q = ρ i q
theorem mq_sim.is {ρ ρ' : Nat → Nat → Nat} (h : mq_sim ρ ρ') : mq_is ρ' = mq_is ρ := by
  funext w g x
  unfold mq_is
  rw [h 1 x (by omega) (by omega), h 5 x (by omega) (by omega)]
theorem mq_sim.many {ρ ρ' : Nat → Nat → Nat} (h : mq_sim ρ ρ') (w g : Nat) : mq_many ρ' w g = mq_many ρ w g := by
  unfold mq_many
  rw [h.is]
theorem mq_sim.first {ρ ρ' : Nat → Nat → Nat} (h : mq_sim ρ ρ') (w g : Nat) : mq_first ρ' w g = mq_first ρ w g := by
  unfold mq_first
  rw [h.is, show ρ' 2 = ρ 2 from funext fun q => h 2 q (by omega) (by omega)]
theorem mq_sim.free {ρ ρ' : Nat → Nat → Nat} (h : mq_sim ρ ρ') (p : Nat) : mq_free ρ' p = mq_free ρ p := by
  have hh : mq_hold ρ' = mq_hold ρ := by
    funext p i x
    unfold mq_hold
    rw [h 1 x (by omega) (by omega), h 5 x (by omega) (by omega), h 8 x (by omega) (by omega)]
  unfold mq_free mq_holder
  rw [hh]
theorem mq_sim.ansD {ρ ρ' : Nat → Nat → Nat} (h : mq_sim ρ ρ') (m : Nat) : mq_ansD ρ' m = mq_ansD ρ m := by
  have hk : mq_ansK ρ' m = mq_ansK ρ m := by
    funext k
    unfold mq_ansK
    rw [h 10 m (by omega) (by omega), h.first]
  unfold mq_ansD
  rw [hk, h 9 m (by omega) (by omega), h.many]
theorem mq_sim.reqD {ρ ρ' : Nat → Nat → Nat} (h : mq_sim ρ ρ') (p : Nat) : mq_reqD ρ' p = mq_reqD ρ p := by
  have hk : mq_reqK ρ' p = mq_reqK ρ p := by
    funext k
    unfold mq_reqK
    rw [h 11 p (by omega) (by omega), h.first]
    cases mq_first ρ 1 ((ρ 11 p + k) % 3) with
    | none => rfl
    | some x =>
      show (mq_port (ρ' 5 x) == p) = (mq_port (ρ 5 x) == p)
      rw [h 5 x (by omega) (by omega)]
  unfold mq_reqD
  rw [hk, h.free, h.many]
def mq_quiet (ρ : Nat → Nat → Nat) : Prop := (∀ m, m < 3 → mq_ansD ρ m = none) ∧ (∀ p, p < 4 → ρ 12 p = 0) ∧ (∀ p, p < 4 → (mq_first ρ 3 (3 + p) = none ∧ mq_first ρ 2 (3 + p) = none) ∨ (mq_first ρ 3 (3 + p) ≠ none ∧ 1 < mq_many ρ 4 (3 + p))) ∧ ∀ p, p < 4 → mq_reqD ρ p = none
theorem mq_up_same {ρ : Nat → Nat → Nat} {j k v : Nat} (h : ρ j k = v) : mq_up ρ j k v = ρ := by
  funext i q
  unfold mq_up
  split
  · next e => rw [e.1, e.2, h]
  · rfl
theorem mq_quiet.serve {ρ : Nat → Nat → Nat} {μ : Nat → Int64} (h : mq_quiet ρ) {p : Nat} (hp : p < 4) : mq_serve ρ μ p = (ρ, μ) := by
  have h12 := h.2.1 p hp
  have hcd : mq_cd ρ p = ρ := mq_up_same (by rw [h12])
  unfold mq_serve
  rcases h.2.2.1 p hp with ⟨h1, h2⟩ | ⟨h1, h2⟩
  · rw [h1]
    show (mq_begin ρ p, μ) = _
    unfold mq_begin
    rw [h2]
  · cases hf : mq_first ρ 3 (3 + p) with
    | none => exact absurd hf h1
    | some x =>
      have hd : mq_finD (mq_cd ρ p) p = none := by
        rw [hcd]
        unfold mq_finD
        rw [if_pos (Or.inr h2)]
      show (match mq_finD (mq_cd ρ p) p with | none => (mq_cd ρ p, μ) | some _ => _) = _
      rw [hd]
      show (mq_cd ρ p, μ) = _
      rw [hcd]
theorem mq_quiet.mid {ρ : Nat → Nat → Nat} {μ : Nat → Int64} (h : mq_quiet ρ) (h0 : ρ 0 2 = 0) : mq_mid ρ μ = (ρ, μ) := by
  have e0 : mq_up ρ 0 2 0 = ρ := mq_up_same h0
  have ea : mq_ansN ρ 3 = ρ := by
    simp only [mq_ansN]
    rw [rr_ansN (h.1 0 (by omega)), rr_ansN (h.1 1 (by omega)), rr_ansN (h.1 2 (by omega))]
  have es : mq_srv ρ μ 4 = (ρ, μ) := by
    simp only [mq_srv]
    rw [h.serve (p := 0) (by omega)]
    simp only
    rw [h.serve (p := 1) (by omega)]
    simp only
    rw [h.serve (p := 2) (by omega)]
    simp only
    rw [h.serve (p := 3) (by omega)]
  have ef : mq_ftc ρ 4 = ρ := by
    simp only [mq_ftc]
    rw [rr_reqN (h.2.2.2 0 (by omega)), rr_reqN (h.2.2.2 1 (by omega)), rr_reqN (h.2.2.2 2 (by omega)), rr_reqN (h.2.2.2 3 (by omega))]
  unfold mq_mid
  rw [e0, ea, es]
  show (mq_ftc ρ 4, μ) = _
  rw [ef]
theorem mq_quiet.congr {ρ ρ' : Nat → Nat → Nat} (h : mq_quiet ρ) (hs : mq_sim ρ ρ') (h12 : ∀ p, p < 4 → ρ' 12 p = 0) : mq_quiet ρ' := by
  refine ⟨fun m hm => by rw [hs.ansD]; exact h.1 m hm, h12, fun p hp => ?_, fun p hp => by rw [hs.reqD]; exact h.2.2.2 p hp⟩
  rw [hs.first, hs.first, hs.many]
  exact h.2.2.1 p hp
theorem mq_bump_sim {ρ : Nat → Nat → Nat} {k : Nat} : mq_sim ρ (mq_bump ρ k) := fun i q _ h16 => by
  unfold mq_bump
  rw [mq_up_j h16, mq_up_j h16]
theorem mq_quiet.tick {ρ : Nat → Nat → Nat} {μ : Nat → Int64} (h : mq_quiet ρ) (h0 : ρ 0 2 = 0) : ∀ k, mq_tick ρ μ k = (mq_bump ρ k, μ) := by
  intro k
  induction k with
  | zero =>
    show (ρ, μ) = _
    unfold mq_bump
    rw [mq_up_same (v := ρ 16 0 + 0) (by omega), mq_up_same (by omega)]
  | succ k ih =>
    have hq : mq_quiet (mq_bump ρ k) := h.congr mq_bump_sim (fun p hp => by
      unfold mq_bump
      rw [mq_up_j (by omega), mq_up_j (by omega)]
      exact h.2.1 p hp)
    have hb0 : mq_bump ρ k 0 2 = 0 := by rw [mq_bump_sim 0 2 (by omega) (by omega)]; exact h0
    show mq_tick1 (mq_tick ρ μ k).1 (mq_tick ρ μ k).2 = _
    rw [ih]
    unfold mq_tick1
    rw [hq.mid hb0]
    show (mq_end (mq_bump ρ k), μ) = _
    congr 1
    unfold mq_end mq_inc
    rw [hb0]
    funext i q
    unfold mq_bump mq_up
    by_cases hi : i = 16
    · subst hi
      by_cases h7 : q = 7
      · subst h7; simp; omega
      · by_cases hq0 : q = 0
        · subst hq0; simp; omega
        · simp [h7, hq0]
    · simp [hi]
theorem mq_tick_add {ρ : Nat → Nat → Nat} {μ : Nat → Int64} (a : Nat) : ∀ b, mq_tick ρ μ (a + b) = mq_tick (mq_tick ρ μ a).1 (mq_tick ρ μ a).2 b := by
  intro b
  induction b with
  | zero => rfl
  | succ b ih =>
    show mq_tick1 (mq_tick ρ μ (a + b)).1 (mq_tick ρ μ (a + b)).2 = _
    rw [ih]
    rfl
theorem mq_begin_go {ρ : Nat → Nat → Nat} {p : Nat} : (mq_first ρ 2 (3 + p) = none ∧ mq_begin ρ p = ρ) ∨ mq_begin ρ p 0 2 = 1 := by
  unfold mq_begin
  cases mq_first ρ 2 (3 + p) with
  | none => exact Or.inl ⟨rfl, rfl⟩
  | some x => exact Or.inr mq_go_02
theorem mq_begin_1 {ρ : Nat → Nat → Nat} {p : Nat} (h : ρ 0 2 = 1) : mq_begin ρ p 0 2 = 1 := by
  rcases mq_begin_go (ρ := ρ) (p := p) with ⟨-, e⟩ | e
  · rw [e]; exact h
  · exact e
theorem mq_serve_flag {ρ : Nat → Nat → Nat} {μ : Nat → Int64} {p : Nat} : (mq_first ρ 3 (3 + p) = none ∧ mq_first ρ 2 (3 + p) = none ∧ mq_serve ρ μ p = (ρ, μ)) ∨ (mq_first ρ 3 (3 + p) ≠ none ∧ mq_finD (mq_cd ρ p) p = none ∧ mq_serve ρ μ p = (mq_cd ρ p, μ)) ∨ (mq_serve ρ μ p).1 0 2 = 1 := by
  unfold mq_serve
  cases hf : mq_first ρ 3 (3 + p) with
  | none =>
    rcases mq_begin_go (ρ := ρ) (p := p) with ⟨e1, e2⟩ | e
    · exact Or.inl ⟨rfl, e1, by show (mq_begin ρ p, μ) = _; rw [e2]⟩
    · exact Or.inr (Or.inr e)
  | some x =>
    cases hd : mq_finD (mq_cd ρ p) p with
    | none => exact Or.inr (Or.inl ⟨by simp, rfl, rfl⟩)
    | some y =>
      refine Or.inr (Or.inr ?_)
      show mq_begin (mq_fin _ p x) p 0 2 = 1
      exact mq_begin_1 (mq_fin_sp.2.2.2.2.2.2.2)
theorem mq_ans_flag {ρ : Nat → Nat → Nat} {m : Nat} : (mq_ansD ρ m = none ∧ mq_answers ρ m = ρ) ∨ mq_answers ρ m 0 2 = 1 := by
  unfold mq_answers
  cases mq_ansD ρ m with
  | none => exact Or.inl ⟨rfl, rfl⟩
  | some k => exact Or.inr mq_ansM_sp.2.2.2.2.2.2
theorem mq_ftc_flag {ρ : Nat → Nat → Nat} {p : Nat} : (mq_reqD ρ p = none ∧ mq_fetch ρ p = ρ) ∨ mq_fetch ρ p 0 2 = 1 := by
  unfold mq_fetch
  cases mq_reqD ρ p with
  | none => exact Or.inl ⟨rfl, rfl⟩
  | some k => exact Or.inr mq_reqM_sp.2.2.2.2.2.2.2
theorem mq_ans_1 {ρ : Nat → Nat → Nat} {m : Nat} (h : ρ 0 2 = 1) : mq_answers ρ m 0 2 = 1 := by
  rcases mq_ans_flag (ρ := ρ) (m := m) with ⟨-, e⟩ | e
  · rw [e]; exact h
  · exact e
theorem mq_ftc_1 {ρ : Nat → Nat → Nat} {p : Nat} (h : ρ 0 2 = 1) : mq_fetch ρ p 0 2 = 1 := by
  rcases mq_ftc_flag (ρ := ρ) (p := p) with ⟨-, e⟩ | e
  · rw [e]; exact h
  · exact e
theorem mq_serve_1 {ρ : Nat → Nat → Nat} {μ : Nat → Int64} {p : Nat} (h : ρ 0 2 = 1) : (mq_serve ρ μ p).1 0 2 = 1 := by
  rcases mq_serve_flag (ρ := ρ) (μ := μ) (p := p) with ⟨-, -, e⟩ | ⟨-, -, e⟩ | e
  · rw [e]; exact h
  · rw [e]
    show mq_cd ρ p 0 2 = 1
    unfold mq_cd
    rw [mq_up_j (by omega)]
    exact h
  · exact e
theorem mq_ansN_0 {ρ : Nat → Nat → Nat} : ∀ n, mq_ansN ρ n 0 2 ≠ 1 → mq_ansN ρ n = ρ ∧ ∀ m, m < n → mq_ansD ρ m = none := by
  intro n
  induction n with
  | zero => exact fun _ => ⟨rfl, fun m hm => by omega⟩
  | succ n ih =>
    intro h
    have h1 : mq_ansN ρ n 0 2 ≠ 1 := fun q => h (mq_ans_1 q)
    obtain ⟨e, hd⟩ := ih h1
    have h2 : mq_ansN ρ (n + 1) = mq_answers (mq_ansN ρ n) n := rfl
    rcases mq_ans_flag (ρ := mq_ansN ρ n) (m := n) with ⟨g1, g2⟩ | g
    · refine ⟨by rw [h2, g2]; exact e, fun m hm => ?_⟩
      by_cases hmn : m = n
      · subst hmn; rw [e] at g1; exact g1
      · exact hd m (by omega)
    · exact absurd g h
theorem mq_ftcN_0 {ρ : Nat → Nat → Nat} : ∀ n, mq_ftc ρ n 0 2 ≠ 1 → mq_ftc ρ n = ρ ∧ ∀ p, p < n → mq_reqD ρ p = none := by
  intro n
  induction n with
  | zero => exact fun _ => ⟨rfl, fun m hm => by omega⟩
  | succ n ih =>
    intro h
    have h1 : mq_ftc ρ n 0 2 ≠ 1 := fun q => h (mq_ftc_1 q)
    obtain ⟨e, hd⟩ := ih h1
    have h2 : mq_ftc ρ (n + 1) = mq_fetch (mq_ftc ρ n) n := rfl
    rcases mq_ftc_flag (ρ := mq_ftc ρ n) (p := n) with ⟨g1, g2⟩ | g
    · refine ⟨by rw [h2, g2]; exact e, fun m hm => ?_⟩
      by_cases hmn : m = n
      · subst hmn; rw [e] at g1; exact g1
      · exact hd m (by omega)
    · exact absurd g h
theorem mq_srvN_0 {ρ : Nat → Nat → Nat} {μ : Nat → Int64} : ∀ n, (mq_srv ρ μ n).1 0 2 ≠ 1 → mq_sim ρ (mq_srv ρ μ n).1 ∧ (∀ q, (mq_srv ρ μ n).1 16 q = ρ 16 q) ∧ (mq_srv ρ μ n).2 = μ ∧ (∀ p, n ≤ p → (mq_srv ρ μ n).1 12 p = ρ 12 p) ∧ ∀ p, p < n → (mq_first ρ 3 (3 + p) = none ∧ mq_first ρ 2 (3 + p) = none) ∨ (mq_first ρ 3 (3 + p) ≠ none ∧ (0 < (mq_srv ρ μ n).1 12 p ∨ 1 < mq_many ρ 4 (3 + p))) := by
  intro n
  induction n with
  | zero => exact fun _ => ⟨fun _ _ _ _ => rfl, fun _ => rfl, rfl, fun _ _ => rfl, fun p hp => by omega⟩
  | succ n ih =>
    intro h
    have h1 : (mq_srv ρ μ n).1 0 2 ≠ 1 := fun q => h (mq_serve_1 q)
    obtain ⟨s1, s16, s2, s3, s4⟩ := ih h1
    have h2 : mq_srv ρ μ (n + 1) = mq_serve (mq_srv ρ μ n).1 (mq_srv ρ μ n).2 n := rfl
    rcases mq_serve_flag (ρ := (mq_srv ρ μ n).1) (μ := (mq_srv ρ μ n).2) (p := n) with ⟨g1, g2, g3⟩ | ⟨g1, g2, g3⟩ | g
    · rw [h2, g3]
      refine ⟨s1, s16, s2, fun p hp => s3 p (by omega), fun p hp => ?_⟩
      by_cases e : p = n
      · subst e
        rw [s1.first] at g1 g2
        exact Or.inl ⟨g1, g2⟩
      · exact s4 p (by omega)
    · rw [h2, g3]
      have ho : ∀ i q, i ≠ 12 → mq_cd (mq_srv ρ μ n).1 n i q = (mq_srv ρ μ n).1 i q := fun i q hi => mq_up_j hi
      refine ⟨fun i q h12 h16 => (ho i q h12).trans (s1 i q h12 h16), fun q => (ho 16 q (by omega)).trans (s16 q), s2, fun p hp => ?_, fun p hp => ?_⟩
      · show mq_cd (mq_srv ρ μ n).1 n 12 p = _
        unfold mq_cd
        rw [mq_up_k (by omega)]
        exact s3 p (by omega)
      · by_cases e : p = n
        · subst e
          rw [s1.first] at g1
          refine Or.inr ⟨g1, ?_⟩
          unfold mq_finD at g2
          split at g2
          · next hc =>
            rcases hc with hc | hc
            · exact Or.inl hc
            · refine Or.inr ?_
              have hs' : mq_sim ρ (mq_cd (mq_srv ρ μ p).1 p) := fun i q h12 h16 => by rw [ho i q h12]; exact s1 i q h12 h16
              rw [hs'.many] at hc
              exact hc
          · have hs' : mq_sim ρ (mq_cd (mq_srv ρ μ p).1 p) := fun i q h12 h16 => by rw [ho i q h12]; exact s1 i q h12 h16
            rw [hs'.first] at g2
            exact absurd g2 g1
        · have : mq_cd (mq_srv ρ μ n).1 n 12 p = (mq_srv ρ μ n).1 12 p := mq_up_k e
          show _ ∨ (_ ∧ (0 < mq_cd (mq_srv ρ μ n).1 n 12 p ∨ _))
          rw [this]
          exact s4 p (by omega)
    · exact absurd g h
/-- a tick that moved nothing, with no count left: the next ones are counted, no more -/
theorem mq_still {ρ : Nat → Nat → Nat} {μ : Nat → Int64} (h : (mq_mid ρ μ).1 0 2 ≠ 1) (h12 : ∀ p, p < 4 → (mq_mid ρ μ).1 12 p = 0) : mq_quiet (mq_tick1 ρ μ).1 := by
  have h' : mq_ftc (mq_srv (mq_ansN (mq_up ρ 0 2 0) 3) μ 4).1 4 0 2 ≠ 1 := h
  obtain ⟨f1, f2⟩ := mq_ftcN_0 4 h'
  rw [f1] at h'
  obtain ⟨s1, s16, s2, s3, s4⟩ := mq_srvN_0 4 h'
  have ha : mq_ansN (mq_up ρ 0 2 0) 3 0 2 ≠ 1 := by
    rw [← s1 0 2 (by omega) (by omega)]
    exact h'
  obtain ⟨a1, a2⟩ := mq_ansN_0 3 ha
  have hmid : (mq_mid ρ μ).1 = (mq_srv (mq_ansN (mq_up ρ 0 2 0) 3) μ 4).1 := f1
  rw [a1] at hmid s1 s4 f2
  have hsim : mq_sim (mq_up ρ 0 2 0) (mq_tick1 ρ μ).1 := by
    intro i q hi12 hi16
    show mq_end (mq_mid ρ μ).1 i q = _
    unfold mq_end mq_inc
    rw [mq_up_j hi16, mq_up_j hi16, hmid]
    exact s1 i q hi12 hi16
  have h12' : ∀ p, p < 4 → (mq_tick1 ρ μ).1 12 p = 0 := by
    intro p hp
    show mq_end (mq_mid ρ μ).1 12 p = 0
    unfold mq_end mq_inc
    rw [mq_up_j (by omega), mq_up_j (by omega)]
    exact h12 p hp
  refine ⟨fun m hm => by rw [hsim.ansD]; exact a2 m hm, h12', fun p hp => ?_, fun p hp => ?_⟩
  · rw [hsim.first, hsim.first, hsim.many]
    rcases s4 p hp with g | ⟨g1, g2⟩
    · exact Or.inl g
    · refine Or.inr ⟨g1, ?_⟩
      rcases g2 with g2 | g2
      · rw [← hmid, h12 p hp] at g2
        omega
      · exact g2
  · rw [hsim.reqD, ← s1.reqD]
    exact f2 p hp
end
section
/-! branches and arithmetic on ints that are small naturals -/
section GXB
variable {p : Program} {l : Launch} {e : Env} {R : Room} {s : State} {m : MethodId} {args : Array Value} {below : List Frame} {meth : Method} {c : Code} {H : Heap} {locs : List Loc} {cells slots : Nat} {Q : State → Prop}
variable {cc : ByteArray} {pc : Nat} {ls : Array Slot} {rest : List Value}
theorem gx_icmp_eq (hexec : p.tables.exec = Jvm.exec) (hb : c.code = cc) {a b : Nat} {off : Int} {tgt : Nat} (hdg : decode cc pc = .ok (.if_icmp .eq off, 3)) (ht : (pc : Int) + off = (tgt : Int)) (ha : a < 2 ^ 31) (hb2 : b < 2 ^ 31) (kt : a = b → W p l e R s m args below meth c H locs cells slots Q (F0 m tgt ls rest)) (kf : a ≠ b → W p l e R s m args below meth c H locs cells slots Q (F0 m (pc + 3) ls rest)) : W p l e R s m args below meth c H locs cells slots Q (F0 m pc ls (.int (nI b) :: .int (nI a) :: rest)) :=
  lv_icmp_eq hexec hb hdg ht (fun h => kt ((nI_eq ha hb2).mp h)) (fun h => kf (fun q => h ((nI_eq ha hb2).mpr q)))
theorem gx_icmp_ne (hexec : p.tables.exec = Jvm.exec) (hb : c.code = cc) {a b : Nat} {off : Int} {tgt : Nat} (hdg : decode cc pc = .ok (.if_icmp .ne off, 3)) (ht : (pc : Int) + off = (tgt : Int)) (ha : a < 2 ^ 31) (hb2 : b < 2 ^ 31) (kt : a ≠ b → W p l e R s m args below meth c H locs cells slots Q (F0 m tgt ls rest)) (kf : a = b → W p l e R s m args below meth c H locs cells slots Q (F0 m (pc + 3) ls rest)) : W p l e R s m args below meth c H locs cells slots Q (F0 m pc ls (.int (nI b) :: .int (nI a) :: rest)) :=
  lv_icmp_ne hexec hb hdg ht (fun h => kt (fun q => h ((nI_eq ha hb2).mpr q))) (fun h => kf ((nI_eq ha hb2).mp h))
theorem gx_icmp_lt (hexec : p.tables.exec = Jvm.exec) (hb : c.code = cc) {a b : Nat} {off : Int} {tgt : Nat} (hdg : decode cc pc = .ok (.if_icmp .lt off, 3)) (ht : (pc : Int) + off = (tgt : Int)) (ha : a < 2 ^ 31) (hb2 : b < 2 ^ 31) (kt : a < b → W p l e R s m args below meth c H locs cells slots Q (F0 m tgt ls rest)) (kf : b ≤ a → W p l e R s m args below meth c H locs cells slots Q (F0 m (pc + 3) ls rest)) : W p l e R s m args below meth c H locs cells slots Q (F0 m pc ls (.int (nI b) :: .int (nI a) :: rest)) :=
  lv_icmp_lt hexec hb hdg ht (fun h => kt ((nI_ltI ha hb2).mp h)) (fun h => kf (Nat.not_lt.mp fun q => h ((nI_ltI ha hb2).mpr q)))
theorem gx_icmp_ge (hexec : p.tables.exec = Jvm.exec) (hb : c.code = cc) {a b : Nat} {off : Int} {tgt : Nat} (hdg : decode cc pc = .ok (.if_icmp .ge off, 3)) (ht : (pc : Int) + off = (tgt : Int)) (ha : a < 2 ^ 31) (hb2 : b < 2 ^ 31) (kt : b ≤ a → W p l e R s m args below meth c H locs cells slots Q (F0 m tgt ls rest)) (kf : a < b → W p l e R s m args below meth c H locs cells slots Q (F0 m (pc + 3) ls rest)) : W p l e R s m args below meth c H locs cells slots Q (F0 m pc ls (.int (nI b) :: .int (nI a) :: rest)) :=
  lv_icmp_ge hexec hb hdg ht (fun h => kt ((nI_leI hb2 ha).mp h)) (fun h => kf (Nat.not_le.mp fun q => h ((nI_leI hb2 ha).mpr q)))
theorem gx_icmp_gt (hexec : p.tables.exec = Jvm.exec) (hb : c.code = cc) {a b : Nat} {off : Int} {tgt : Nat} (hdg : decode cc pc = .ok (.if_icmp .gt off, 3)) (ht : (pc : Int) + off = (tgt : Int)) (ha : a < 2 ^ 31) (hb2 : b < 2 ^ 31) (kt : b < a → W p l e R s m args below meth c H locs cells slots Q (F0 m tgt ls rest)) (kf : a ≤ b → W p l e R s m args below meth c H locs cells slots Q (F0 m (pc + 3) ls rest)) : W p l e R s m args below meth c H locs cells slots Q (F0 m pc ls (.int (nI b) :: .int (nI a) :: rest)) :=
  lv_icmp_gt hexec hb hdg ht (fun h => kt ((nI_ltI hb2 ha).mp h)) (fun h => kf (Nat.not_lt.mp fun q => h ((nI_ltI hb2 ha).mpr q)))
theorem gx_icmp_le (hexec : p.tables.exec = Jvm.exec) (hb : c.code = cc) {a b : Nat} {off : Int} {tgt : Nat} (hdg : decode cc pc = .ok (.if_icmp .le off, 3)) (ht : (pc : Int) + off = (tgt : Int)) (ha : a < 2 ^ 31) (hb2 : b < 2 ^ 31) (kt : a ≤ b → W p l e R s m args below meth c H locs cells slots Q (F0 m tgt ls rest)) (kf : b < a → W p l e R s m args below meth c H locs cells slots Q (F0 m (pc + 3) ls rest)) : W p l e R s m args below meth c H locs cells slots Q (F0 m pc ls (.int (nI b) :: .int (nI a) :: rest)) :=
  lv_icmp_le hexec hb hdg ht (fun h => kt ((nI_leI ha hb2).mp h)) (fun h => kf (Nat.not_le.mp fun q => h ((nI_leI ha hb2).mpr q)))
theorem gx_if_eq (hexec : p.tables.exec = Jvm.exec) (hb : c.code = cc) {a : Nat} {off : Int} {tgt : Nat} (hdg : decode cc pc = .ok (.ifCond .eq off, 3)) (ht : (pc : Int) + off = (tgt : Int)) (ha : a < 2 ^ 31) (kt : a = 0 → W p l e R s m args below meth c H locs cells slots Q (F0 m tgt ls rest)) (kf : a ≠ 0 → W p l e R s m args below meth c H locs cells slots Q (F0 m (pc + 3) ls rest)) : W p l e R s m args below meth c H locs cells slots Q (F0 m pc ls (.int (nI a) :: rest)) :=
  lv_if_eq hexec hb hdg ht (fun h => kt ((nI_eq ha (by omega)).mp (h.trans nI_0.symm))) (fun h => kf (fun q => h (by rw [q]; exact nI_0)))
theorem gx_if_ne (hexec : p.tables.exec = Jvm.exec) (hb : c.code = cc) {a : Nat} {off : Int} {tgt : Nat} (hdg : decode cc pc = .ok (.ifCond .ne off, 3)) (ht : (pc : Int) + off = (tgt : Int)) (ha : a < 2 ^ 31) (kt : a ≠ 0 → W p l e R s m args below meth c H locs cells slots Q (F0 m tgt ls rest)) (kf : a = 0 → W p l e R s m args below meth c H locs cells slots Q (F0 m (pc + 3) ls rest)) : W p l e R s m args below meth c H locs cells slots Q (F0 m pc ls (.int (nI a) :: rest)) :=
  lv_if_ne hexec hb hdg ht (fun h => kt (fun q => h (by rw [q]; exact nI_0))) (fun h => kf ((nI_eq ha (by omega)).mp (h.trans nI_0.symm)))
theorem gx_if_gt (hexec : p.tables.exec = Jvm.exec) (hb : c.code = cc) {a : Nat} {off : Int} {tgt : Nat} (hdg : decode cc pc = .ok (.ifCond .gt off, 3)) (ht : (pc : Int) + off = (tgt : Int)) (ha : a < 2 ^ 31) (kt : 0 < a → W p l e R s m args below meth c H locs cells slots Q (F0 m tgt ls rest)) (kf : a = 0 → W p l e R s m args below meth c H locs cells slots Q (F0 m (pc + 3) ls rest)) : W p l e R s m args below meth c H locs cells slots Q (F0 m pc ls (.int (nI a) :: rest)) :=
  lv_if_gt hexec hb hdg ht (fun h => kt (Nat.pos_of_ne_zero fun q => by rw [q] at h; exact absurd h (by decide))) (fun h => kf (Classical.byContradiction fun q => h (by have := nI_lt (a := 0) (b := a) (Nat.pos_of_ne_zero q) ha; exact this)))
theorem gx_if_le (hexec : p.tables.exec = Jvm.exec) (hb : c.code = cc) {a : Nat} {off : Int} {tgt : Nat} (hdg : decode cc pc = .ok (.ifCond .le off, 3)) (ht : (pc : Int) + off = (tgt : Int)) (ha : a < 2 ^ 31) (kt : a = 0 → W p l e R s m args below meth c H locs cells slots Q (F0 m tgt ls rest)) (kf : 0 < a → W p l e R s m args below meth c H locs cells slots Q (F0 m (pc + 3) ls rest)) : W p l e R s m args below meth c H locs cells slots Q (F0 m pc ls (.int (nI a) :: rest)) :=
  lv_if_le hexec hb hdg ht (fun h => kt (Classical.byContradiction fun q => nI_nle (Nat.pos_of_ne_zero q) ha h)) (fun h => kf (Nat.pos_of_ne_zero fun q => h (by rw [q]; decide)))
theorem gx_iadd (hexec : p.tables.exec = Jvm.exec) (hb : c.code = cc) {a b : Nat} (hdg : decode cc pc = .ok (.iadd, 1)) (kk : W p l e R s m args below meth c H locs cells slots Q (F0 m (pc + 1) ls (.int (nI (a + b)) :: rest))) : W p l e R s m args below meth c H locs cells slots Q (F0 m pc ls (.int (nI b) :: .int (nI a) :: rest)) := lv_iadd hexec hb hdg (by rw [nI_add]; exact kk)
theorem gx_isub (hexec : p.tables.exec = Jvm.exec) (hb : c.code = cc) {a b : Nat} (hdg : decode cc pc = .ok (.isub, 1)) (h : b ≤ a) (kk : W p l e R s m args below meth c H locs cells slots Q (F0 m (pc + 1) ls (.int (nI (a - b)) :: rest))) : W p l e R s m args below meth c H locs cells slots Q (F0 m pc ls (.int (nI b) :: .int (nI a) :: rest)) := lv_isub hexec hb hdg (by rw [pk_sub h]; exact kk)
theorem gx_imul (hexec : p.tables.exec = Jvm.exec) (hb : c.code = cc) {a b : Nat} (hdg : decode cc pc = .ok (.imul, 1)) (kk : W p l e R s m args below meth c H locs cells slots Q (F0 m (pc + 1) ls (.int (nI (a * b)) :: rest))) : W p l e R s m args below meth c H locs cells slots Q (F0 m pc ls (.int (nI b) :: .int (nI a) :: rest)) := lv_imul hexec hb hdg (by rw [pk_mul]; exact kk)
theorem gx_idiv (hexec : p.tables.exec = Jvm.exec) (hb : c.code = cc) {a b : Nat} (hdg : decode cc pc = .ok (.idiv, 1)) (ha : a < 2 ^ 31) (h0 : 0 < b) (hb2 : b < 2 ^ 31) (kk : W p l e R s m args below meth c H locs cells slots Q (F0 m (pc + 1) ls (.int (nI (a / b)) :: rest))) : W p l e R s m args below meth c H locs cells slots Q (F0 m pc ls (.int (nI b) :: .int (nI a) :: rest)) := lv_idiv hexec hb hdg (nI_ne0 h0 hb2) (by rw [pk_div ha h0 hb2]; exact kk)
theorem gx_irem (hexec : p.tables.exec = Jvm.exec) (hb : c.code = cc) {a b : Nat} (hdg : decode cc pc = .ok (.irem, 1)) (ha : a < 2 ^ 31) (h0 : 0 < b) (hb2 : b < 2 ^ 31) (kk : W p l e R s m args below meth c H locs cells slots Q (F0 m (pc + 1) ls (.int (nI (a % b)) :: rest))) : W p l e R s m args below meth c H locs cells slots Q (F0 m pc ls (.int (nI b) :: .int (nI a) :: rest)) := lv_irem hexec hb hdg (nI_ne0 h0 hb2) (by rw [pk_rem ha h0 hb2]; exact kk)
/-- the int on top is another, equal one -/
theorem gx_top {x y : Int32} (h : x = y) (kk : W p l e R s m args below meth c H locs cells slots Q (F0 m pc ls (.int y :: rest))) : W p l e R s m args below meth c H locs cells slots Q (F0 m pc ls (.int x :: rest)) := by rw [h]; exact kk
theorem gx_topl {x y : Int64} (h : x = y) (kk : W p l e R s m args below meth c H locs cells slots Q (F0 m pc ls (.long y :: rest))) : W p l e R s m args below meth c H locs cells slots Q (F0 m pc ls (.long x :: rest)) := by rw [h]; exact kk
theorem gx_upL_upd {τ : Nat → Nat → Int64} {j k : Nat} {v : Int64} : gx_upL τ j k v j = vp_updL (τ j) k v := by
  funext q
  simp [gx_upL, vp_updL]
end GXB
end
section
/-! the class's world: 70 cells. Array classes K: 0 int, 1 byte, 2 boolean, 3 long, 4 Master, 5 Port, 6 Message. Classes in mx_cl: 0 Line, 1 Master, 2 Message, 3 Port, 4 the crossbar, 5 the reference -/
abbrev mx_tys (K : Nat → ClassId) : List (ClassId × FieldType) := [(K 0, .int), (K 1, .byte), (K 2, .boolean), (K 3, .long), (K 4, .object "MessageCrossbar$Master"), (K 5, .object "MessageCrossbar$Port"), (K 6, .object "MessageCrossbar$Message")]
def cx_E (ad : Nat → Nat) (K : Nat → ClassId) : gx_L := fun σ τ j =>
  if j = 0 then .inr (4, [.ref (ad 1), .ref (ad 17), .ref (ad 42), .ref (ad 67), .ref (ad 68), .ref (ad 69), .long (τ j 0)])
  else if j = 1 then .inl (K 4, 3, .inr (.inr (.inr (.inr (fun m => some (ad (2 + 5 * m)))))))
  else if j < 17 then
    (if (j - 2) % 5 = 0 then .inr (1, [.ref (ad (j + 1)), .ref (ad (j + 3)), .int (σ j 2), .int (σ j 3), .int (σ j 4)])
     else if (j - 2) % 5 = 2 then .inl (K 0, 8, .inl (σ j))
     else if (j - 2) % 5 = 4 then .inl (K 0, 4, .inl (σ j))
     else .inr (0, [.ref (ad (j + 1)), .int (σ j 1)]))
  else if j = 17 then .inl (K 5, 4, .inr (.inr (.inr (.inr (fun p => some (ad (18 + 6 * p)))))))
  else if j < 42 then
    (if (j - 18) % 6 = 0 then .inr (3, [.ref (ad (j + 1)), .ref (ad (j + 3)), .ref (ad (j + 5)), .int (σ j 3), .int (σ j 4), .int (σ j 5), .int (σ j 6)])
     else if (j - 18) % 6 = 5 then .inl (K 0, 4, .inl (σ j))
     else if (j - 18) % 6 = 2 ∨ (j - 18) % 6 = 4 then .inl (K 0, 2, .inl (σ j))
     else .inr (0, [.ref (ad (j + 1)), .int (σ j 1)]))
  else if j = 42 then .inl (K 6, 24, .inr (.inr (.inr (.inr (fun x => some (ad (43 + x)))))))
  else if j < 67 then .inr (2, [.int (σ j 0), .int (σ j 1), .int (σ j 2), .long (τ j 0), .int (σ j 4)])
  else if j = 67 then .inl (K 1, 640, .inl (σ j))
  else if j = 68 then .inl (K 0, 32, .inl (σ j))
  else .inl (K 0, 8, .inl (σ j))
theorem cx_loc {ad : Nat → Nat} {K : Nat → ClassId} : gx_loc (cx_E ad K) := by
  intro σ σ' τ τ' i h1 h2
  simp only [cx_E, h1, h2]
section CXE
variable {ad : Nat → Nat} {K : Nat → ClassId} {σ : Nat → Nat → Int32} {τ : Nat → Nat → Int64}
theorem cx_E_X : cx_E ad K σ τ 0 = .inr (4, [.ref (ad 1), .ref (ad 17), .ref (ad 42), .ref (ad 67), .ref (ad 68), .ref (ad 69), .long (τ 0 0)]) := rfl
theorem cx_E_Ms : cx_E ad K σ τ 1 = .inl (K 4, 3, .inr (.inr (.inr (.inr (fun m => some (ad (2 + 5 * m))))))) := rfl
theorem cx_E_Ps : cx_E ad K σ τ 17 = .inl (K 5, 4, .inr (.inr (.inr (.inr (fun p => some (ad (18 + 6 * p))))))) := rfl
theorem cx_E_Gs : cx_E ad K σ τ 42 = .inl (K 6, 24, .inr (.inr (.inr (.inr (fun x => some (ad (43 + x))))))) := rfl
theorem cx_E_By : cx_E ad K σ τ 67 = .inl (K 1, 640, .inl (σ 67)) := rfl
theorem cx_E_Lg : cx_E ad K σ τ 68 = .inl (K 0, 32, .inl (σ 68)) := rfl
theorem cx_E_Ct : cx_E ad K σ τ 69 = .inl (K 0, 8, .inl (σ 69)) := rfl
theorem cx_3 {m : Nat} (h : m < 3) : m = 0 ∨ m = 1 ∨ m = 2 := by omega
theorem cx_4 {m : Nat} (h : m < 4) : m = 0 ∨ m = 1 ∨ m = 2 ∨ m = 3 := by omega
theorem cx_E_M {m : Nat} (h : m < 3) : cx_E ad K σ τ (2 + 5 * m) = .inr (1, [.ref (ad (3 + 5 * m)), .ref (ad (5 + 5 * m)), .int (σ (2 + 5 * m) 2), .int (σ (2 + 5 * m) 3), .int (σ (2 + 5 * m) 4)]) := by
  rcases cx_3 h with rfl | rfl | rfl <;> rfl
theorem cx_E_P {p : Nat} (h : p < 4) : cx_E ad K σ τ (18 + 6 * p) = .inr (3, [.ref (ad (19 + 6 * p)), .ref (ad (21 + 6 * p)), .ref (ad (23 + 6 * p)), .int (σ (18 + 6 * p) 3), .int (σ (18 + 6 * p) 4), .int (σ (18 + 6 * p) 5), .int (σ (18 + 6 * p) 6)]) := by
  rcases cx_4 h with rfl | rfl | rfl | rfl <;> rfl
theorem cx_E_O {p : Nat} (h : p < 4) : cx_E ad K σ τ (23 + 6 * p) = .inl (K 0, 4, .inl (σ (23 + 6 * p))) := by
  rcases cx_4 h with rfl | rfl | rfl | rfl <;> rfl
theorem cx_E_G {x : Nat} (h : x < 24) : cx_E ad K σ τ (43 + x) = .inr (2, [.int (σ (43 + x) 0), .int (σ (43 + x) 1), .int (σ (43 + x) 2), .long (τ (43 + x) 0), .int (σ (43 + x) 4)]) := by
  unfold cx_E
  rw [if_neg (by omega), if_neg (by omega), if_neg (by omega), if_neg (by omega), if_neg (by omega), if_neg (by omega), if_pos (by omega)]
/-- l is the cell of a line with room for r keys -/
def cx_isL (l r : Nat) : Prop := (∃ m, m < 3 ∧ ((l = 3 + 5 * m ∧ r = 8) ∨ (l = 5 + 5 * m ∧ r = 4))) ∨ ∃ p, p < 4 ∧ (l = 19 + 6 * p ∨ l = 21 + 6 * p) ∧ r = 2
theorem cx_E_L {l r : Nat} (h : cx_isL l r) : cx_E ad K σ τ l = .inr (0, [.ref (ad (l + 1)), .int (σ l 1)]) ∧ cx_E ad K σ τ (l + 1) = .inl (K 0, r, .inl (σ (l + 1))) := by
  rcases h with ⟨m, hm, ⟨rfl, rfl⟩ | ⟨rfl, rfl⟩⟩ | ⟨p, hp, rfl | rfl, rfl⟩
  · rcases cx_3 hm with rfl | rfl | rfl <;> exact ⟨rfl, rfl⟩
  · rcases cx_3 hm with rfl | rfl | rfl <;> exact ⟨rfl, rfl⟩
  · rcases cx_4 hp with rfl | rfl | rfl | rfl <;> exact ⟨rfl, rfl⟩
  · rcases cx_4 hp with rfl | rfl | rfl | rfl <;> exact ⟨rfl, rfl⟩
theorem cx_isL.lt {l r : Nat} (h : cx_isL l r) : l < 70 ∧ l + 1 < 70 ∧ r ≤ 8 ∧ 0 < r := by
  rcases h with ⟨m, hm, ⟨rfl, rfl⟩ | ⟨rfl, rfl⟩⟩ | ⟨p, hp, rfl | rfl, rfl⟩ <;> omega
theorem cx_isL_W {m : Nat} (h : m < 3) : cx_isL (3 + 5 * m) 8 := Or.inl ⟨m, h, Or.inl ⟨rfl, rfl⟩⟩
theorem cx_isL_B {m : Nat} (h : m < 3) : cx_isL (5 + 5 * m) 4 := Or.inl ⟨m, h, Or.inr ⟨rfl, rfl⟩⟩
theorem cx_isL_Q {p : Nat} (h : p < 4) : cx_isL (19 + 6 * p) 2 := Or.inr ⟨p, h, Or.inl rfl, rfl⟩
theorem cx_isL_A {p : Nat} (h : p < 4) : cx_isL (21 + 6 * p) 2 := Or.inr ⟨p, h, Or.inr rfl, rfl⟩
end CXE
/-- what is given of the class's statics (tables of numbers that nobody writes), and of the one private field that a nest mate reads -/
def cx_ends (j : Nat) : Nat := if j = 0 then 256 else if j = 1 then 512 else if j = 2 then 640 else 1024
def cx_wps (j : Nat) : Nat := if j = 0 then 2 else if j = 1 then 0 else 3
def cx_dls (j : Nat) : Nat := if j = 0 then 2 else if j = 1 then 1 else if j = 2 then 3 else 1
def cx_Zt (A : Nat → Prop) (n : String) (f : Nat → Nat) (U : State) (H : Heap) : Prop := ∃ t : Nat, va_Z "MessageCrossbar" n "[I" (.ref t) A U H ∧ va_T .int t 4 (fun j => .int (nI (f j))) A U H
def cx_Z (A : Nat → Prop) (U : State) (H : Heap) : Prop := cx_Zt A "ENDS" cx_ends U H ∧ cx_Zt A "WIDTH_POWERS" cx_wps U H ∧ cx_Zt A "DELAYS" cx_dls U H ∧ va_Nw (.fieldLinkNest "MessageCrossbar$Message" 28 "MessageCrossbar" "ENDS" "[I" "MessageCrossbar") U
theorem cx_Zt.go {A : Nat → Prop} {n : String} {f : Nat → Nat} {U U' : State} {H H' : Heap} (h : cx_Zt A n f U H) (hW : U.WarmedH U'.vm) (hq : ∀ q : Nat, q < H.size → ¬ A q → H'[q]? = H[q]?) : cx_Zt A n f U' H' := by
  obtain ⟨t, h1, h2⟩ := h
  exact ⟨t, (va_Z.moved hW.alike h1).kept hq, (va_T.moved hW.alike h2).kept hq⟩
theorem cx_ok {A : Nat → Prop} : gx_ok A (cx_Z A) := fun _ _ _ _ hW hq h => ⟨h.1.go hW hq, h.2.1.go hW hq, h.2.2.1.go hW hq, va_Nw.warmF hW h.2.2.2⟩
/-! a contract's start and ends in the class's world -/
abbrev cx_P (D : va_G) (K : Nat → ClassId) (ad : Nat → Nat) (σ : Nat → Nat → Int32) (τ : Nat → Nat → Int64) : State → Prop := gx_P D mx_cl (mx_tys K) (cx_E ad K) ad 70 (cx_Z (gx_A ad 70)) σ τ
abbrev cx_Qi (D : va_G) (K : Nat → ClassId) (ad : Nat → Nat) (post : Int32 → gx_U → Prop) : Array Value → State → Outcome → State → Prop := va_Qi post (gx_B D mx_cl (cx_E ad K) ad 70) (gx_A ad 70)
abbrev cx_Ql (D : va_G) (K : Nat → ClassId) (ad : Nat → Nat) (post : Int64 → gx_U → Prop) : Array Value → State → Outcome → State → Prop := va_Ql post (gx_B D mx_cl (cx_E ad K) ad 70) (gx_A ad 70)
abbrev cx_Qv (D : va_G) (K : Nat → ClassId) (ad : Nat → Nat) (post : gx_U → Prop) : Array Value → State → Outcome → State → Prop := va_Qv post (gx_B D mx_cl (cx_E ad K) ad 70) (gx_A ad 70)
section GXM
variable {p : Program} {l : Launch} {e : Env} {R : Room} {s : State} {m : MethodId} {args : Array Value} {below : List Frame} {meth : Method} {c : Code} {H : Heap} {locs : List Loc} {cells slots : Nat} {Q : State → Prop}
variable {cc : ByteArray} {pc : Nat} {ls : Array Slot} {rest : List Value} {D : va_G} {cl : List vw_C} {tys : List (ClassId × FieldType)}
variable {E : gx_L} {ad : Nat → Nat} {N : Nat} {σ : Nat → Nat → Int32} {τ : Nat → Nat → Int64}
theorem gx_ialdv (hexec : p.tables.exec = Jvm.exec) (hb : c.code = cc) (hV : gx_V D cl tys E ad N σ τ s H) {j : Nat} (hj : j < N) (t0 : Nat) {cA : ClassId} {n : Nat} {f : Nat → Int32} (he : E σ τ j = .inl (cA, n, .inl f)) (ht : tys[t0]? = some (cA, .int)) {i : Int32} (k : Nat) (hk : k < n) (hn : n < 2 ^ 31) (hi : i = nI k) {v : Int32} (hv : f k = v) (hdg : decode cc pc = .ok (.iaload, 1))
    (kk : W p l e R s m args below meth c H locs cells slots Q (F0 m (pc + 1) ls (.int v :: rest))) : W p l e R s m args below meth c H locs cells slots Q (F0 m pc ls (.int i :: .ref (ad j) :: rest)) :=
  gx_iald hexec hb hV hj t0 he ht k hk hn hi hdg (by rw [hv]; exact kk)
/-- the ends of a method that keeps to the world -/
theorem gx_iret {σ' : Nat → Nat → Int32} {τ' : Nat → Nat → Int64} {post : Int32 → gx_U → Prop} {v : Int32} (hexec : p.tables.exec = Jvm.exec) (hb : c.code = cc) (hr : meth.sig.returnType = some .int) (hV : gx_V D cl tys E ad N σ' τ' s H) (hS : va_S (gx_A ad N) s.heap H locs) (hp : post v (σ', τ')) (hdg : decode cc pc = .ok (.ireturn, 1)) (hlk : meth.locks = false) :
    W p l e R s m args below meth c H locs cells slots (MQ below (va_Qi post (gx_B D cl E ad N) (gx_A ad N)) args s cells slots (gx_A ad N)) (F0 m pc ls [.int v]) :=
  W.iret hexec hb hr (fun t ht _ => ⟨⟨v, (σ', τ'), rfl, hp, by show va_P _ _ _ t.heap; rw [ht]; exact hV.1⟩, hS.F ht⟩) hS.2.2 hdg hlk
theorem gx_zret {σ' : Nat → Nat → Int32} {τ' : Nat → Nat → Int64} {post : Int32 → gx_U → Prop} {v : Int32} (hexec : p.tables.exec = Jvm.exec) (hb : c.code = cc) (hr : meth.sig.returnType = some .boolean) (hn : narrow .boolean (.int v) = .int v) (hV : gx_V D cl tys E ad N σ' τ' s H) (hS : va_S (gx_A ad N) s.heap H locs) (hp : post v (σ', τ')) (hdg : decode cc pc = .ok (.ireturn, 1)) (hlk : meth.locks = false) :
    W p l e R s m args below meth c H locs cells slots (MQ below (va_Qi post (gx_B D cl E ad N) (gx_A ad N)) args s cells slots (gx_A ad N)) (F0 m pc ls [.int v]) :=
  W.zret hexec hb hr hn (fun t ht _ => ⟨⟨v, (σ', τ'), rfl, hp, by show va_P _ _ _ t.heap; rw [ht]; exact hV.1⟩, hS.F ht⟩) hS.2.2 hdg hlk
theorem gx_lret {σ' : Nat → Nat → Int32} {τ' : Nat → Nat → Int64} {post : Int64 → gx_U → Prop} {v : Int64} (hexec : p.tables.exec = Jvm.exec) (hb : c.code = cc) (hr : meth.sig.returnType = some .long) (hV : gx_V D cl tys E ad N σ' τ' s H) (hS : va_S (gx_A ad N) s.heap H locs) (hp : post v (σ', τ')) (hdg : decode cc pc = .ok (.lreturn, 1)) (hlk : meth.locks = false) :
    W p l e R s m args below meth c H locs cells slots (MQ below (va_Ql post (gx_B D cl E ad N) (gx_A ad N)) args s cells slots (gx_A ad N)) (F0 m pc ls [.long v]) :=
  W.lret hexec hb hr (fun t ht _ => ⟨⟨v, (σ', τ'), rfl, hp, by show va_P _ _ _ t.heap; rw [ht]; exact hV.1⟩, hS.F ht⟩) hS.2.2 hdg hlk
theorem gx_vret {σ' : Nat → Nat → Int32} {τ' : Nat → Nat → Int64} {post : gx_U → Prop} (hexec : p.tables.exec = Jvm.exec) (hb : c.code = cc) (hr : meth.sig.returnType = none) (hV : gx_V D cl tys E ad N σ' τ' s H) (hS : va_S (gx_A ad N) s.heap H locs) (hp : post (σ', τ')) (hdg : decode cc pc = .ok (.return_, 1)) (hlk : meth.locks = false) :
    W p l e R s m args below meth c H locs cells slots (MQ below (va_Qv post (gx_B D cl E ad N) (gx_A ad N)) args s cells slots (gx_A ad N)) (F0 m pc ls []) :=
  W.vret hexec hb hr (fun t ht _ => ⟨⟨(σ', τ'), rfl, hp, by show va_P _ _ _ t.heap; rw [ht]; exact hV.1⟩, hS.F ht⟩) hS.2.2 hdg hlk
/-- .. of one that only counts -/
theorem gx_pret {post : Int32 → Prop} {v : Int32} (hexec : p.tables.exec = Jvm.exec) (hb : c.code = cc) (hr : meth.sig.returnType = some .int) (hS : va_S (fun _ => False) s.heap H locs) (hp : post v) (hdg : decode cc pc = .ok (.ireturn, 1)) (hlk : meth.locks = false) :
    W p l e R s m args below meth c H locs cells slots (MQ below (va_Qi (fun r (_ : Unit) => post r) (fun _ _ => True) (fun _ => False)) args s cells slots (fun _ => False)) (F0 m pc ls [.int v]) :=
  W.iret hexec hb hr (fun t ht _ => ⟨⟨v, (), rfl, hp, trivial⟩, hS.F ht⟩) hS.2.2 hdg hlk
theorem gx_pzret {post : Int32 → Prop} {v : Int32} (hexec : p.tables.exec = Jvm.exec) (hb : c.code = cc) (hr : meth.sig.returnType = some .boolean) (hn : narrow .boolean (.int v) = .int v) (hS : va_S (fun _ => False) s.heap H locs) (hp : post v) (hdg : decode cc pc = .ok (.ireturn, 1)) (hlk : meth.locks = false) :
    W p l e R s m args below meth c H locs cells slots (MQ below (va_Qi (fun r (_ : Unit) => post r) (fun _ _ => True) (fun _ => False)) args s cells slots (fun _ => False)) (F0 m pc ls [.int v]) :=
  W.zret hexec hb hr hn (fun t ht _ => ⟨⟨v, (), rfl, hp, trivial⟩, hS.F ht⟩) hS.2.2 hdg hlk
end GXM
end
section
theorem dL_init_0 : decode prog_2_method_1_code 0 = .ok (.aload_n 0, 1) := by decide +kernel
theorem dL_init_1 : decode prog_2_method_1_code 1 = .ok (.invokespecial 3, 3) := by decide +kernel
theorem dL_init_4 : decode prog_2_method_1_code 4 = .ok (.aload_n 0, 1) := by decide +kernel
theorem dL_init_5 : decode prog_2_method_1_code 5 = .ok (.iload_n 1, 1) := by decide +kernel
theorem dL_init_6 : decode prog_2_method_1_code 6 = .ok (.newarray .int, 2) := by decide +kernel
theorem dL_init_8 : decode prog_2_method_1_code 8 = .ok (.putfield 9, 3) := by decide +kernel
theorem dL_init_11 : decode prog_2_method_1_code 11 = .ok (.aload_n 0, 1) := by decide +kernel
theorem dL_init_12 : decode prog_2_method_1_code 12 = .ok (.iconst 0, 1) := by decide +kernel
theorem dL_init_13 : decode prog_2_method_1_code 13 = .ok (.putfield 15, 3) := by decide +kernel
theorem dL_init_16 : decode prog_2_method_1_code 16 = .ok (.return_, 1) := by decide +kernel
theorem dL_isFull_0 : decode prog_2_method_2_code 0 = .ok (.aload_n 0, 1) := by decide +kernel
theorem dL_isFull_1 : decode prog_2_method_2_code 1 = .ok (.getfield 15, 3) := by decide +kernel
theorem dL_isFull_4 : decode prog_2_method_2_code 4 = .ok (.aload_n 0, 1) := by decide +kernel
theorem dL_isFull_5 : decode prog_2_method_2_code 5 = .ok (.getfield 9, 3) := by decide +kernel
theorem dL_isFull_8 : decode prog_2_method_2_code 8 = .ok (.arraylength, 1) := by decide +kernel
theorem dL_isFull_9 : decode prog_2_method_2_code 9 = .ok (.if_icmp .lt 7, 3) := by decide +kernel
theorem dL_isFull_12 : decode prog_2_method_2_code 12 = .ok (.iconst 1, 1) := by decide +kernel
theorem dL_isFull_13 : decode prog_2_method_2_code 13 = .ok (.goto 4, 3) := by decide +kernel
theorem dL_isFull_16 : decode prog_2_method_2_code 16 = .ok (.iconst 0, 1) := by decide +kernel
theorem dL_isFull_17 : decode prog_2_method_2_code 17 = .ok (.ireturn, 1) := by decide +kernel
theorem dL_first_0 : decode prog_2_method_3_code 0 = .ok (.aload_n 0, 1) := by decide +kernel
theorem dL_first_1 : decode prog_2_method_3_code 1 = .ok (.getfield 15, 3) := by decide +kernel
theorem dL_first_4 : decode prog_2_method_3_code 4 = .ok (.ifCond .ne 7, 3) := by decide +kernel
theorem dL_first_7 : decode prog_2_method_3_code 7 = .ok (.iconst (-1), 1) := by decide +kernel
theorem dL_first_8 : decode prog_2_method_3_code 8 = .ok (.goto 9, 3) := by decide +kernel
theorem dL_first_11 : decode prog_2_method_3_code 11 = .ok (.aload_n 0, 1) := by decide +kernel
theorem dL_first_12 : decode prog_2_method_3_code 12 = .ok (.getfield 9, 3) := by decide +kernel
theorem dL_first_15 : decode prog_2_method_3_code 15 = .ok (.iconst 0, 1) := by decide +kernel
theorem dL_first_16 : decode prog_2_method_3_code 16 = .ok (.iaload, 1) := by decide +kernel
theorem dL_first_17 : decode prog_2_method_3_code 17 = .ok (.ireturn, 1) := by decide +kernel
theorem dL_append_0 : decode prog_2_method_4_code 0 = .ok (.aload_n 0, 1) := by decide +kernel
theorem dL_append_1 : decode prog_2_method_4_code 1 = .ok (.getfield 15, 3) := by decide +kernel
theorem dL_append_4 : decode prog_2_method_4_code 4 = .ok (.aload_n 0, 1) := by decide +kernel
theorem dL_append_5 : decode prog_2_method_4_code 5 = .ok (.getfield 9, 3) := by decide +kernel
theorem dL_append_8 : decode prog_2_method_4_code 8 = .ok (.arraylength, 1) := by decide +kernel
theorem dL_append_9 : decode prog_2_method_4_code 9 = .ok (.if_icmp .ge 23, 3) := by decide +kernel
theorem dL_append_12 : decode prog_2_method_4_code 12 = .ok (.aload_n 0, 1) := by decide +kernel
theorem dL_append_13 : decode prog_2_method_4_code 13 = .ok (.getfield 9, 3) := by decide +kernel
theorem dL_append_16 : decode prog_2_method_4_code 16 = .ok (.aload_n 0, 1) := by decide +kernel
theorem dL_append_17 : decode prog_2_method_4_code 17 = .ok (.getfield 15, 3) := by decide +kernel
theorem dL_append_20 : decode prog_2_method_4_code 20 = .ok (.iload_n 1, 1) := by decide +kernel
theorem dL_append_21 : decode prog_2_method_4_code 21 = .ok (.iastore, 1) := by decide +kernel
theorem dL_append_22 : decode prog_2_method_4_code 22 = .ok (.aload_n 0, 1) := by decide +kernel
theorem dL_append_23 : decode prog_2_method_4_code 23 = .ok (.dup, 1) := by decide +kernel
theorem dL_append_24 : decode prog_2_method_4_code 24 = .ok (.getfield 15, 3) := by decide +kernel
theorem dL_append_27 : decode prog_2_method_4_code 27 = .ok (.iconst 1, 1) := by decide +kernel
theorem dL_append_28 : decode prog_2_method_4_code 28 = .ok (.iadd, 1) := by decide +kernel
theorem dL_append_29 : decode prog_2_method_4_code 29 = .ok (.putfield 15, 3) := by decide +kernel
theorem dL_append_32 : decode prog_2_method_4_code 32 = .ok (.return_, 1) := by decide +kernel
theorem dL_removeFirst_0 : decode prog_2_method_5_code 0 = .ok (.aload_n 0, 1) := by decide +kernel
theorem dL_removeFirst_1 : decode prog_2_method_5_code 1 = .ok (.getfield 15, 3) := by decide +kernel
theorem dL_removeFirst_4 : decode prog_2_method_5_code 4 = .ok (.ifCond .ne 5, 3) := by decide +kernel
theorem dL_removeFirst_7 : decode prog_2_method_5_code 7 = .ok (.iconst (-1), 1) := by decide +kernel
theorem dL_removeFirst_8 : decode prog_2_method_5_code 8 = .ok (.ireturn, 1) := by decide +kernel
theorem dL_removeFirst_9 : decode prog_2_method_5_code 9 = .ok (.aload_n 0, 1) := by decide +kernel
theorem dL_removeFirst_10 : decode prog_2_method_5_code 10 = .ok (.getfield 9, 3) := by decide +kernel
theorem dL_removeFirst_13 : decode prog_2_method_5_code 13 = .ok (.iconst 0, 1) := by decide +kernel
theorem dL_removeFirst_14 : decode prog_2_method_5_code 14 = .ok (.iaload, 1) := by decide +kernel
theorem dL_removeFirst_15 : decode prog_2_method_5_code 15 = .ok (.istore_n 1, 1) := by decide +kernel
theorem dL_removeFirst_16 : decode prog_2_method_5_code 16 = .ok (.aload_n 0, 1) := by decide +kernel
theorem dL_removeFirst_17 : decode prog_2_method_5_code 17 = .ok (.dup, 1) := by decide +kernel
theorem dL_removeFirst_18 : decode prog_2_method_5_code 18 = .ok (.getfield 15, 3) := by decide +kernel
theorem dL_removeFirst_21 : decode prog_2_method_5_code 21 = .ok (.iconst 1, 1) := by decide +kernel
theorem dL_removeFirst_22 : decode prog_2_method_5_code 22 = .ok (.isub, 1) := by decide +kernel
theorem dL_removeFirst_23 : decode prog_2_method_5_code 23 = .ok (.putfield 15, 3) := by decide +kernel
theorem dL_removeFirst_26 : decode prog_2_method_5_code 26 = .ok (.iconst 0, 1) := by decide +kernel
theorem dL_removeFirst_27 : decode prog_2_method_5_code 27 = .ok (.istore_n 2, 1) := by decide +kernel
theorem dL_removeFirst_28 : decode prog_2_method_5_code 28 = .ok (.iload_n 2, 1) := by decide +kernel
theorem dL_removeFirst_29 : decode prog_2_method_5_code 29 = .ok (.aload_n 0, 1) := by decide +kernel
theorem dL_removeFirst_30 : decode prog_2_method_5_code 30 = .ok (.getfield 15, 3) := by decide +kernel
theorem dL_removeFirst_33 : decode prog_2_method_5_code 33 = .ok (.if_icmp .ge 23, 3) := by decide +kernel
theorem dL_removeFirst_36 : decode prog_2_method_5_code 36 = .ok (.aload_n 0, 1) := by decide +kernel
theorem dL_removeFirst_37 : decode prog_2_method_5_code 37 = .ok (.getfield 9, 3) := by decide +kernel
theorem dL_removeFirst_40 : decode prog_2_method_5_code 40 = .ok (.iload_n 2, 1) := by decide +kernel
theorem dL_removeFirst_41 : decode prog_2_method_5_code 41 = .ok (.aload_n 0, 1) := by decide +kernel
theorem dL_removeFirst_42 : decode prog_2_method_5_code 42 = .ok (.getfield 9, 3) := by decide +kernel
theorem dL_removeFirst_45 : decode prog_2_method_5_code 45 = .ok (.iload_n 2, 1) := by decide +kernel
theorem dL_removeFirst_46 : decode prog_2_method_5_code 46 = .ok (.iconst 1, 1) := by decide +kernel
theorem dL_removeFirst_47 : decode prog_2_method_5_code 47 = .ok (.iadd, 1) := by decide +kernel
theorem dL_removeFirst_48 : decode prog_2_method_5_code 48 = .ok (.iaload, 1) := by decide +kernel
theorem dL_removeFirst_49 : decode prog_2_method_5_code 49 = .ok (.iastore, 1) := by decide +kernel
theorem dL_removeFirst_50 : decode prog_2_method_5_code 50 = .ok (.iinc 2 1, 3) := by decide +kernel
theorem dL_removeFirst_53 : decode prog_2_method_5_code 53 = .ok (.goto (-25), 3) := by decide +kernel
theorem dL_removeFirst_56 : decode prog_2_method_5_code 56 = .ok (.iload_n 1, 1) := by decide +kernel
theorem dL_removeFirst_57 : decode prog_2_method_5_code 57 = .ok (.ireturn, 1) := by decide +kernel
theorem dM_init_0 : decode prog_3_method_1_code 0 = .ok (.aload_n 0, 1) := by decide +kernel
theorem dM_init_1 : decode prog_3_method_1_code 1 = .ok (.invokespecial 3, 3) := by decide +kernel
theorem dM_init_4 : decode prog_3_method_1_code 4 = .ok (.aload_n 0, 1) := by decide +kernel
theorem dM_init_5 : decode prog_3_method_1_code 5 = .ok (.new 9, 3) := by decide +kernel
theorem dM_init_8 : decode prog_3_method_1_code 8 = .ok (.dup, 1) := by decide +kernel
theorem dM_init_9 : decode prog_3_method_1_code 9 = .ok (.bipush 8, 2) := by decide +kernel
theorem dM_init_11 : decode prog_3_method_1_code 11 = .ok (.invokespecial 11, 3) := by decide +kernel
theorem dM_init_14 : decode prog_3_method_1_code 14 = .ok (.putfield 14, 3) := by decide +kernel
theorem dM_init_17 : decode prog_3_method_1_code 17 = .ok (.aload_n 0, 1) := by decide +kernel
theorem dM_init_18 : decode prog_3_method_1_code 18 = .ok (.new 9, 3) := by decide +kernel
theorem dM_init_21 : decode prog_3_method_1_code 21 = .ok (.dup, 1) := by decide +kernel
theorem dM_init_22 : decode prog_3_method_1_code 22 = .ok (.iconst 4, 1) := by decide +kernel
theorem dM_init_23 : decode prog_3_method_1_code 23 = .ok (.invokespecial 11, 3) := by decide +kernel
theorem dM_init_26 : decode prog_3_method_1_code 26 = .ok (.putfield 20, 3) := by decide +kernel
theorem dM_init_29 : decode prog_3_method_1_code 29 = .ok (.aload_n 0, 1) := by decide +kernel
theorem dM_init_30 : decode prog_3_method_1_code 30 = .ok (.iconst 0, 1) := by decide +kernel
theorem dM_init_31 : decode prog_3_method_1_code 31 = .ok (.putfield 23, 3) := by decide +kernel
theorem dM_init_34 : decode prog_3_method_1_code 34 = .ok (.aload_n 0, 1) := by decide +kernel
theorem dM_init_35 : decode prog_3_method_1_code 35 = .ok (.iconst 1, 1) := by decide +kernel
theorem dM_init_36 : decode prog_3_method_1_code 36 = .ok (.putfield 27, 3) := by decide +kernel
theorem dM_init_39 : decode prog_3_method_1_code 39 = .ok (.aload_n 0, 1) := by decide +kernel
theorem dM_init_40 : decode prog_3_method_1_code 40 = .ok (.iconst 3, 1) := by decide +kernel
theorem dM_init_41 : decode prog_3_method_1_code 41 = .ok (.putfield 31, 3) := by decide +kernel
theorem dM_init_44 : decode prog_3_method_1_code 44 = .ok (.return_, 1) := by decide +kernel
theorem dM_hasInFlight_0 : decode prog_3_method_2_code 0 = .ok (.aload_n 0, 1) := by decide +kernel
theorem dM_hasInFlight_1 : decode prog_3_method_2_code 1 = .ok (.getfield 23, 3) := by decide +kernel
theorem dM_hasInFlight_4 : decode prog_3_method_2_code 4 = .ok (.iload_n 1, 1) := by decide +kernel
theorem dM_hasInFlight_5 : decode prog_3_method_2_code 5 = .ok (.ishr, 1) := by decide +kernel
theorem dM_hasInFlight_6 : decode prog_3_method_2_code 6 = .ok (.iconst 1, 1) := by decide +kernel
theorem dM_hasInFlight_7 : decode prog_3_method_2_code 7 = .ok (.iand, 1) := by decide +kernel
theorem dM_hasInFlight_8 : decode prog_3_method_2_code 8 = .ok (.iconst 1, 1) := by decide +kernel
theorem dM_hasInFlight_9 : decode prog_3_method_2_code 9 = .ok (.if_icmp .ne 7, 3) := by decide +kernel
theorem dM_hasInFlight_12 : decode prog_3_method_2_code 12 = .ok (.iconst 1, 1) := by decide +kernel
theorem dM_hasInFlight_13 : decode prog_3_method_2_code 13 = .ok (.goto 4, 3) := by decide +kernel
theorem dM_hasInFlight_16 : decode prog_3_method_2_code 16 = .ok (.iconst 0, 1) := by decide +kernel
theorem dM_hasInFlight_17 : decode prog_3_method_2_code 17 = .ok (.ireturn, 1) := by decide +kernel
theorem dM_hasRoomForAnswer_0 : decode prog_3_method_3_code 0 = .ok (.aload_n 0, 1) := by decide +kernel
theorem dM_hasRoomForAnswer_1 : decode prog_3_method_3_code 1 = .ok (.getfield 27, 3) := by decide +kernel
theorem dM_hasRoomForAnswer_4 : decode prog_3_method_3_code 4 = .ok (.ifCond .eq 17, 3) := by decide +kernel
theorem dM_hasRoomForAnswer_7 : decode prog_3_method_3_code 7 = .ok (.aload_n 0, 1) := by decide +kernel
theorem dM_hasRoomForAnswer_8 : decode prog_3_method_3_code 8 = .ok (.getfield 20, 3) := by decide +kernel
theorem dM_hasRoomForAnswer_11 : decode prog_3_method_3_code 11 = .ok (.invokevirtual 34, 3) := by decide +kernel
theorem dM_hasRoomForAnswer_14 : decode prog_3_method_3_code 14 = .ok (.ifCond .ne 7, 3) := by decide +kernel
theorem dM_hasRoomForAnswer_17 : decode prog_3_method_3_code 17 = .ok (.iconst 1, 1) := by decide +kernel
theorem dM_hasRoomForAnswer_18 : decode prog_3_method_3_code 18 = .ok (.goto 4, 3) := by decide +kernel
theorem dM_hasRoomForAnswer_21 : decode prog_3_method_3_code 21 = .ok (.iconst 0, 1) := by decide +kernel
theorem dM_hasRoomForAnswer_22 : decode prog_3_method_3_code 22 = .ok (.ireturn, 1) := by decide +kernel
theorem dG_init_0 : decode prog_4_method_1_code 0 = .ok (.aload_n 0, 1) := by decide +kernel
theorem dG_init_1 : decode prog_4_method_1_code 1 = .ok (.invokespecial 3, 3) := by decide +kernel
theorem dG_init_4 : decode prog_4_method_1_code 4 = .ok (.return_, 1) := by decide +kernel
theorem dG_become_0 : decode prog_4_method_2_code 0 = .ok (.aload_n 0, 1) := by decide +kernel
theorem dG_become_1 : decode prog_4_method_2_code 1 = .ok (.iload_n 1, 1) := by decide +kernel
theorem dG_become_2 : decode prog_4_method_2_code 2 = .ok (.putfield 9, 3) := by decide +kernel
theorem dG_become_5 : decode prog_4_method_2_code 5 = .ok (.aload_n 0, 1) := by decide +kernel
theorem dG_become_6 : decode prog_4_method_2_code 6 = .ok (.iload_n 2, 1) := by decide +kernel
theorem dG_become_7 : decode prog_4_method_2_code 7 = .ok (.putfield 15, 3) := by decide +kernel
theorem dG_become_10 : decode prog_4_method_2_code 10 = .ok (.aload_n 0, 1) := by decide +kernel
theorem dG_become_11 : decode prog_4_method_2_code 11 = .ok (.iload_n 3, 1) := by decide +kernel
theorem dG_become_12 : decode prog_4_method_2_code 12 = .ok (.putfield 18, 3) := by decide +kernel
theorem dG_become_15 : decode prog_4_method_2_code 15 = .ok (.aload_n 0, 1) := by decide +kernel
theorem dG_become_16 : decode prog_4_method_2_code 16 = .ok (.lload 4, 2) := by decide +kernel
theorem dG_become_18 : decode prog_4_method_2_code 18 = .ok (.putfield 21, 3) := by decide +kernel
theorem dG_become_21 : decode prog_4_method_2_code 21 = .ok (.aload_n 0, 1) := by decide +kernel
theorem dG_become_22 : decode prog_4_method_2_code 22 = .ok (.iload 6, 2) := by decide +kernel
theorem dG_become_24 : decode prog_4_method_2_code 24 = .ok (.putfield 25, 3) := by decide +kernel
theorem dG_become_27 : decode prog_4_method_2_code 27 = .ok (.return_, 1) := by decide +kernel
theorem dG_size_0 : decode prog_4_method_3_code 0 = .ok (.iconst 1, 1) := by decide +kernel
theorem dG_size_1 : decode prog_4_method_3_code 1 = .ok (.aload_n 0, 1) := by decide +kernel
theorem dG_size_2 : decode prog_4_method_3_code 2 = .ok (.getfield 15, 3) := by decide +kernel
theorem dG_size_5 : decode prog_4_method_3_code 5 = .ok (.ishl, 1) := by decide +kernel
theorem dG_size_6 : decode prog_4_method_3_code 6 = .ok (.ireturn, 1) := by decide +kernel
theorem dG_isDenied_0 : decode prog_4_method_4_code 0 = .ok (.aload_n 0, 1) := by decide +kernel
theorem dG_isDenied_1 : decode prog_4_method_4_code 1 = .ok (.getfield 18, 3) := by decide +kernel
theorem dG_isDenied_4 : decode prog_4_method_4_code 4 = .ok (.sipush 640, 3) := by decide +kernel
theorem dG_isDenied_7 : decode prog_4_method_4_code 7 = .ok (.if_icmp .lt 7, 3) := by decide +kernel
theorem dG_isDenied_10 : decode prog_4_method_4_code 10 = .ok (.iconst 1, 1) := by decide +kernel
theorem dG_isDenied_11 : decode prog_4_method_4_code 11 = .ok (.goto 4, 3) := by decide +kernel
theorem dG_isDenied_14 : decode prog_4_method_4_code 14 = .ok (.iconst 0, 1) := by decide +kernel
theorem dG_isDenied_15 : decode prog_4_method_4_code 15 = .ok (.ireturn, 1) := by decide +kernel
theorem dG_writesByte_0 : decode prog_4_method_5_code 0 = .ok (.aload_n 0, 1) := by decide +kernel
theorem dG_writesByte_1 : decode prog_4_method_5_code 1 = .ok (.getfield 9, 3) := by decide +kernel
theorem dG_writesByte_4 : decode prog_4_method_5_code 4 = .ok (.iconst 1, 1) := by decide +kernel
theorem dG_writesByte_5 : decode prog_4_method_5_code 5 = .ok (.if_icmp .eq 15, 3) := by decide +kernel
theorem dG_writesByte_8 : decode prog_4_method_5_code 8 = .ok (.aload_n 0, 1) := by decide +kernel
theorem dG_writesByte_9 : decode prog_4_method_5_code 9 = .ok (.getfield 25, 3) := by decide +kernel
theorem dG_writesByte_12 : decode prog_4_method_5_code 12 = .ok (.iload_n 1, 1) := by decide +kernel
theorem dG_writesByte_13 : decode prog_4_method_5_code 13 = .ok (.ishr, 1) := by decide +kernel
theorem dG_writesByte_14 : decode prog_4_method_5_code 14 = .ok (.iconst 1, 1) := by decide +kernel
theorem dG_writesByte_15 : decode prog_4_method_5_code 15 = .ok (.iand, 1) := by decide +kernel
theorem dG_writesByte_16 : decode prog_4_method_5_code 16 = .ok (.iconst 1, 1) := by decide +kernel
theorem dG_writesByte_17 : decode prog_4_method_5_code 17 = .ok (.if_icmp .ne 7, 3) := by decide +kernel
theorem dG_writesByte_20 : decode prog_4_method_5_code 20 = .ok (.iconst 1, 1) := by decide +kernel
theorem dG_writesByte_21 : decode prog_4_method_5_code 21 = .ok (.goto 4, 3) := by decide +kernel
theorem dG_writesByte_24 : decode prog_4_method_5_code 24 = .ok (.iconst 0, 1) := by decide +kernel
theorem dG_writesByte_25 : decode prog_4_method_5_code 25 = .ok (.ireturn, 1) := by decide +kernel
theorem dG_goesTo_0 : decode prog_4_method_6_code 0 = .ok (.aload_n 0, 1) := by decide +kernel
theorem dG_goesTo_1 : decode prog_4_method_6_code 1 = .ok (.getfield 18, 3) := by decide +kernel
theorem dG_goesTo_4 : decode prog_4_method_6_code 4 = .ok (.getstatic 28, 3) := by decide +kernel
theorem dG_goesTo_7 : decode prog_4_method_6_code 7 = .ok (.iload_n 1, 1) := by decide +kernel
theorem dG_goesTo_8 : decode prog_4_method_6_code 8 = .ok (.iaload, 1) := by decide +kernel
theorem dG_goesTo_9 : decode prog_4_method_6_code 9 = .ok (.if_icmp .ge 25, 3) := by decide +kernel
theorem dG_goesTo_12 : decode prog_4_method_6_code 12 = .ok (.iload_n 1, 1) := by decide +kernel
theorem dG_goesTo_13 : decode prog_4_method_6_code 13 = .ok (.ifCond .eq 17, 3) := by decide +kernel
theorem dG_goesTo_16 : decode prog_4_method_6_code 16 = .ok (.aload_n 0, 1) := by decide +kernel
theorem dG_goesTo_17 : decode prog_4_method_6_code 17 = .ok (.getfield 18, 3) := by decide +kernel
theorem dG_goesTo_20 : decode prog_4_method_6_code 20 = .ok (.getstatic 28, 3) := by decide +kernel
theorem dG_goesTo_23 : decode prog_4_method_6_code 23 = .ok (.iload_n 1, 1) := by decide +kernel
theorem dG_goesTo_24 : decode prog_4_method_6_code 24 = .ok (.iconst 1, 1) := by decide +kernel
theorem dG_goesTo_25 : decode prog_4_method_6_code 25 = .ok (.isub, 1) := by decide +kernel
theorem dG_goesTo_26 : decode prog_4_method_6_code 26 = .ok (.iaload, 1) := by decide +kernel
theorem dG_goesTo_27 : decode prog_4_method_6_code 27 = .ok (.if_icmp .lt 7, 3) := by decide +kernel
theorem dG_goesTo_30 : decode prog_4_method_6_code 30 = .ok (.iconst 1, 1) := by decide +kernel
theorem dG_goesTo_31 : decode prog_4_method_6_code 31 = .ok (.goto 4, 3) := by decide +kernel
theorem dG_goesTo_34 : decode prog_4_method_6_code 34 = .ok (.iconst 0, 1) := by decide +kernel
theorem dG_goesTo_35 : decode prog_4_method_6_code 35 = .ok (.ireturn, 1) := by decide +kernel
theorem dP_init_0 : decode prog_5_method_1_code 0 = .ok (.aload_n 0, 1) := by decide +kernel
theorem dP_init_1 : decode prog_5_method_1_code 1 = .ok (.invokespecial 3, 3) := by decide +kernel
theorem dP_init_4 : decode prog_5_method_1_code 4 = .ok (.aload_n 0, 1) := by decide +kernel
theorem dP_init_5 : decode prog_5_method_1_code 5 = .ok (.new 9, 3) := by decide +kernel
theorem dP_init_8 : decode prog_5_method_1_code 8 = .ok (.dup, 1) := by decide +kernel
theorem dP_init_9 : decode prog_5_method_1_code 9 = .ok (.iconst 2, 1) := by decide +kernel
theorem dP_init_10 : decode prog_5_method_1_code 10 = .ok (.invokespecial 11, 3) := by decide +kernel
theorem dP_init_13 : decode prog_5_method_1_code 13 = .ok (.putfield 14, 3) := by decide +kernel
theorem dP_init_16 : decode prog_5_method_1_code 16 = .ok (.aload_n 0, 1) := by decide +kernel
theorem dP_init_17 : decode prog_5_method_1_code 17 = .ok (.new 9, 3) := by decide +kernel
theorem dP_init_20 : decode prog_5_method_1_code 20 = .ok (.dup, 1) := by decide +kernel
theorem dP_init_21 : decode prog_5_method_1_code 21 = .ok (.iconst 2, 1) := by decide +kernel
theorem dP_init_22 : decode prog_5_method_1_code 22 = .ok (.invokespecial 11, 3) := by decide +kernel
theorem dP_init_25 : decode prog_5_method_1_code 25 = .ok (.putfield 20, 3) := by decide +kernel
theorem dP_init_28 : decode prog_5_method_1_code 28 = .ok (.aload_n 0, 1) := by decide +kernel
theorem dP_init_29 : decode prog_5_method_1_code 29 = .ok (.iconst 4, 1) := by decide +kernel
theorem dP_init_30 : decode prog_5_method_1_code 30 = .ok (.newarray .int, 2) := by decide +kernel
theorem dP_init_32 : decode prog_5_method_1_code 32 = .ok (.putfield 23, 3) := by decide +kernel
theorem dP_init_35 : decode prog_5_method_1_code 35 = .ok (.iconst 0, 1) := by decide +kernel
theorem dP_init_36 : decode prog_5_method_1_code 36 = .ok (.istore_n 1, 1) := by decide +kernel
theorem dP_init_37 : decode prog_5_method_1_code 37 = .ok (.iload_n 1, 1) := by decide +kernel
theorem dP_init_38 : decode prog_5_method_1_code 38 = .ok (.iconst 4, 1) := by decide +kernel
theorem dP_init_39 : decode prog_5_method_1_code 39 = .ok (.if_icmp .ge 16, 3) := by decide +kernel
theorem dP_init_42 : decode prog_5_method_1_code 42 = .ok (.aload_n 0, 1) := by decide +kernel
theorem dP_init_43 : decode prog_5_method_1_code 43 = .ok (.getfield 23, 3) := by decide +kernel
theorem dP_init_46 : decode prog_5_method_1_code 46 = .ok (.iload_n 1, 1) := by decide +kernel
theorem dP_init_47 : decode prog_5_method_1_code 47 = .ok (.iconst (-1), 1) := by decide +kernel
theorem dP_init_48 : decode prog_5_method_1_code 48 = .ok (.iastore, 1) := by decide +kernel
theorem dP_init_49 : decode prog_5_method_1_code 49 = .ok (.iinc 1 1, 3) := by decide +kernel
theorem dP_init_52 : decode prog_5_method_1_code 52 = .ok (.goto (-15), 3) := by decide +kernel
theorem dP_init_55 : decode prog_5_method_1_code 55 = .ok (.aload_n 0, 1) := by decide +kernel
theorem dP_init_56 : decode prog_5_method_1_code 56 = .ok (.iconst (-1), 1) := by decide +kernel
theorem dP_init_57 : decode prog_5_method_1_code 57 = .ok (.putfield 27, 3) := by decide +kernel
theorem dP_init_60 : decode prog_5_method_1_code 60 = .ok (.aload_n 0, 1) := by decide +kernel
theorem dP_init_61 : decode prog_5_method_1_code 61 = .ok (.iconst 0, 1) := by decide +kernel
theorem dP_init_62 : decode prog_5_method_1_code 62 = .ok (.putfield 31, 3) := by decide +kernel
theorem dP_init_65 : decode prog_5_method_1_code 65 = .ok (.aload_n 0, 1) := by decide +kernel
theorem dP_init_66 : decode prog_5_method_1_code 66 = .ok (.iconst 0, 1) := by decide +kernel
theorem dP_init_67 : decode prog_5_method_1_code 67 = .ok (.putfield 34, 3) := by decide +kernel
theorem dP_init_70 : decode prog_5_method_1_code 70 = .ok (.aload_n 0, 1) := by decide +kernel
theorem dP_init_71 : decode prog_5_method_1_code 71 = .ok (.iconst 2, 1) := by decide +kernel
theorem dP_init_72 : decode prog_5_method_1_code 72 = .ok (.putfield 37, 3) := by decide +kernel
theorem dP_init_75 : decode prog_5_method_1_code 75 = .ok (.return_, 1) := by decide +kernel
theorem dP_countDown_0 : decode prog_5_method_2_code 0 = .ok (.aload_n 0, 1) := by decide +kernel
theorem dP_countDown_1 : decode prog_5_method_2_code 1 = .ok (.getfield 31, 3) := by decide +kernel
theorem dP_countDown_4 : decode prog_5_method_2_code 4 = .ok (.ifCond .le 13, 3) := by decide +kernel
theorem dP_countDown_7 : decode prog_5_method_2_code 7 = .ok (.aload_n 0, 1) := by decide +kernel
theorem dP_countDown_8 : decode prog_5_method_2_code 8 = .ok (.dup, 1) := by decide +kernel
theorem dP_countDown_9 : decode prog_5_method_2_code 9 = .ok (.getfield 31, 3) := by decide +kernel
theorem dP_countDown_12 : decode prog_5_method_2_code 12 = .ok (.iconst 1, 1) := by decide +kernel
theorem dP_countDown_13 : decode prog_5_method_2_code 13 = .ok (.isub, 1) := by decide +kernel
theorem dP_countDown_14 : decode prog_5_method_2_code 14 = .ok (.putfield 31, 3) := by decide +kernel
theorem dP_countDown_17 : decode prog_5_method_2_code 17 = .ok (.return_, 1) := by decide +kernel
theorem dP_canFinishJob_0 : decode prog_5_method_3_code 0 = .ok (.aload_n 0, 1) := by decide +kernel
theorem dP_canFinishJob_1 : decode prog_5_method_3_code 1 = .ok (.getfield 27, 3) := by decide +kernel
theorem dP_canFinishJob_4 : decode prog_5_method_3_code 4 = .ok (.iconst (-1), 1) := by decide +kernel
theorem dP_canFinishJob_5 : decode prog_5_method_3_code 5 = .ok (.if_icmp .eq 24, 3) := by decide +kernel
theorem dP_canFinishJob_8 : decode prog_5_method_3_code 8 = .ok (.aload_n 0, 1) := by decide +kernel
theorem dP_canFinishJob_9 : decode prog_5_method_3_code 9 = .ok (.getfield 31, 3) := by decide +kernel
theorem dP_canFinishJob_12 : decode prog_5_method_3_code 12 = .ok (.ifCond .ne 17, 3) := by decide +kernel
theorem dP_canFinishJob_15 : decode prog_5_method_3_code 15 = .ok (.aload_n 0, 1) := by decide +kernel
theorem dP_canFinishJob_16 : decode prog_5_method_3_code 16 = .ok (.getfield 20, 3) := by decide +kernel
theorem dP_canFinishJob_19 : decode prog_5_method_3_code 19 = .ok (.invokevirtual 40, 3) := by decide +kernel
theorem dP_canFinishJob_22 : decode prog_5_method_3_code 22 = .ok (.ifCond .ne 7, 3) := by decide +kernel
theorem dP_canFinishJob_25 : decode prog_5_method_3_code 25 = .ok (.iconst 1, 1) := by decide +kernel
theorem dP_canFinishJob_26 : decode prog_5_method_3_code 26 = .ok (.goto 4, 3) := by decide +kernel
theorem dP_canFinishJob_29 : decode prog_5_method_3_code 29 = .ok (.iconst 0, 1) := by decide +kernel
theorem dP_canFinishJob_30 : decode prog_5_method_3_code 30 = .ok (.ireturn, 1) := by decide +kernel
theorem dP_canBeginJob_0 : decode prog_5_method_4_code 0 = .ok (.aload_n 0, 1) := by decide +kernel
theorem dP_canBeginJob_1 : decode prog_5_method_4_code 1 = .ok (.getfield 27, 3) := by decide +kernel
theorem dP_canBeginJob_4 : decode prog_5_method_4_code 4 = .ok (.iconst (-1), 1) := by decide +kernel
theorem dP_canBeginJob_5 : decode prog_5_method_4_code 5 = .ok (.if_icmp .ne 17, 3) := by decide +kernel
theorem dP_canBeginJob_8 : decode prog_5_method_4_code 8 = .ok (.aload_n 0, 1) := by decide +kernel
theorem dP_canBeginJob_9 : decode prog_5_method_4_code 9 = .ok (.getfield 14, 3) := by decide +kernel
theorem dP_canBeginJob_12 : decode prog_5_method_4_code 12 = .ok (.getfield 44, 3) := by decide +kernel
theorem dP_canBeginJob_15 : decode prog_5_method_4_code 15 = .ok (.ifCond .le 7, 3) := by decide +kernel
theorem dP_canBeginJob_18 : decode prog_5_method_4_code 18 = .ok (.iconst 1, 1) := by decide +kernel
theorem dP_canBeginJob_19 : decode prog_5_method_4_code 19 = .ok (.goto 4, 3) := by decide +kernel
theorem dP_canBeginJob_22 : decode prog_5_method_4_code 22 = .ok (.iconst 0, 1) := by decide +kernel
theorem dP_canBeginJob_23 : decode prog_5_method_4_code 23 = .ok (.ireturn, 1) := by decide +kernel
theorem dP_finishJob_0 : decode prog_5_method_5_code 0 = .ok (.aload_n 0, 1) := by decide +kernel
theorem dP_finishJob_1 : decode prog_5_method_5_code 1 = .ok (.getfield 27, 3) := by decide +kernel
theorem dP_finishJob_4 : decode prog_5_method_5_code 4 = .ok (.istore_n 1, 1) := by decide +kernel
theorem dP_finishJob_5 : decode prog_5_method_5_code 5 = .ok (.iload_n 1, 1) := by decide +kernel
theorem dP_finishJob_6 : decode prog_5_method_5_code 6 = .ok (.iconst (-1), 1) := by decide +kernel
theorem dP_finishJob_7 : decode prog_5_method_5_code 7 = .ok (.if_icmp .eq 26, 3) := by decide +kernel
theorem dP_finishJob_10 : decode prog_5_method_5_code 10 = .ok (.aload_n 0, 1) := by decide +kernel
theorem dP_finishJob_11 : decode prog_5_method_5_code 11 = .ok (.getfield 20, 3) := by decide +kernel
theorem dP_finishJob_14 : decode prog_5_method_5_code 14 = .ok (.iload_n 1, 1) := by decide +kernel
theorem dP_finishJob_15 : decode prog_5_method_5_code 15 = .ok (.invokevirtual 47, 3) := by decide +kernel
theorem dP_finishJob_18 : decode prog_5_method_5_code 18 = .ok (.aload_n 0, 1) := by decide +kernel
theorem dP_finishJob_19 : decode prog_5_method_5_code 19 = .ok (.iconst (-1), 1) := by decide +kernel
theorem dP_finishJob_20 : decode prog_5_method_5_code 20 = .ok (.putfield 27, 3) := by decide +kernel
theorem dP_finishJob_23 : decode prog_5_method_5_code 23 = .ok (.aload_n 0, 1) := by decide +kernel
theorem dP_finishJob_24 : decode prog_5_method_5_code 24 = .ok (.dup, 1) := by decide +kernel
theorem dP_finishJob_25 : decode prog_5_method_5_code 25 = .ok (.getfield 34, 3) := by decide +kernel
theorem dP_finishJob_28 : decode prog_5_method_5_code 28 = .ok (.iconst 1, 1) := by decide +kernel
theorem dP_finishJob_29 : decode prog_5_method_5_code 29 = .ok (.iadd, 1) := by decide +kernel
theorem dP_finishJob_30 : decode prog_5_method_5_code 30 = .ok (.putfield 34, 3) := by decide +kernel
theorem dP_finishJob_33 : decode prog_5_method_5_code 33 = .ok (.iload_n 1, 1) := by decide +kernel
theorem dP_finishJob_34 : decode prog_5_method_5_code 34 = .ok (.ireturn, 1) := by decide +kernel
theorem dP_hasRoomForRequest_0 : decode prog_5_method_6_code 0 = .ok (.aload_n 0, 1) := by decide +kernel
theorem dP_hasRoomForRequest_1 : decode prog_5_method_6_code 1 = .ok (.getfield 14, 3) := by decide +kernel
theorem dP_hasRoomForRequest_4 : decode prog_5_method_6_code 4 = .ok (.invokevirtual 40, 3) := by decide +kernel
theorem dP_hasRoomForRequest_7 : decode prog_5_method_6_code 7 = .ok (.ifCond .ne 15, 3) := by decide +kernel
theorem dP_hasRoomForRequest_10 : decode prog_5_method_6_code 10 = .ok (.aload_n 0, 1) := by decide +kernel
theorem dP_hasRoomForRequest_11 : decode prog_5_method_6_code 11 = .ok (.invokevirtual 50, 3) := by decide +kernel
theorem dP_hasRoomForRequest_14 : decode prog_5_method_6_code 14 = .ok (.iconst 4, 1) := by decide +kernel
theorem dP_hasRoomForRequest_15 : decode prog_5_method_6_code 15 = .ok (.if_icmp .ge 7, 3) := by decide +kernel
theorem dP_hasRoomForRequest_18 : decode prog_5_method_6_code 18 = .ok (.iconst 1, 1) := by decide +kernel
theorem dP_hasRoomForRequest_19 : decode prog_5_method_6_code 19 = .ok (.goto 4, 3) := by decide +kernel
theorem dP_hasRoomForRequest_22 : decode prog_5_method_6_code 22 = .ok (.iconst 0, 1) := by decide +kernel
theorem dP_hasRoomForRequest_23 : decode prog_5_method_6_code 23 = .ok (.ireturn, 1) := by decide +kernel
theorem dP_idsInUse_0 : decode prog_5_method_7_code 0 = .ok (.iconst 0, 1) := by decide +kernel
theorem dP_idsInUse_1 : decode prog_5_method_7_code 1 = .ok (.istore_n 1, 1) := by decide +kernel
theorem dP_idsInUse_2 : decode prog_5_method_7_code 2 = .ok (.iconst 0, 1) := by decide +kernel
theorem dP_idsInUse_3 : decode prog_5_method_7_code 3 = .ok (.istore_n 2, 1) := by decide +kernel
theorem dP_idsInUse_4 : decode prog_5_method_7_code 4 = .ok (.iload_n 2, 1) := by decide +kernel
theorem dP_idsInUse_5 : decode prog_5_method_7_code 5 = .ok (.iconst 4, 1) := by decide +kernel
theorem dP_idsInUse_6 : decode prog_5_method_7_code 6 = .ok (.if_icmp .ge 22, 3) := by decide +kernel
theorem dP_idsInUse_9 : decode prog_5_method_7_code 9 = .ok (.aload_n 0, 1) := by decide +kernel
theorem dP_idsInUse_10 : decode prog_5_method_7_code 10 = .ok (.getfield 23, 3) := by decide +kernel
theorem dP_idsInUse_13 : decode prog_5_method_7_code 13 = .ok (.iload_n 2, 1) := by decide +kernel
theorem dP_idsInUse_14 : decode prog_5_method_7_code 14 = .ok (.iaload, 1) := by decide +kernel
theorem dP_idsInUse_15 : decode prog_5_method_7_code 15 = .ok (.iconst (-1), 1) := by decide +kernel
theorem dP_idsInUse_16 : decode prog_5_method_7_code 16 = .ok (.if_icmp .eq 6, 3) := by decide +kernel
theorem dP_idsInUse_19 : decode prog_5_method_7_code 19 = .ok (.iinc 1 1, 3) := by decide +kernel
theorem dP_idsInUse_22 : decode prog_5_method_7_code 22 = .ok (.iinc 2 1, 3) := by decide +kernel
theorem dP_idsInUse_25 : decode prog_5_method_7_code 25 = .ok (.goto (-21), 3) := by decide +kernel
theorem dP_idsInUse_28 : decode prog_5_method_7_code 28 = .ok (.iload_n 1, 1) := by decide +kernel
theorem dP_idsInUse_29 : decode prog_5_method_7_code 29 = .ok (.ireturn, 1) := by decide +kernel
theorem dP_takeLeastId_0 : decode prog_5_method_8_code 0 = .ok (.iconst 0, 1) := by decide +kernel
theorem dP_takeLeastId_1 : decode prog_5_method_8_code 1 = .ok (.istore_n 2, 1) := by decide +kernel
theorem dP_takeLeastId_2 : decode prog_5_method_8_code 2 = .ok (.iload_n 2, 1) := by decide +kernel
theorem dP_takeLeastId_3 : decode prog_5_method_8_code 3 = .ok (.iconst 4, 1) := by decide +kernel
theorem dP_takeLeastId_4 : decode prog_5_method_8_code 4 = .ok (.if_icmp .ge 27, 3) := by decide +kernel
theorem dP_takeLeastId_7 : decode prog_5_method_8_code 7 = .ok (.aload_n 0, 1) := by decide +kernel
theorem dP_takeLeastId_8 : decode prog_5_method_8_code 8 = .ok (.getfield 23, 3) := by decide +kernel
theorem dP_takeLeastId_11 : decode prog_5_method_8_code 11 = .ok (.iload_n 2, 1) := by decide +kernel
theorem dP_takeLeastId_12 : decode prog_5_method_8_code 12 = .ok (.iaload, 1) := by decide +kernel
theorem dP_takeLeastId_13 : decode prog_5_method_8_code 13 = .ok (.iconst (-1), 1) := by decide +kernel
theorem dP_takeLeastId_14 : decode prog_5_method_8_code 14 = .ok (.if_icmp .ne 11, 3) := by decide +kernel
theorem dP_takeLeastId_17 : decode prog_5_method_8_code 17 = .ok (.aload_n 0, 1) := by decide +kernel
theorem dP_takeLeastId_18 : decode prog_5_method_8_code 18 = .ok (.getfield 23, 3) := by decide +kernel
theorem dP_takeLeastId_21 : decode prog_5_method_8_code 21 = .ok (.iload_n 2, 1) := by decide +kernel
theorem dP_takeLeastId_22 : decode prog_5_method_8_code 22 = .ok (.iload_n 1, 1) := by decide +kernel
theorem dP_takeLeastId_23 : decode prog_5_method_8_code 23 = .ok (.iastore, 1) := by decide +kernel
theorem dP_takeLeastId_24 : decode prog_5_method_8_code 24 = .ok (.return_, 1) := by decide +kernel
theorem dP_takeLeastId_25 : decode prog_5_method_8_code 25 = .ok (.iinc 2 1, 3) := by decide +kernel
theorem dP_takeLeastId_28 : decode prog_5_method_8_code 28 = .ok (.goto (-26), 3) := by decide +kernel
theorem dP_takeLeastId_31 : decode prog_5_method_8_code 31 = .ok (.return_, 1) := by decide +kernel
theorem dP_releaseId_0 : decode prog_5_method_9_code 0 = .ok (.iconst 0, 1) := by decide +kernel
theorem dP_releaseId_1 : decode prog_5_method_9_code 1 = .ok (.istore_n 2, 1) := by decide +kernel
theorem dP_releaseId_2 : decode prog_5_method_9_code 2 = .ok (.iload_n 2, 1) := by decide +kernel
theorem dP_releaseId_3 : decode prog_5_method_9_code 3 = .ok (.iconst 4, 1) := by decide +kernel
theorem dP_releaseId_4 : decode prog_5_method_9_code 4 = .ok (.if_icmp .ge 26, 3) := by decide +kernel
theorem dP_releaseId_7 : decode prog_5_method_9_code 7 = .ok (.aload_n 0, 1) := by decide +kernel
theorem dP_releaseId_8 : decode prog_5_method_9_code 8 = .ok (.getfield 23, 3) := by decide +kernel
theorem dP_releaseId_11 : decode prog_5_method_9_code 11 = .ok (.iload_n 2, 1) := by decide +kernel
theorem dP_releaseId_12 : decode prog_5_method_9_code 12 = .ok (.iaload, 1) := by decide +kernel
theorem dP_releaseId_13 : decode prog_5_method_9_code 13 = .ok (.iload_n 1, 1) := by decide +kernel
theorem dP_releaseId_14 : decode prog_5_method_9_code 14 = .ok (.if_icmp .ne 10, 3) := by decide +kernel
theorem dP_releaseId_17 : decode prog_5_method_9_code 17 = .ok (.aload_n 0, 1) := by decide +kernel
theorem dP_releaseId_18 : decode prog_5_method_9_code 18 = .ok (.getfield 23, 3) := by decide +kernel
theorem dP_releaseId_21 : decode prog_5_method_9_code 21 = .ok (.iload_n 2, 1) := by decide +kernel
theorem dP_releaseId_22 : decode prog_5_method_9_code 22 = .ok (.iconst (-1), 1) := by decide +kernel
theorem dP_releaseId_23 : decode prog_5_method_9_code 23 = .ok (.iastore, 1) := by decide +kernel
theorem dP_releaseId_24 : decode prog_5_method_9_code 24 = .ok (.iinc 2 1, 3) := by decide +kernel
theorem dP_releaseId_27 : decode prog_5_method_9_code 27 = .ok (.goto (-25), 3) := by decide +kernel
theorem dP_releaseId_30 : decode prog_5_method_9_code 30 = .ok (.return_, 1) := by decide +kernel
end
section
/-! answers that are truths -/
theorem gx_ite0 {q : Prop} [Decidable q] : ((if q then nI 1 else nI 0) = (0 : Int32)) ↔ ¬ q := by
  by_cases h : q
  · rw [if_pos h]
    exact ⟨fun z => absurd z (by decide), fun z => absurd h z⟩
  · rw [if_neg h]
    exact ⟨fun _ => h, fun _ => rfl⟩
section GXI
variable {p : Program} {l : Launch} {e : Env} {R : Room} {s : State} {m : MethodId} {args : Array Value} {below : List Frame} {meth : Method} {c : Code} {H : Heap} {locs : List Loc} {cells slots : Nat} {Q : State → Prop}
variable {cc : ByteArray} {pc : Nat} {ls : Array Slot} {rest : List Value}
theorem gx_ifb_eq (hexec : p.tables.exec = Jvm.exec) (hb : c.code = cc) {q : Prop} [Decidable q] {off : Int} {tgt : Nat} (hdg : decode cc pc = .ok (.ifCond .eq off, 3)) (ht : (pc : Int) + off = (tgt : Int)) (kt : ¬ q → W p l e R s m args below meth c H locs cells slots Q (F0 m tgt ls rest)) (kf : q → W p l e R s m args below meth c H locs cells slots Q (F0 m (pc + 3) ls rest)) : W p l e R s m args below meth c H locs cells slots Q (F0 m pc ls (.int (if q then nI 1 else nI 0) :: rest)) :=
  lv_if_eq hexec hb hdg ht (fun h => kt (gx_ite0.mp h)) (fun h => kf (Classical.byContradiction fun z => h (gx_ite0.mpr z)))
theorem gx_ifb_ne (hexec : p.tables.exec = Jvm.exec) (hb : c.code = cc) {q : Prop} [Decidable q] {off : Int} {tgt : Nat} (hdg : decode cc pc = .ok (.ifCond .ne off, 3)) (ht : (pc : Int) + off = (tgt : Int)) (kt : q → W p l e R s m args below meth c H locs cells slots Q (F0 m tgt ls rest)) (kf : ¬ q → W p l e R s m args below meth c H locs cells slots Q (F0 m (pc + 3) ls rest)) : W p l e R s m args below meth c H locs cells slots Q (F0 m pc ls (.int (if q then nI 1 else nI 0) :: rest)) :=
  lv_if_ne hexec hb hdg ht (fun h => kt (Classical.byContradiction fun z => h (gx_ite0.mpr z))) (fun h => kf (gx_ite0.mp h))
end GXI
theorem gx_nb {q : Prop} [Decidable q] : narrow .boolean (.int (if q then nI 1 else nI 0)) = .int (if q then nI 1 else nI 0) := by
  by_cases h : q
  · rw [if_pos h]; rfl
  · rw [if_neg h]; rfl
end
section
theorem dX_init_0 : decode prog_1_method_1_code 0 = .ok (.aload_n 0, 1) := by decide +kernel
theorem dX_init_1 : decode prog_1_method_1_code 1 = .ok (.invokespecial 1, 3) := by decide +kernel
theorem dX_init_4 : decode prog_1_method_1_code 4 = .ok (.aload_n 0, 1) := by decide +kernel
theorem dX_init_5 : decode prog_1_method_1_code 5 = .ok (.iconst 3, 1) := by decide +kernel
theorem dX_init_6 : decode prog_1_method_1_code 6 = .ok (.anewarray 9, 3) := by decide +kernel
theorem dX_init_9 : decode prog_1_method_1_code 9 = .ok (.putfield 11, 3) := by decide +kernel
theorem dX_init_12 : decode prog_1_method_1_code 12 = .ok (.iconst 0, 1) := by decide +kernel
theorem dX_init_13 : decode prog_1_method_1_code 13 = .ok (.istore_n 1, 1) := by decide +kernel
theorem dX_init_14 : decode prog_1_method_1_code 14 = .ok (.iload_n 1, 1) := by decide +kernel
theorem dX_init_15 : decode prog_1_method_1_code 15 = .ok (.iconst 3, 1) := by decide +kernel
theorem dX_init_16 : decode prog_1_method_1_code 16 = .ok (.if_icmp .ge 22, 3) := by decide +kernel
theorem dX_init_19 : decode prog_1_method_1_code 19 = .ok (.aload_n 0, 1) := by decide +kernel
theorem dX_init_20 : decode prog_1_method_1_code 20 = .ok (.getfield 11, 3) := by decide +kernel
theorem dX_init_23 : decode prog_1_method_1_code 23 = .ok (.iload_n 1, 1) := by decide +kernel
theorem dX_init_24 : decode prog_1_method_1_code 24 = .ok (.new 9, 3) := by decide +kernel
theorem dX_init_27 : decode prog_1_method_1_code 27 = .ok (.dup, 1) := by decide +kernel
theorem dX_init_28 : decode prog_1_method_1_code 28 = .ok (.invokespecial 15, 3) := by decide +kernel
theorem dX_init_31 : decode prog_1_method_1_code 31 = .ok (.aastore, 1) := by decide +kernel
theorem dX_init_32 : decode prog_1_method_1_code 32 = .ok (.iinc 1 1, 3) := by decide +kernel
theorem dX_init_35 : decode prog_1_method_1_code 35 = .ok (.goto (-21), 3) := by decide +kernel
theorem dX_init_38 : decode prog_1_method_1_code 38 = .ok (.aload_n 0, 1) := by decide +kernel
theorem dX_init_39 : decode prog_1_method_1_code 39 = .ok (.iconst 4, 1) := by decide +kernel
theorem dX_init_40 : decode prog_1_method_1_code 40 = .ok (.anewarray 16, 3) := by decide +kernel
theorem dX_init_43 : decode prog_1_method_1_code 43 = .ok (.putfield 18, 3) := by decide +kernel
theorem dX_init_46 : decode prog_1_method_1_code 46 = .ok (.iconst 0, 1) := by decide +kernel
theorem dX_init_47 : decode prog_1_method_1_code 47 = .ok (.istore_n 1, 1) := by decide +kernel
theorem dX_init_48 : decode prog_1_method_1_code 48 = .ok (.iload_n 1, 1) := by decide +kernel
theorem dX_init_49 : decode prog_1_method_1_code 49 = .ok (.iconst 4, 1) := by decide +kernel
theorem dX_init_50 : decode prog_1_method_1_code 50 = .ok (.if_icmp .ge 22, 3) := by decide +kernel
theorem dX_init_53 : decode prog_1_method_1_code 53 = .ok (.aload_n 0, 1) := by decide +kernel
theorem dX_init_54 : decode prog_1_method_1_code 54 = .ok (.getfield 18, 3) := by decide +kernel
theorem dX_init_57 : decode prog_1_method_1_code 57 = .ok (.iload_n 1, 1) := by decide +kernel
theorem dX_init_58 : decode prog_1_method_1_code 58 = .ok (.new 16, 3) := by decide +kernel
theorem dX_init_61 : decode prog_1_method_1_code 61 = .ok (.dup, 1) := by decide +kernel
theorem dX_init_62 : decode prog_1_method_1_code 62 = .ok (.invokespecial 22, 3) := by decide +kernel
theorem dX_init_65 : decode prog_1_method_1_code 65 = .ok (.aastore, 1) := by decide +kernel
theorem dX_init_66 : decode prog_1_method_1_code 66 = .ok (.iinc 1 1, 3) := by decide +kernel
theorem dX_init_69 : decode prog_1_method_1_code 69 = .ok (.goto (-21), 3) := by decide +kernel
theorem dX_init_72 : decode prog_1_method_1_code 72 = .ok (.aload_n 0, 1) := by decide +kernel
theorem dX_init_73 : decode prog_1_method_1_code 73 = .ok (.bipush 24, 2) := by decide +kernel
theorem dX_init_75 : decode prog_1_method_1_code 75 = .ok (.anewarray 23, 3) := by decide +kernel
theorem dX_init_78 : decode prog_1_method_1_code 78 = .ok (.putfield 25, 3) := by decide +kernel
theorem dX_init_81 : decode prog_1_method_1_code 81 = .ok (.iconst 0, 1) := by decide +kernel
theorem dX_init_82 : decode prog_1_method_1_code 82 = .ok (.istore_n 1, 1) := by decide +kernel
theorem dX_init_83 : decode prog_1_method_1_code 83 = .ok (.iload_n 1, 1) := by decide +kernel
theorem dX_init_84 : decode prog_1_method_1_code 84 = .ok (.bipush 24, 2) := by decide +kernel
theorem dX_init_86 : decode prog_1_method_1_code 86 = .ok (.if_icmp .ge 22, 3) := by decide +kernel
theorem dX_init_89 : decode prog_1_method_1_code 89 = .ok (.aload_n 0, 1) := by decide +kernel
theorem dX_init_90 : decode prog_1_method_1_code 90 = .ok (.getfield 25, 3) := by decide +kernel
theorem dX_init_93 : decode prog_1_method_1_code 93 = .ok (.iload_n 1, 1) := by decide +kernel
theorem dX_init_94 : decode prog_1_method_1_code 94 = .ok (.new 23, 3) := by decide +kernel
theorem dX_init_97 : decode prog_1_method_1_code 97 = .ok (.dup, 1) := by decide +kernel
theorem dX_init_98 : decode prog_1_method_1_code 98 = .ok (.invokespecial 29, 3) := by decide +kernel
theorem dX_init_101 : decode prog_1_method_1_code 101 = .ok (.aastore, 1) := by decide +kernel
theorem dX_init_102 : decode prog_1_method_1_code 102 = .ok (.iinc 1 1, 3) := by decide +kernel
theorem dX_init_105 : decode prog_1_method_1_code 105 = .ok (.goto (-22), 3) := by decide +kernel
theorem dX_init_108 : decode prog_1_method_1_code 108 = .ok (.aload_n 0, 1) := by decide +kernel
theorem dX_init_109 : decode prog_1_method_1_code 109 = .ok (.sipush 640, 3) := by decide +kernel
theorem dX_init_112 : decode prog_1_method_1_code 112 = .ok (.newarray .byte, 2) := by decide +kernel
theorem dX_init_114 : decode prog_1_method_1_code 114 = .ok (.putfield 30, 3) := by decide +kernel
theorem dX_init_117 : decode prog_1_method_1_code 117 = .ok (.aload_n 0, 1) := by decide +kernel
theorem dX_init_118 : decode prog_1_method_1_code 118 = .ok (.bipush 32, 2) := by decide +kernel
theorem dX_init_120 : decode prog_1_method_1_code 120 = .ok (.newarray .int, 2) := by decide +kernel
theorem dX_init_122 : decode prog_1_method_1_code 122 = .ok (.putfield 34, 3) := by decide +kernel
theorem dX_init_125 : decode prog_1_method_1_code 125 = .ok (.aload_n 0, 1) := by decide +kernel
theorem dX_init_126 : decode prog_1_method_1_code 126 = .ok (.bipush 8, 2) := by decide +kernel
theorem dX_init_128 : decode prog_1_method_1_code 128 = .ok (.newarray .int, 2) := by decide +kernel
theorem dX_init_130 : decode prog_1_method_1_code 130 = .ok (.putfield 38, 3) := by decide +kernel
theorem dX_init_133 : decode prog_1_method_1_code 133 = .ok (.aload_n 0, 1) := by decide +kernel
theorem dX_init_134 : decode prog_1_method_1_code 134 = .ok (.lconst 0, 1) := by decide +kernel
theorem dX_init_135 : decode prog_1_method_1_code 135 = .ok (.putfield 41, 3) := by decide +kernel
theorem dX_init_138 : decode prog_1_method_1_code 138 = .ok (.return_, 1) := by decide +kernel
theorem dX_request_0 : decode prog_1_method_2_code 0 = .ok (.iload_n 1, 1) := by decide +kernel
theorem dX_request_1 : decode prog_1_method_2_code 1 = .ok (.iconst 3, 1) := by decide +kernel
theorem dX_request_2 : decode prog_1_method_2_code 2 = .ok (.invokestatic 45, 3) := by decide +kernel
theorem dX_request_5 : decode prog_1_method_2_code 5 = .ok (.ifCond .eq 41, 3) := by decide +kernel
theorem dX_request_8 : decode prog_1_method_2_code 8 = .ok (.iload_n 2, 1) := by decide +kernel
theorem dX_request_9 : decode prog_1_method_2_code 9 = .ok (.bipush 8, 2) := by decide +kernel
theorem dX_request_11 : decode prog_1_method_2_code 11 = .ok (.invokestatic 45, 3) := by decide +kernel
theorem dX_request_14 : decode prog_1_method_2_code 14 = .ok (.ifCond .eq 32, 3) := by decide +kernel
theorem dX_request_17 : decode prog_1_method_2_code 17 = .ok (.iload_n 3, 1) := by decide +kernel
theorem dX_request_18 : decode prog_1_method_2_code 18 = .ok (.iconst 3, 1) := by decide +kernel
theorem dX_request_19 : decode prog_1_method_2_code 19 = .ok (.invokestatic 45, 3) := by decide +kernel
theorem dX_request_22 : decode prog_1_method_2_code 22 = .ok (.ifCond .eq 24, 3) := by decide +kernel
theorem dX_request_25 : decode prog_1_method_2_code 25 = .ok (.iload 5, 2) := by decide +kernel
theorem dX_request_27 : decode prog_1_method_2_code 27 = .ok (.iload 4, 2) := by decide +kernel
theorem dX_request_29 : decode prog_1_method_2_code 29 = .ok (.invokestatic 49, 3) := by decide +kernel
theorem dX_request_32 : decode prog_1_method_2_code 32 = .ok (.ifCond .eq 14, 3) := by decide +kernel
theorem dX_request_35 : decode prog_1_method_2_code 35 = .ok (.iload 8, 2) := by decide +kernel
theorem dX_request_37 : decode prog_1_method_2_code 37 = .ok (.sipush 256, 3) := by decide +kernel
theorem dX_request_40 : decode prog_1_method_2_code 40 = .ok (.invokestatic 45, 3) := by decide +kernel
theorem dX_request_43 : decode prog_1_method_2_code 43 = .ok (.ifCond .ne 11, 3) := by decide +kernel
theorem dX_request_46 : decode prog_1_method_2_code 46 = .ok (.new 52, 3) := by decide +kernel
theorem dX_request_49 : decode prog_1_method_2_code 49 = .ok (.dup, 1) := by decide +kernel
theorem dX_request_50 : decode prog_1_method_2_code 50 = .ok (.invokespecial 54, 3) := by decide +kernel
theorem dX_request_53 : decode prog_1_method_2_code 53 = .ok (.athrow, 1) := by decide +kernel
theorem dX_request_54 : decode prog_1_method_2_code 54 = .ok (.aload_n 0, 1) := by decide +kernel
theorem dX_request_55 : decode prog_1_method_2_code 55 = .ok (.getfield 11, 3) := by decide +kernel
theorem dX_request_58 : decode prog_1_method_2_code 58 = .ok (.iload_n 1, 1) := by decide +kernel
theorem dX_request_59 : decode prog_1_method_2_code 59 = .ok (.aaload, 1) := by decide +kernel
theorem dX_request_60 : decode prog_1_method_2_code 60 = .ok (.astore 9, 2) := by decide +kernel
theorem dX_request_62 : decode prog_1_method_2_code 62 = .ok (.aload 9, 2) := by decide +kernel
theorem dX_request_64 : decode prog_1_method_2_code 64 = .ok (.iload_n 2, 1) := by decide +kernel
theorem dX_request_65 : decode prog_1_method_2_code 65 = .ok (.invokevirtual 55, 3) := by decide +kernel
theorem dX_request_68 : decode prog_1_method_2_code 68 = .ok (.ifCond .ne 14, 3) := by decide +kernel
theorem dX_request_71 : decode prog_1_method_2_code 71 = .ok (.aload 9, 2) := by decide +kernel
theorem dX_request_73 : decode prog_1_method_2_code 73 = .ok (.getfield 59, 3) := by decide +kernel
theorem dX_request_76 : decode prog_1_method_2_code 76 = .ok (.invokevirtual 63, 3) := by decide +kernel
theorem dX_request_79 : decode prog_1_method_2_code 79 = .ok (.ifCond .eq 5, 3) := by decide +kernel
theorem dX_request_82 : decode prog_1_method_2_code 82 = .ok (.iconst (-1), 1) := by decide +kernel
theorem dX_request_83 : decode prog_1_method_2_code 83 = .ok (.ireturn, 1) := by decide +kernel
theorem dX_request_84 : decode prog_1_method_2_code 84 = .ok (.iload_n 1, 1) := by decide +kernel
theorem dX_request_85 : decode prog_1_method_2_code 85 = .ok (.iconst 3, 1) := by decide +kernel
theorem dX_request_86 : decode prog_1_method_2_code 86 = .ok (.ishl, 1) := by decide +kernel
theorem dX_request_87 : decode prog_1_method_2_code 87 = .ok (.iload_n 2, 1) := by decide +kernel
theorem dX_request_88 : decode prog_1_method_2_code 88 = .ok (.iadd, 1) := by decide +kernel
theorem dX_request_89 : decode prog_1_method_2_code 89 = .ok (.istore 10, 2) := by decide +kernel
theorem dX_request_91 : decode prog_1_method_2_code 91 = .ok (.aload_n 0, 1) := by decide +kernel
theorem dX_request_92 : decode prog_1_method_2_code 92 = .ok (.getfield 25, 3) := by decide +kernel
theorem dX_request_95 : decode prog_1_method_2_code 95 = .ok (.iload 10, 2) := by decide +kernel
theorem dX_request_97 : decode prog_1_method_2_code 97 = .ok (.aaload, 1) := by decide +kernel
theorem dX_request_98 : decode prog_1_method_2_code 98 = .ok (.iload_n 3, 1) := by decide +kernel
theorem dX_request_99 : decode prog_1_method_2_code 99 = .ok (.iload 4, 2) := by decide +kernel
theorem dX_request_101 : decode prog_1_method_2_code 101 = .ok (.iload 5, 2) := by decide +kernel
theorem dX_request_103 : decode prog_1_method_2_code 103 = .ok (.lload 6, 2) := by decide +kernel
theorem dX_request_105 : decode prog_1_method_2_code 105 = .ok (.iload 8, 2) := by decide +kernel
theorem dX_request_107 : decode prog_1_method_2_code 107 = .ok (.invokevirtual 69, 3) := by decide +kernel
theorem dX_request_110 : decode prog_1_method_2_code 110 = .ok (.aload 9, 2) := by decide +kernel
theorem dX_request_112 : decode prog_1_method_2_code 112 = .ok (.getfield 59, 3) := by decide +kernel
theorem dX_request_115 : decode prog_1_method_2_code 115 = .ok (.iload 10, 2) := by decide +kernel
theorem dX_request_117 : decode prog_1_method_2_code 117 = .ok (.invokevirtual 73, 3) := by decide +kernel
theorem dX_request_120 : decode prog_1_method_2_code 120 = .ok (.aload 9, 2) := by decide +kernel
theorem dX_request_122 : decode prog_1_method_2_code 122 = .ok (.dup, 1) := by decide +kernel
theorem dX_request_123 : decode prog_1_method_2_code 123 = .ok (.getfield 77, 3) := by decide +kernel
theorem dX_request_126 : decode prog_1_method_2_code 126 = .ok (.iconst 1, 1) := by decide +kernel
theorem dX_request_127 : decode prog_1_method_2_code 127 = .ok (.iload_n 2, 1) := by decide +kernel
theorem dX_request_128 : decode prog_1_method_2_code 128 = .ok (.ishl, 1) := by decide +kernel
theorem dX_request_129 : decode prog_1_method_2_code 129 = .ok (.ior, 1) := by decide +kernel
theorem dX_request_130 : decode prog_1_method_2_code 130 = .ok (.putfield 77, 3) := by decide +kernel
theorem dX_request_133 : decode prog_1_method_2_code 133 = .ok (.aload_n 0, 1) := by decide +kernel
theorem dX_request_134 : decode prog_1_method_2_code 134 = .ok (.getfield 38, 3) := by decide +kernel
theorem dX_request_137 : decode prog_1_method_2_code 137 = .ok (.iconst 1, 1) := by decide +kernel
theorem dX_request_138 : decode prog_1_method_2_code 138 = .ok (.dup2, 1) := by decide +kernel
theorem dX_request_139 : decode prog_1_method_2_code 139 = .ok (.iaload, 1) := by decide +kernel
theorem dX_request_140 : decode prog_1_method_2_code 140 = .ok (.iconst 1, 1) := by decide +kernel
theorem dX_request_141 : decode prog_1_method_2_code 141 = .ok (.iadd, 1) := by decide +kernel
theorem dX_request_142 : decode prog_1_method_2_code 142 = .ok (.iastore, 1) := by decide +kernel
theorem dX_request_143 : decode prog_1_method_2_code 143 = .ok (.aload 9, 2) := by decide +kernel
theorem dX_request_145 : decode prog_1_method_2_code 145 = .ok (.getfield 59, 3) := by decide +kernel
theorem dX_request_148 : decode prog_1_method_2_code 148 = .ok (.getfield 81, 3) := by decide +kernel
theorem dX_request_151 : decode prog_1_method_2_code 151 = .ok (.ireturn, 1) := by decide +kernel
theorem dX_accept_0 : decode prog_1_method_3_code 0 = .ok (.iload_n 1, 1) := by decide +kernel
theorem dX_accept_1 : decode prog_1_method_3_code 1 = .ok (.iconst 3, 1) := by decide +kernel
theorem dX_accept_2 : decode prog_1_method_3_code 2 = .ok (.invokestatic 45, 3) := by decide +kernel
theorem dX_accept_5 : decode prog_1_method_3_code 5 = .ok (.ifCond .ne 11, 3) := by decide +kernel
theorem dX_accept_8 : decode prog_1_method_3_code 8 = .ok (.new 52, 3) := by decide +kernel
theorem dX_accept_11 : decode prog_1_method_3_code 11 = .ok (.dup, 1) := by decide +kernel
theorem dX_accept_12 : decode prog_1_method_3_code 12 = .ok (.invokespecial 54, 3) := by decide +kernel
theorem dX_accept_15 : decode prog_1_method_3_code 15 = .ok (.athrow, 1) := by decide +kernel
theorem dX_accept_16 : decode prog_1_method_3_code 16 = .ok (.aload_n 0, 1) := by decide +kernel
theorem dX_accept_17 : decode prog_1_method_3_code 17 = .ok (.getfield 11, 3) := by decide +kernel
theorem dX_accept_20 : decode prog_1_method_3_code 20 = .ok (.iload_n 1, 1) := by decide +kernel
theorem dX_accept_21 : decode prog_1_method_3_code 21 = .ok (.aaload, 1) := by decide +kernel
theorem dX_accept_22 : decode prog_1_method_3_code 22 = .ok (.getfield 84, 3) := by decide +kernel
theorem dX_accept_25 : decode prog_1_method_3_code 25 = .ok (.istore_n 3, 1) := by decide +kernel
theorem dX_accept_26 : decode prog_1_method_3_code 26 = .ok (.aload_n 0, 1) := by decide +kernel
theorem dX_accept_27 : decode prog_1_method_3_code 27 = .ok (.getfield 11, 3) := by decide +kernel
theorem dX_accept_30 : decode prog_1_method_3_code 30 = .ok (.iload_n 1, 1) := by decide +kernel
theorem dX_accept_31 : decode prog_1_method_3_code 31 = .ok (.aaload, 1) := by decide +kernel
theorem dX_accept_32 : decode prog_1_method_3_code 32 = .ok (.iload_n 2, 1) := by decide +kernel
theorem dX_accept_33 : decode prog_1_method_3_code 33 = .ok (.putfield 84, 3) := by decide +kernel
theorem dX_accept_36 : decode prog_1_method_3_code 36 = .ok (.iload_n 3, 1) := by decide +kernel
theorem dX_accept_37 : decode prog_1_method_3_code 37 = .ok (.ireturn, 1) := by decide +kernel
theorem dX_tick_0 : decode prog_1_method_4_code 0 = .ok (.iload_n 1, 1) := by decide +kernel
theorem dX_tick_1 : decode prog_1_method_4_code 1 = .ok (.ifCond .lt 10, 3) := by decide +kernel
theorem dX_tick_4 : decode prog_1_method_4_code 4 = .ok (.iload_n 1, 1) := by decide +kernel
theorem dX_tick_5 : decode prog_1_method_4_code 5 = .ok (.sipush 10000, 3) := by decide +kernel
theorem dX_tick_8 : decode prog_1_method_4_code 8 = .ok (.if_icmp .le 11, 3) := by decide +kernel
theorem dX_tick_11 : decode prog_1_method_4_code 11 = .ok (.new 52, 3) := by decide +kernel
theorem dX_tick_14 : decode prog_1_method_4_code 14 = .ok (.dup, 1) := by decide +kernel
theorem dX_tick_15 : decode prog_1_method_4_code 15 = .ok (.invokespecial 54, 3) := by decide +kernel
theorem dX_tick_18 : decode prog_1_method_4_code 18 = .ok (.athrow, 1) := by decide +kernel
theorem dX_tick_19 : decode prog_1_method_4_code 19 = .ok (.iconst 0, 1) := by decide +kernel
theorem dX_tick_20 : decode prog_1_method_4_code 20 = .ok (.istore_n 2, 1) := by decide +kernel
theorem dX_tick_21 : decode prog_1_method_4_code 21 = .ok (.iload_n 2, 1) := by decide +kernel
theorem dX_tick_22 : decode prog_1_method_4_code 22 = .ok (.iload_n 1, 1) := by decide +kernel
theorem dX_tick_23 : decode prog_1_method_4_code 23 = .ok (.if_icmp .ge 37, 3) := by decide +kernel
theorem dX_tick_26 : decode prog_1_method_4_code 26 = .ok (.aload_n 0, 1) := by decide +kernel
theorem dX_tick_27 : decode prog_1_method_4_code 27 = .ok (.invokevirtual 88, 3) := by decide +kernel
theorem dX_tick_30 : decode prog_1_method_4_code 30 = .ok (.istore_n 3, 1) := by decide +kernel
theorem dX_tick_31 : decode prog_1_method_4_code 31 = .ok (.iload_n 3, 1) := by decide +kernel
theorem dX_tick_32 : decode prog_1_method_4_code 32 = .ok (.ifCond .ne 22, 3) := by decide +kernel
theorem dX_tick_35 : decode prog_1_method_4_code 35 = .ok (.aload_n 0, 1) := by decide +kernel
theorem dX_tick_36 : decode prog_1_method_4_code 36 = .ok (.invokevirtual 91, 3) := by decide +kernel
theorem dX_tick_39 : decode prog_1_method_4_code 39 = .ok (.ifCond .ne 15, 3) := by decide +kernel
theorem dX_tick_42 : decode prog_1_method_4_code 42 = .ok (.aload_n 0, 1) := by decide +kernel
theorem dX_tick_43 : decode prog_1_method_4_code 43 = .ok (.iload_n 1, 1) := by decide +kernel
theorem dX_tick_44 : decode prog_1_method_4_code 44 = .ok (.iconst 1, 1) := by decide +kernel
theorem dX_tick_45 : decode prog_1_method_4_code 45 = .ok (.isub, 1) := by decide +kernel
theorem dX_tick_46 : decode prog_1_method_4_code 46 = .ok (.iload_n 2, 1) := by decide +kernel
theorem dX_tick_47 : decode prog_1_method_4_code 47 = .ok (.isub, 1) := by decide +kernel
theorem dX_tick_48 : decode prog_1_method_4_code 48 = .ok (.invokevirtual 94, 3) := by decide +kernel
theorem dX_tick_51 : decode prog_1_method_4_code 51 = .ok (.goto 9, 3) := by decide +kernel
theorem dX_tick_54 : decode prog_1_method_4_code 54 = .ok (.iinc 2 1, 3) := by decide +kernel
theorem dX_tick_57 : decode prog_1_method_4_code 57 = .ok (.goto (-36), 3) := by decide +kernel
theorem dX_tick_60 : decode prog_1_method_4_code 60 = .ok (.aload_n 0, 1) := by decide +kernel
theorem dX_tick_61 : decode prog_1_method_4_code 61 = .ok (.getfield 38, 3) := by decide +kernel
theorem dX_tick_64 : decode prog_1_method_4_code 64 = .ok (.iconst 0, 1) := by decide +kernel
theorem dX_tick_65 : decode prog_1_method_4_code 65 = .ok (.iaload, 1) := by decide +kernel
theorem dX_tick_66 : decode prog_1_method_4_code 66 = .ok (.ireturn, 1) := by decide +kernel
theorem dX_take_0 : decode prog_1_method_5_code 0 = .ok (.iload_n 1, 1) := by decide +kernel
theorem dX_take_1 : decode prog_1_method_5_code 1 = .ok (.iconst 3, 1) := by decide +kernel
theorem dX_take_2 : decode prog_1_method_5_code 2 = .ok (.invokestatic 45, 3) := by decide +kernel
theorem dX_take_5 : decode prog_1_method_5_code 5 = .ok (.ifCond .ne 11, 3) := by decide +kernel
theorem dX_take_8 : decode prog_1_method_5_code 8 = .ok (.new 52, 3) := by decide +kernel
theorem dX_take_11 : decode prog_1_method_5_code 11 = .ok (.dup, 1) := by decide +kernel
theorem dX_take_12 : decode prog_1_method_5_code 12 = .ok (.invokespecial 54, 3) := by decide +kernel
theorem dX_take_15 : decode prog_1_method_5_code 15 = .ok (.athrow, 1) := by decide +kernel
theorem dX_take_16 : decode prog_1_method_5_code 16 = .ok (.aload_n 0, 1) := by decide +kernel
theorem dX_take_17 : decode prog_1_method_5_code 17 = .ok (.getfield 11, 3) := by decide +kernel
theorem dX_take_20 : decode prog_1_method_5_code 20 = .ok (.iload_n 1, 1) := by decide +kernel
theorem dX_take_21 : decode prog_1_method_5_code 21 = .ok (.aaload, 1) := by decide +kernel
theorem dX_take_22 : decode prog_1_method_5_code 22 = .ok (.astore_n 2, 1) := by decide +kernel
theorem dX_take_23 : decode prog_1_method_5_code 23 = .ok (.aload_n 2, 1) := by decide +kernel
theorem dX_take_24 : decode prog_1_method_5_code 24 = .ok (.getfield 97, 3) := by decide +kernel
theorem dX_take_27 : decode prog_1_method_5_code 27 = .ok (.invokevirtual 100, 3) := by decide +kernel
theorem dX_take_30 : decode prog_1_method_5_code 30 = .ok (.istore_n 3, 1) := by decide +kernel
theorem dX_take_31 : decode prog_1_method_5_code 31 = .ok (.iload_n 3, 1) := by decide +kernel
theorem dX_take_32 : decode prog_1_method_5_code 32 = .ok (.iconst (-1), 1) := by decide +kernel
theorem dX_take_33 : decode prog_1_method_5_code 33 = .ok (.if_icmp .ne 5, 3) := by decide +kernel
theorem dX_take_36 : decode prog_1_method_5_code 36 = .ok (.iconst (-1), 1) := by decide +kernel
theorem dX_take_37 : decode prog_1_method_5_code 37 = .ok (.ireturn, 1) := by decide +kernel
theorem dX_take_38 : decode prog_1_method_5_code 38 = .ok (.iload_n 3, 1) := by decide +kernel
theorem dX_take_39 : decode prog_1_method_5_code 39 = .ok (.invokestatic 104, 3) := by decide +kernel
theorem dX_take_42 : decode prog_1_method_5_code 42 = .ok (.istore 4, 2) := by decide +kernel
theorem dX_take_44 : decode prog_1_method_5_code 44 = .ok (.aload_n 0, 1) := by decide +kernel
theorem dX_take_45 : decode prog_1_method_5_code 45 = .ok (.getfield 25, 3) := by decide +kernel
theorem dX_take_48 : decode prog_1_method_5_code 48 = .ok (.iload_n 3, 1) := by decide +kernel
theorem dX_take_49 : decode prog_1_method_5_code 49 = .ok (.aaload, 1) := by decide +kernel
theorem dX_take_50 : decode prog_1_method_5_code 50 = .ok (.astore 5, 2) := by decide +kernel
theorem dX_take_52 : decode prog_1_method_5_code 52 = .ok (.aload_n 2, 1) := by decide +kernel
theorem dX_take_53 : decode prog_1_method_5_code 53 = .ok (.dup, 1) := by decide +kernel
theorem dX_take_54 : decode prog_1_method_5_code 54 = .ok (.getfield 77, 3) := by decide +kernel
theorem dX_take_57 : decode prog_1_method_5_code 57 = .ok (.iconst 1, 1) := by decide +kernel
theorem dX_take_58 : decode prog_1_method_5_code 58 = .ok (.iload 4, 2) := by decide +kernel
theorem dX_take_60 : decode prog_1_method_5_code 60 = .ok (.ishl, 1) := by decide +kernel
theorem dX_take_61 : decode prog_1_method_5_code 61 = .ok (.iconst (-1), 1) := by decide +kernel
theorem dX_take_62 : decode prog_1_method_5_code 62 = .ok (.ixor, 1) := by decide +kernel
theorem dX_take_63 : decode prog_1_method_5_code 63 = .ok (.iand, 1) := by decide +kernel
theorem dX_take_64 : decode prog_1_method_5_code 64 = .ok (.putfield 77, 3) := by decide +kernel
theorem dX_take_67 : decode prog_1_method_5_code 67 = .ok (.aload_n 0, 1) := by decide +kernel
theorem dX_take_68 : decode prog_1_method_5_code 68 = .ok (.aload 5, 2) := by decide +kernel
theorem dX_take_70 : decode prog_1_method_5_code 70 = .ok (.getfield 108, 3) := by decide +kernel
theorem dX_take_73 : decode prog_1_method_5_code 73 = .ok (.putfield 41, 3) := by decide +kernel
theorem dX_take_76 : decode prog_1_method_5_code 76 = .ok (.aload_n 0, 1) := by decide +kernel
theorem dX_take_77 : decode prog_1_method_5_code 77 = .ok (.getfield 38, 3) := by decide +kernel
theorem dX_take_80 : decode prog_1_method_5_code 80 = .ok (.iconst 5, 1) := by decide +kernel
theorem dX_take_81 : decode prog_1_method_5_code 81 = .ok (.dup2, 1) := by decide +kernel
theorem dX_take_82 : decode prog_1_method_5_code 82 = .ok (.iaload, 1) := by decide +kernel
theorem dX_take_83 : decode prog_1_method_5_code 83 = .ok (.iconst 1, 1) := by decide +kernel
theorem dX_take_84 : decode prog_1_method_5_code 84 = .ok (.iadd, 1) := by decide +kernel
theorem dX_take_85 : decode prog_1_method_5_code 85 = .ok (.iastore, 1) := by decide +kernel
theorem dX_take_86 : decode prog_1_method_5_code 86 = .ok (.iload 4, 2) := by decide +kernel
theorem dX_take_88 : decode prog_1_method_5_code 88 = .ok (.bipush 8, 2) := by decide +kernel
theorem dX_take_90 : decode prog_1_method_5_code 90 = .ok (.aload 5, 2) := by decide +kernel
theorem dX_take_92 : decode prog_1_method_5_code 92 = .ok (.getfield 111, 3) := by decide +kernel
theorem dX_take_95 : decode prog_1_method_5_code 95 = .ok (.imul, 1) := by decide +kernel
theorem dX_take_96 : decode prog_1_method_5_code 96 = .ok (.iadd, 1) := by decide +kernel
theorem dX_take_97 : decode prog_1_method_5_code 97 = .ok (.istore 6, 2) := by decide +kernel
theorem dX_take_99 : decode prog_1_method_5_code 99 = .ok (.aload 5, 2) := by decide +kernel
theorem dX_take_101 : decode prog_1_method_5_code 101 = .ok (.invokevirtual 114, 3) := by decide +kernel
theorem dX_take_104 : decode prog_1_method_5_code 104 = .ok (.ifCond .ne 6, 3) := by decide +kernel
theorem dX_take_107 : decode prog_1_method_5_code 107 = .ok (.iload 6, 2) := by decide +kernel
theorem dX_take_109 : decode prog_1_method_5_code 109 = .ok (.ireturn, 1) := by decide +kernel
theorem dX_take_110 : decode prog_1_method_5_code 110 = .ok (.aload_n 0, 1) := by decide +kernel
theorem dX_take_111 : decode prog_1_method_5_code 111 = .ok (.getfield 38, 3) := by decide +kernel
theorem dX_take_114 : decode prog_1_method_5_code 114 = .ok (.bipush 6, 2) := by decide +kernel
theorem dX_take_116 : decode prog_1_method_5_code 116 = .ok (.dup2, 1) := by decide +kernel
theorem dX_take_117 : decode prog_1_method_5_code 117 = .ok (.iaload, 1) := by decide +kernel
theorem dX_take_118 : decode prog_1_method_5_code 118 = .ok (.iconst 1, 1) := by decide +kernel
theorem dX_take_119 : decode prog_1_method_5_code 119 = .ok (.iadd, 1) := by decide +kernel
theorem dX_take_120 : decode prog_1_method_5_code 120 = .ok (.iastore, 1) := by decide +kernel
theorem dX_take_121 : decode prog_1_method_5_code 121 = .ok (.iload 6, 2) := by decide +kernel
theorem dX_take_123 : decode prog_1_method_5_code 123 = .ok (.bipush 32, 2) := by decide +kernel
theorem dX_take_125 : decode prog_1_method_5_code 125 = .ok (.iadd, 1) := by decide +kernel
theorem dX_take_126 : decode prog_1_method_5_code 126 = .ok (.ireturn, 1) := by decide +kernel
theorem dX_data_0 : decode prog_1_method_6_code 0 = .ok (.aload_n 0, 1) := by decide +kernel
theorem dX_data_1 : decode prog_1_method_6_code 1 = .ok (.getfield 41, 3) := by decide +kernel
theorem dX_data_4 : decode prog_1_method_6_code 4 = .ok (.lreturn, 1) := by decide +kernel
theorem dX_port_0 : decode prog_1_method_7_code 0 = .ok (.iload_n 1, 1) := by decide +kernel
theorem dX_port_1 : decode prog_1_method_7_code 1 = .ok (.iconst 4, 1) := by decide +kernel
theorem dX_port_2 : decode prog_1_method_7_code 2 = .ok (.invokestatic 45, 3) := by decide +kernel
theorem dX_port_5 : decode prog_1_method_7_code 5 = .ok (.ifCond .ne 11, 3) := by decide +kernel
theorem dX_port_8 : decode prog_1_method_7_code 8 = .ok (.new 117, 3) := by decide +kernel
theorem dX_port_11 : decode prog_1_method_7_code 11 = .ok (.dup, 1) := by decide +kernel
theorem dX_port_12 : decode prog_1_method_7_code 12 = .ok (.invokespecial 119, 3) := by decide +kernel
theorem dX_port_15 : decode prog_1_method_7_code 15 = .ok (.athrow, 1) := by decide +kernel
theorem dX_port_16 : decode prog_1_method_7_code 16 = .ok (.aload_n 0, 1) := by decide +kernel
theorem dX_port_17 : decode prog_1_method_7_code 17 = .ok (.getfield 18, 3) := by decide +kernel
theorem dX_port_20 : decode prog_1_method_7_code 20 = .ok (.iload_n 1, 1) := by decide +kernel
theorem dX_port_21 : decode prog_1_method_7_code 21 = .ok (.aaload, 1) := by decide +kernel
theorem dX_port_22 : decode prog_1_method_7_code 22 = .ok (.astore_n 3, 1) := by decide +kernel
theorem dX_port_23 : decode prog_1_method_7_code 23 = .ok (.iload_n 2, 1) := by decide +kernel
theorem dX_port_24 : decode prog_1_method_7_code 24 = .ok (.tableswitch 79 0 4 #[36, 44, 61, 69, 74], 36) := by decide +kernel
theorem dX_port_60 : decode prog_1_method_7_code 60 = .ok (.aload_n 3, 1) := by decide +kernel
theorem dX_port_61 : decode prog_1_method_7_code 61 = .ok (.getfield 120, 3) := by decide +kernel
theorem dX_port_64 : decode prog_1_method_7_code 64 = .ok (.getfield 81, 3) := by decide +kernel
theorem dX_port_67 : decode prog_1_method_7_code 67 = .ok (.ireturn, 1) := by decide +kernel
theorem dX_port_68 : decode prog_1_method_7_code 68 = .ok (.aload_n 3, 1) := by decide +kernel
theorem dX_port_69 : decode prog_1_method_7_code 69 = .ok (.getfield 123, 3) := by decide +kernel
theorem dX_port_72 : decode prog_1_method_7_code 72 = .ok (.iconst (-1), 1) := by decide +kernel
theorem dX_port_73 : decode prog_1_method_7_code 73 = .ok (.if_icmp .ne 7, 3) := by decide +kernel
theorem dX_port_76 : decode prog_1_method_7_code 76 = .ok (.iconst (-1), 1) := by decide +kernel
theorem dX_port_77 : decode prog_1_method_7_code 77 = .ok (.goto 7, 3) := by decide +kernel
theorem dX_port_80 : decode prog_1_method_7_code 80 = .ok (.aload_n 3, 1) := by decide +kernel
theorem dX_port_81 : decode prog_1_method_7_code 81 = .ok (.getfield 126, 3) := by decide +kernel
theorem dX_port_84 : decode prog_1_method_7_code 84 = .ok (.ireturn, 1) := by decide +kernel
theorem dX_port_85 : decode prog_1_method_7_code 85 = .ok (.aload_n 3, 1) := by decide +kernel
theorem dX_port_86 : decode prog_1_method_7_code 86 = .ok (.getfield 129, 3) := by decide +kernel
theorem dX_port_89 : decode prog_1_method_7_code 89 = .ok (.getfield 81, 3) := by decide +kernel
theorem dX_port_92 : decode prog_1_method_7_code 92 = .ok (.ireturn, 1) := by decide +kernel
theorem dX_port_93 : decode prog_1_method_7_code 93 = .ok (.aload_n 3, 1) := by decide +kernel
theorem dX_port_94 : decode prog_1_method_7_code 94 = .ok (.invokevirtual 132, 3) := by decide +kernel
theorem dX_port_97 : decode prog_1_method_7_code 97 = .ok (.ireturn, 1) := by decide +kernel
theorem dX_port_98 : decode prog_1_method_7_code 98 = .ok (.aload_n 3, 1) := by decide +kernel
theorem dX_port_99 : decode prog_1_method_7_code 99 = .ok (.getfield 135, 3) := by decide +kernel
theorem dX_port_102 : decode prog_1_method_7_code 102 = .ok (.ireturn, 1) := by decide +kernel
theorem dX_port_103 : decode prog_1_method_7_code 103 = .ok (.new 52, 3) := by decide +kernel
theorem dX_port_106 : decode prog_1_method_7_code 106 = .ok (.dup, 1) := by decide +kernel
theorem dX_port_107 : decode prog_1_method_7_code 107 = .ok (.invokespecial 54, 3) := by decide +kernel
theorem dX_port_110 : decode prog_1_method_7_code 110 = .ok (.athrow, 1) := by decide +kernel
theorem dX_owner_0 : decode prog_1_method_8_code 0 = .ok (.iload_n 1, 1) := by decide +kernel
theorem dX_owner_1 : decode prog_1_method_8_code 1 = .ok (.iconst 4, 1) := by decide +kernel
theorem dX_owner_2 : decode prog_1_method_8_code 2 = .ok (.invokestatic 45, 3) := by decide +kernel
theorem dX_owner_5 : decode prog_1_method_8_code 5 = .ok (.ifCond .eq 11, 3) := by decide +kernel
theorem dX_owner_8 : decode prog_1_method_8_code 8 = .ok (.iload_n 2, 1) := by decide +kernel
theorem dX_owner_9 : decode prog_1_method_8_code 9 = .ok (.iconst 4, 1) := by decide +kernel
theorem dX_owner_10 : decode prog_1_method_8_code 10 = .ok (.invokestatic 45, 3) := by decide +kernel
theorem dX_owner_13 : decode prog_1_method_8_code 13 = .ok (.ifCond .ne 11, 3) := by decide +kernel
theorem dX_owner_16 : decode prog_1_method_8_code 16 = .ok (.new 117, 3) := by decide +kernel
theorem dX_owner_19 : decode prog_1_method_8_code 19 = .ok (.dup, 1) := by decide +kernel
theorem dX_owner_20 : decode prog_1_method_8_code 20 = .ok (.invokespecial 119, 3) := by decide +kernel
theorem dX_owner_23 : decode prog_1_method_8_code 23 = .ok (.athrow, 1) := by decide +kernel
theorem dX_owner_24 : decode prog_1_method_8_code 24 = .ok (.aload_n 0, 1) := by decide +kernel
theorem dX_owner_25 : decode prog_1_method_8_code 25 = .ok (.getfield 18, 3) := by decide +kernel
theorem dX_owner_28 : decode prog_1_method_8_code 28 = .ok (.iload_n 1, 1) := by decide +kernel
theorem dX_owner_29 : decode prog_1_method_8_code 29 = .ok (.aaload, 1) := by decide +kernel
theorem dX_owner_30 : decode prog_1_method_8_code 30 = .ok (.getfield 138, 3) := by decide +kernel
theorem dX_owner_33 : decode prog_1_method_8_code 33 = .ok (.iload_n 2, 1) := by decide +kernel
theorem dX_owner_34 : decode prog_1_method_8_code 34 = .ok (.iaload, 1) := by decide +kernel
theorem dX_owner_35 : decode prog_1_method_8_code 35 = .ok (.ireturn, 1) := by decide +kernel
theorem dX_master_0 : decode prog_1_method_9_code 0 = .ok (.iload_n 1, 1) := by decide +kernel
theorem dX_master_1 : decode prog_1_method_9_code 1 = .ok (.iconst 3, 1) := by decide +kernel
theorem dX_master_2 : decode prog_1_method_9_code 2 = .ok (.invokestatic 45, 3) := by decide +kernel
theorem dX_master_5 : decode prog_1_method_9_code 5 = .ok (.ifCond .ne 11, 3) := by decide +kernel
theorem dX_master_8 : decode prog_1_method_9_code 8 = .ok (.new 117, 3) := by decide +kernel
theorem dX_master_11 : decode prog_1_method_9_code 11 = .ok (.dup, 1) := by decide +kernel
theorem dX_master_12 : decode prog_1_method_9_code 12 = .ok (.invokespecial 119, 3) := by decide +kernel
theorem dX_master_15 : decode prog_1_method_9_code 15 = .ok (.athrow, 1) := by decide +kernel
theorem dX_master_16 : decode prog_1_method_9_code 16 = .ok (.aload_n 0, 1) := by decide +kernel
theorem dX_master_17 : decode prog_1_method_9_code 17 = .ok (.getfield 11, 3) := by decide +kernel
theorem dX_master_20 : decode prog_1_method_9_code 20 = .ok (.iload_n 1, 1) := by decide +kernel
theorem dX_master_21 : decode prog_1_method_9_code 21 = .ok (.aaload, 1) := by decide +kernel
theorem dX_master_22 : decode prog_1_method_9_code 22 = .ok (.astore_n 3, 1) := by decide +kernel
theorem dX_master_23 : decode prog_1_method_9_code 23 = .ok (.iload_n 2, 1) := by decide +kernel
theorem dX_master_24 : decode prog_1_method_9_code 24 = .ok (.tableswitch 66 0 3 #[32, 40, 48, 53], 32) := by decide +kernel
theorem dX_master_56 : decode prog_1_method_9_code 56 = .ok (.aload_n 3, 1) := by decide +kernel
theorem dX_master_57 : decode prog_1_method_9_code 57 = .ok (.getfield 59, 3) := by decide +kernel
theorem dX_master_60 : decode prog_1_method_9_code 60 = .ok (.getfield 81, 3) := by decide +kernel
theorem dX_master_63 : decode prog_1_method_9_code 63 = .ok (.ireturn, 1) := by decide +kernel
theorem dX_master_64 : decode prog_1_method_9_code 64 = .ok (.aload_n 3, 1) := by decide +kernel
theorem dX_master_65 : decode prog_1_method_9_code 65 = .ok (.getfield 97, 3) := by decide +kernel
theorem dX_master_68 : decode prog_1_method_9_code 68 = .ok (.getfield 81, 3) := by decide +kernel
theorem dX_master_71 : decode prog_1_method_9_code 71 = .ok (.ireturn, 1) := by decide +kernel
theorem dX_master_72 : decode prog_1_method_9_code 72 = .ok (.aload_n 3, 1) := by decide +kernel
theorem dX_master_73 : decode prog_1_method_9_code 73 = .ok (.getfield 77, 3) := by decide +kernel
theorem dX_master_76 : decode prog_1_method_9_code 76 = .ok (.ireturn, 1) := by decide +kernel
theorem dX_master_77 : decode prog_1_method_9_code 77 = .ok (.aload_n 3, 1) := by decide +kernel
theorem dX_master_78 : decode prog_1_method_9_code 78 = .ok (.getfield 84, 3) := by decide +kernel
theorem dX_master_81 : decode prog_1_method_9_code 81 = .ok (.ifCond .eq 7, 3) := by decide +kernel
theorem dX_master_84 : decode prog_1_method_9_code 84 = .ok (.iconst 1, 1) := by decide +kernel
theorem dX_master_85 : decode prog_1_method_9_code 85 = .ok (.goto 4, 3) := by decide +kernel
theorem dX_master_88 : decode prog_1_method_9_code 88 = .ok (.iconst 0, 1) := by decide +kernel
theorem dX_master_89 : decode prog_1_method_9_code 89 = .ok (.ireturn, 1) := by decide +kernel
theorem dX_master_90 : decode prog_1_method_9_code 90 = .ok (.new 52, 3) := by decide +kernel
theorem dX_master_93 : decode prog_1_method_9_code 93 = .ok (.dup, 1) := by decide +kernel
theorem dX_master_94 : decode prog_1_method_9_code 94 = .ok (.invokespecial 54, 3) := by decide +kernel
theorem dX_master_97 : decode prog_1_method_9_code 97 = .ok (.athrow, 1) := by decide +kernel
theorem dX_memory_0 : decode prog_1_method_10_code 0 = .ok (.iload_n 1, 1) := by decide +kernel
theorem dX_memory_1 : decode prog_1_method_10_code 1 = .ok (.sipush 640, 3) := by decide +kernel
theorem dX_memory_4 : decode prog_1_method_10_code 4 = .ok (.invokestatic 45, 3) := by decide +kernel
theorem dX_memory_7 : decode prog_1_method_10_code 7 = .ok (.ifCond .ne 11, 3) := by decide +kernel
theorem dX_memory_10 : decode prog_1_method_10_code 10 = .ok (.new 117, 3) := by decide +kernel
theorem dX_memory_13 : decode prog_1_method_10_code 13 = .ok (.dup, 1) := by decide +kernel
theorem dX_memory_14 : decode prog_1_method_10_code 14 = .ok (.invokespecial 119, 3) := by decide +kernel
theorem dX_memory_17 : decode prog_1_method_10_code 17 = .ok (.athrow, 1) := by decide +kernel
theorem dX_memory_18 : decode prog_1_method_10_code 18 = .ok (.aload_n 0, 1) := by decide +kernel
theorem dX_memory_19 : decode prog_1_method_10_code 19 = .ok (.getfield 30, 3) := by decide +kernel
theorem dX_memory_22 : decode prog_1_method_10_code 22 = .ok (.iload_n 1, 1) := by decide +kernel
theorem dX_memory_23 : decode prog_1_method_10_code 23 = .ok (.baload, 1) := by decide +kernel
theorem dX_memory_24 : decode prog_1_method_10_code 24 = .ok (.sipush 255, 3) := by decide +kernel
theorem dX_memory_27 : decode prog_1_method_10_code 27 = .ok (.iand, 1) := by decide +kernel
theorem dX_memory_28 : decode prog_1_method_10_code 28 = .ok (.ireturn, 1) := by decide +kernel
theorem dX_done_0 : decode prog_1_method_11_code 0 = .ok (.iload_n 1, 1) := by decide +kernel
theorem dX_done_1 : decode prog_1_method_11_code 1 = .ok (.bipush 32, 2) := by decide +kernel
theorem dX_done_3 : decode prog_1_method_11_code 3 = .ok (.invokestatic 45, 3) := by decide +kernel
theorem dX_done_6 : decode prog_1_method_11_code 6 = .ok (.ifCond .eq 13, 3) := by decide +kernel
theorem dX_done_9 : decode prog_1_method_11_code 9 = .ok (.iload_n 1, 1) := by decide +kernel
theorem dX_done_10 : decode prog_1_method_11_code 10 = .ok (.aload_n 0, 1) := by decide +kernel
theorem dX_done_11 : decode prog_1_method_11_code 11 = .ok (.getfield 38, 3) := by decide +kernel
theorem dX_done_14 : decode prog_1_method_11_code 14 = .ok (.iconst 3, 1) := by decide +kernel
theorem dX_done_15 : decode prog_1_method_11_code 15 = .ok (.iaload, 1) := by decide +kernel
theorem dX_done_16 : decode prog_1_method_11_code 16 = .ok (.if_icmp .lt 5, 3) := by decide +kernel
theorem dX_done_19 : decode prog_1_method_11_code 19 = .ok (.iconst (-1), 1) := by decide +kernel
theorem dX_done_20 : decode prog_1_method_11_code 20 = .ok (.ireturn, 1) := by decide +kernel
theorem dX_done_21 : decode prog_1_method_11_code 21 = .ok (.aload_n 0, 1) := by decide +kernel
theorem dX_done_22 : decode prog_1_method_11_code 22 = .ok (.getfield 34, 3) := by decide +kernel
theorem dX_done_25 : decode prog_1_method_11_code 25 = .ok (.aload_n 0, 1) := by decide +kernel
theorem dX_done_26 : decode prog_1_method_11_code 26 = .ok (.getfield 38, 3) := by decide +kernel
theorem dX_done_29 : decode prog_1_method_11_code 29 = .ok (.iconst 3, 1) := by decide +kernel
theorem dX_done_30 : decode prog_1_method_11_code 30 = .ok (.iaload, 1) := by decide +kernel
theorem dX_done_31 : decode prog_1_method_11_code 31 = .ok (.iconst 1, 1) := by decide +kernel
theorem dX_done_32 : decode prog_1_method_11_code 32 = .ok (.isub, 1) := by decide +kernel
theorem dX_done_33 : decode prog_1_method_11_code 33 = .ok (.iload_n 1, 1) := by decide +kernel
theorem dX_done_34 : decode prog_1_method_11_code 34 = .ok (.isub, 1) := by decide +kernel
theorem dX_done_35 : decode prog_1_method_11_code 35 = .ok (.invokestatic 141, 3) := by decide +kernel
theorem dX_done_38 : decode prog_1_method_11_code 38 = .ok (.iaload, 1) := by decide +kernel
theorem dX_done_39 : decode prog_1_method_11_code 39 = .ok (.ireturn, 1) := by decide +kernel
theorem dX_count_0 : decode prog_1_method_12_code 0 = .ok (.iload_n 1, 1) := by decide +kernel
theorem dX_count_1 : decode prog_1_method_12_code 1 = .ok (.bipush 8, 2) := by decide +kernel
theorem dX_count_3 : decode prog_1_method_12_code 3 = .ok (.invokestatic 45, 3) := by decide +kernel
theorem dX_count_6 : decode prog_1_method_12_code 6 = .ok (.ifCond .eq 12, 3) := by decide +kernel
theorem dX_count_9 : decode prog_1_method_12_code 9 = .ok (.aload_n 0, 1) := by decide +kernel
theorem dX_count_10 : decode prog_1_method_12_code 10 = .ok (.getfield 38, 3) := by decide +kernel
theorem dX_count_13 : decode prog_1_method_12_code 13 = .ok (.iload_n 1, 1) := by decide +kernel
theorem dX_count_14 : decode prog_1_method_12_code 14 = .ok (.iaload, 1) := by decide +kernel
theorem dX_count_15 : decode prog_1_method_12_code 15 = .ok (.goto 4, 3) := by decide +kernel
theorem dX_count_18 : decode prog_1_method_12_code 18 = .ok (.iconst (-1), 1) := by decide +kernel
theorem dX_count_19 : decode prog_1_method_12_code 19 = .ok (.ireturn, 1) := by decide +kernel
theorem dX_runTick_0 : decode prog_1_method_13_code 0 = .ok (.aload_n 0, 1) := by decide +kernel
theorem dX_runTick_1 : decode prog_1_method_13_code 1 = .ok (.invokevirtual 144, 3) := by decide +kernel
theorem dX_runTick_4 : decode prog_1_method_13_code 4 = .ok (.istore_n 1, 1) := by decide +kernel
theorem dX_runTick_5 : decode prog_1_method_13_code 5 = .ok (.aload_n 0, 1) := by decide +kernel
theorem dX_runTick_6 : decode prog_1_method_13_code 6 = .ok (.invokevirtual 147, 3) := by decide +kernel
theorem dX_runTick_9 : decode prog_1_method_13_code 9 = .ok (.istore_n 2, 1) := by decide +kernel
theorem dX_runTick_10 : decode prog_1_method_13_code 10 = .ok (.aload_n 0, 1) := by decide +kernel
theorem dX_runTick_11 : decode prog_1_method_13_code 11 = .ok (.invokevirtual 150, 3) := by decide +kernel
theorem dX_runTick_14 : decode prog_1_method_13_code 14 = .ok (.istore_n 3, 1) := by decide +kernel
theorem dX_runTick_15 : decode prog_1_method_13_code 15 = .ok (.iload_n 1, 1) := by decide +kernel
theorem dX_runTick_16 : decode prog_1_method_13_code 16 = .ok (.ifCond .ne 11, 3) := by decide +kernel
theorem dX_runTick_19 : decode prog_1_method_13_code 19 = .ok (.iload_n 2, 1) := by decide +kernel
theorem dX_runTick_20 : decode prog_1_method_13_code 20 = .ok (.ifCond .ne 7, 3) := by decide +kernel
theorem dX_runTick_23 : decode prog_1_method_13_code 23 = .ok (.iload_n 3, 1) := by decide +kernel
theorem dX_runTick_24 : decode prog_1_method_13_code 24 = .ok (.ifCond .eq 7, 3) := by decide +kernel
theorem dX_runTick_27 : decode prog_1_method_13_code 27 = .ok (.iconst 1, 1) := by decide +kernel
theorem dX_runTick_28 : decode prog_1_method_13_code 28 = .ok (.goto 4, 3) := by decide +kernel
theorem dX_runTick_31 : decode prog_1_method_13_code 31 = .ok (.iconst 0, 1) := by decide +kernel
theorem dX_runTick_32 : decode prog_1_method_13_code 32 = .ok (.istore 4, 2) := by decide +kernel
theorem dX_runTick_34 : decode prog_1_method_13_code 34 = .ok (.aload_n 0, 1) := by decide +kernel
theorem dX_runTick_35 : decode prog_1_method_13_code 35 = .ok (.getfield 38, 3) := by decide +kernel
theorem dX_runTick_38 : decode prog_1_method_13_code 38 = .ok (.iconst 0, 1) := by decide +kernel
theorem dX_runTick_39 : decode prog_1_method_13_code 39 = .ok (.dup2, 1) := by decide +kernel
theorem dX_runTick_40 : decode prog_1_method_13_code 40 = .ok (.iaload, 1) := by decide +kernel
theorem dX_runTick_41 : decode prog_1_method_13_code 41 = .ok (.iconst 1, 1) := by decide +kernel
theorem dX_runTick_42 : decode prog_1_method_13_code 42 = .ok (.iadd, 1) := by decide +kernel
theorem dX_runTick_43 : decode prog_1_method_13_code 43 = .ok (.iastore, 1) := by decide +kernel
theorem dX_runTick_44 : decode prog_1_method_13_code 44 = .ok (.iload 4, 2) := by decide +kernel
theorem dX_runTick_46 : decode prog_1_method_13_code 46 = .ok (.ifCond .ne 14, 3) := by decide +kernel
theorem dX_runTick_49 : decode prog_1_method_13_code 49 = .ok (.aload_n 0, 1) := by decide +kernel
theorem dX_runTick_50 : decode prog_1_method_13_code 50 = .ok (.getfield 38, 3) := by decide +kernel
theorem dX_runTick_53 : decode prog_1_method_13_code 53 = .ok (.bipush 7, 2) := by decide +kernel
theorem dX_runTick_55 : decode prog_1_method_13_code 55 = .ok (.dup2, 1) := by decide +kernel
theorem dX_runTick_56 : decode prog_1_method_13_code 56 = .ok (.iaload, 1) := by decide +kernel
theorem dX_runTick_57 : decode prog_1_method_13_code 57 = .ok (.iconst 1, 1) := by decide +kernel
theorem dX_runTick_58 : decode prog_1_method_13_code 58 = .ok (.iadd, 1) := by decide +kernel
theorem dX_runTick_59 : decode prog_1_method_13_code 59 = .ok (.iastore, 1) := by decide +kernel
theorem dX_runTick_60 : decode prog_1_method_13_code 60 = .ok (.iload 4, 2) := by decide +kernel
theorem dX_runTick_62 : decode prog_1_method_13_code 62 = .ok (.ireturn, 1) := by decide +kernel
theorem dX_anyJobRuns_0 : decode prog_1_method_14_code 0 = .ok (.iconst 0, 1) := by decide +kernel
theorem dX_anyJobRuns_1 : decode prog_1_method_14_code 1 = .ok (.istore_n 1, 1) := by decide +kernel
theorem dX_anyJobRuns_2 : decode prog_1_method_14_code 2 = .ok (.iload_n 1, 1) := by decide +kernel
theorem dX_anyJobRuns_3 : decode prog_1_method_14_code 3 = .ok (.iconst 4, 1) := by decide +kernel
theorem dX_anyJobRuns_4 : decode prog_1_method_14_code 4 = .ok (.if_icmp .ge 23, 3) := by decide +kernel
theorem dX_anyJobRuns_7 : decode prog_1_method_14_code 7 = .ok (.aload_n 0, 1) := by decide +kernel
theorem dX_anyJobRuns_8 : decode prog_1_method_14_code 8 = .ok (.getfield 18, 3) := by decide +kernel
theorem dX_anyJobRuns_11 : decode prog_1_method_14_code 11 = .ok (.iload_n 1, 1) := by decide +kernel
theorem dX_anyJobRuns_12 : decode prog_1_method_14_code 12 = .ok (.aaload, 1) := by decide +kernel
theorem dX_anyJobRuns_13 : decode prog_1_method_14_code 13 = .ok (.getfield 126, 3) := by decide +kernel
theorem dX_anyJobRuns_16 : decode prog_1_method_14_code 16 = .ok (.ifCond .le 5, 3) := by decide +kernel
theorem dX_anyJobRuns_19 : decode prog_1_method_14_code 19 = .ok (.iconst 1, 1) := by decide +kernel
theorem dX_anyJobRuns_20 : decode prog_1_method_14_code 20 = .ok (.ireturn, 1) := by decide +kernel
theorem dX_anyJobRuns_21 : decode prog_1_method_14_code 21 = .ok (.iinc 1 1, 3) := by decide +kernel
theorem dX_anyJobRuns_24 : decode prog_1_method_14_code 24 = .ok (.goto (-22), 3) := by decide +kernel
theorem dX_anyJobRuns_27 : decode prog_1_method_14_code 27 = .ok (.iconst 0, 1) := by decide +kernel
theorem dX_anyJobRuns_28 : decode prog_1_method_14_code 28 = .ok (.ireturn, 1) := by decide +kernel
theorem dX_countStillTicks_0 : decode prog_1_method_15_code 0 = .ok (.aload_n 0, 1) := by decide +kernel
theorem dX_countStillTicks_1 : decode prog_1_method_15_code 1 = .ok (.getfield 38, 3) := by decide +kernel
theorem dX_countStillTicks_4 : decode prog_1_method_15_code 4 = .ok (.iconst 0, 1) := by decide +kernel
theorem dX_countStillTicks_5 : decode prog_1_method_15_code 5 = .ok (.dup2, 1) := by decide +kernel
theorem dX_countStillTicks_6 : decode prog_1_method_15_code 6 = .ok (.iaload, 1) := by decide +kernel
theorem dX_countStillTicks_7 : decode prog_1_method_15_code 7 = .ok (.iload_n 1, 1) := by decide +kernel
theorem dX_countStillTicks_8 : decode prog_1_method_15_code 8 = .ok (.iadd, 1) := by decide +kernel
theorem dX_countStillTicks_9 : decode prog_1_method_15_code 9 = .ok (.iastore, 1) := by decide +kernel
theorem dX_countStillTicks_10 : decode prog_1_method_15_code 10 = .ok (.aload_n 0, 1) := by decide +kernel
theorem dX_countStillTicks_11 : decode prog_1_method_15_code 11 = .ok (.getfield 38, 3) := by decide +kernel
theorem dX_countStillTicks_14 : decode prog_1_method_15_code 14 = .ok (.bipush 7, 2) := by decide +kernel
theorem dX_countStillTicks_16 : decode prog_1_method_15_code 16 = .ok (.dup2, 1) := by decide +kernel
theorem dX_countStillTicks_17 : decode prog_1_method_15_code 17 = .ok (.iaload, 1) := by decide +kernel
theorem dX_countStillTicks_18 : decode prog_1_method_15_code 18 = .ok (.iload_n 1, 1) := by decide +kernel
theorem dX_countStillTicks_19 : decode prog_1_method_15_code 19 = .ok (.iadd, 1) := by decide +kernel
theorem dX_countStillTicks_20 : decode prog_1_method_15_code 20 = .ok (.iastore, 1) := by decide +kernel
theorem dX_countStillTicks_21 : decode prog_1_method_15_code 21 = .ok (.return_, 1) := by decide +kernel
theorem dX_moveAnswers_0 : decode prog_1_method_16_code 0 = .ok (.iconst 0, 1) := by decide +kernel
theorem dX_moveAnswers_1 : decode prog_1_method_16_code 1 = .ok (.istore_n 1, 1) := by decide +kernel
theorem dX_moveAnswers_2 : decode prog_1_method_16_code 2 = .ok (.iconst 0, 1) := by decide +kernel
theorem dX_moveAnswers_3 : decode prog_1_method_16_code 3 = .ok (.istore_n 2, 1) := by decide +kernel
theorem dX_moveAnswers_4 : decode prog_1_method_16_code 4 = .ok (.iload_n 2, 1) := by decide +kernel
theorem dX_moveAnswers_5 : decode prog_1_method_16_code 5 = .ok (.iconst 3, 1) := by decide +kernel
theorem dX_moveAnswers_6 : decode prog_1_method_16_code 6 = .ok (.if_icmp .ge 28, 3) := by decide +kernel
theorem dX_moveAnswers_9 : decode prog_1_method_16_code 9 = .ok (.aload_n 0, 1) := by decide +kernel
theorem dX_moveAnswers_10 : decode prog_1_method_16_code 10 = .ok (.iload_n 2, 1) := by decide +kernel
theorem dX_moveAnswers_11 : decode prog_1_method_16_code 11 = .ok (.invokevirtual 153, 3) := by decide +kernel
theorem dX_moveAnswers_14 : decode prog_1_method_16_code 14 = .ok (.istore_n 3, 1) := by decide +kernel
theorem dX_moveAnswers_15 : decode prog_1_method_16_code 15 = .ok (.iload_n 3, 1) := by decide +kernel
theorem dX_moveAnswers_16 : decode prog_1_method_16_code 16 = .ok (.iconst (-1), 1) := by decide +kernel
theorem dX_moveAnswers_17 : decode prog_1_method_16_code 17 = .ok (.if_icmp .eq 11, 3) := by decide +kernel
theorem dX_moveAnswers_20 : decode prog_1_method_16_code 20 = .ok (.aload_n 0, 1) := by decide +kernel
theorem dX_moveAnswers_21 : decode prog_1_method_16_code 21 = .ok (.iload_n 3, 1) := by decide +kernel
theorem dX_moveAnswers_22 : decode prog_1_method_16_code 22 = .ok (.iload_n 2, 1) := by decide +kernel
theorem dX_moveAnswers_23 : decode prog_1_method_16_code 23 = .ok (.invokevirtual 156, 3) := by decide +kernel
theorem dX_moveAnswers_26 : decode prog_1_method_16_code 26 = .ok (.iconst 1, 1) := by decide +kernel
theorem dX_moveAnswers_27 : decode prog_1_method_16_code 27 = .ok (.istore_n 1, 1) := by decide +kernel
theorem dX_moveAnswers_28 : decode prog_1_method_16_code 28 = .ok (.iinc 2 1, 3) := by decide +kernel
theorem dX_moveAnswers_31 : decode prog_1_method_16_code 31 = .ok (.goto (-27), 3) := by decide +kernel
theorem dX_moveAnswers_34 : decode prog_1_method_16_code 34 = .ok (.iload_n 1, 1) := by decide +kernel
theorem dX_moveAnswers_35 : decode prog_1_method_16_code 35 = .ok (.ireturn, 1) := by decide +kernel
theorem dX_nextAnsweringPort_0 : decode prog_1_method_17_code 0 = .ok (.aload_n 0, 1) := by decide +kernel
theorem dX_nextAnsweringPort_1 : decode prog_1_method_17_code 1 = .ok (.getfield 11, 3) := by decide +kernel
theorem dX_nextAnsweringPort_4 : decode prog_1_method_17_code 4 = .ok (.iload_n 1, 1) := by decide +kernel
theorem dX_nextAnsweringPort_5 : decode prog_1_method_17_code 5 = .ok (.aaload, 1) := by decide +kernel
theorem dX_nextAnsweringPort_6 : decode prog_1_method_17_code 6 = .ok (.invokevirtual 160, 3) := by decide +kernel
theorem dX_nextAnsweringPort_9 : decode prog_1_method_17_code 9 = .ok (.ifCond .ne 5, 3) := by decide +kernel
theorem dX_nextAnsweringPort_12 : decode prog_1_method_17_code 12 = .ok (.iconst (-1), 1) := by decide +kernel
theorem dX_nextAnsweringPort_13 : decode prog_1_method_17_code 13 = .ok (.ireturn, 1) := by decide +kernel
theorem dX_nextAnsweringPort_14 : decode prog_1_method_17_code 14 = .ok (.iconst 1, 1) := by decide +kernel
theorem dX_nextAnsweringPort_15 : decode prog_1_method_17_code 15 = .ok (.istore_n 2, 1) := by decide +kernel
theorem dX_nextAnsweringPort_16 : decode prog_1_method_17_code 16 = .ok (.iload_n 2, 1) := by decide +kernel
theorem dX_nextAnsweringPort_17 : decode prog_1_method_17_code 17 = .ok (.iconst 4, 1) := by decide +kernel
theorem dX_nextAnsweringPort_18 : decode prog_1_method_17_code 18 = .ok (.if_icmp .gt 55, 3) := by decide +kernel
theorem dX_nextAnsweringPort_21 : decode prog_1_method_17_code 21 = .ok (.aload_n 0, 1) := by decide +kernel
theorem dX_nextAnsweringPort_22 : decode prog_1_method_17_code 22 = .ok (.getfield 11, 3) := by decide +kernel
theorem dX_nextAnsweringPort_25 : decode prog_1_method_17_code 25 = .ok (.iload_n 1, 1) := by decide +kernel
theorem dX_nextAnsweringPort_26 : decode prog_1_method_17_code 26 = .ok (.aaload, 1) := by decide +kernel
theorem dX_nextAnsweringPort_27 : decode prog_1_method_17_code 27 = .ok (.getfield 163, 3) := by decide +kernel
theorem dX_nextAnsweringPort_30 : decode prog_1_method_17_code 30 = .ok (.iload_n 2, 1) := by decide +kernel
theorem dX_nextAnsweringPort_31 : decode prog_1_method_17_code 31 = .ok (.iconst 4, 1) := by decide +kernel
theorem dX_nextAnsweringPort_32 : decode prog_1_method_17_code 32 = .ok (.invokestatic 166, 3) := by decide +kernel
theorem dX_nextAnsweringPort_35 : decode prog_1_method_17_code 35 = .ok (.istore_n 3, 1) := by decide +kernel
theorem dX_nextAnsweringPort_36 : decode prog_1_method_17_code 36 = .ok (.aload_n 0, 1) := by decide +kernel
theorem dX_nextAnsweringPort_37 : decode prog_1_method_17_code 37 = .ok (.getfield 18, 3) := by decide +kernel
theorem dX_nextAnsweringPort_40 : decode prog_1_method_17_code 40 = .ok (.iload_n 3, 1) := by decide +kernel
theorem dX_nextAnsweringPort_41 : decode prog_1_method_17_code 41 = .ok (.aaload, 1) := by decide +kernel
theorem dX_nextAnsweringPort_42 : decode prog_1_method_17_code 42 = .ok (.getfield 129, 3) := by decide +kernel
theorem dX_nextAnsweringPort_45 : decode prog_1_method_17_code 45 = .ok (.invokevirtual 170, 3) := by decide +kernel
theorem dX_nextAnsweringPort_48 : decode prog_1_method_17_code 48 = .ok (.istore 4, 2) := by decide +kernel
theorem dX_nextAnsweringPort_50 : decode prog_1_method_17_code 50 = .ok (.iload 4, 2) := by decide +kernel
theorem dX_nextAnsweringPort_52 : decode prog_1_method_17_code 52 = .ok (.iconst (-1), 1) := by decide +kernel
theorem dX_nextAnsweringPort_53 : decode prog_1_method_17_code 53 = .ok (.if_icmp .eq 14, 3) := by decide +kernel
theorem dX_nextAnsweringPort_56 : decode prog_1_method_17_code 56 = .ok (.iload 4, 2) := by decide +kernel
theorem dX_nextAnsweringPort_58 : decode prog_1_method_17_code 58 = .ok (.invokestatic 173, 3) := by decide +kernel
theorem dX_nextAnsweringPort_61 : decode prog_1_method_17_code 61 = .ok (.iload_n 1, 1) := by decide +kernel
theorem dX_nextAnsweringPort_62 : decode prog_1_method_17_code 62 = .ok (.if_icmp .ne 5, 3) := by decide +kernel
theorem dX_nextAnsweringPort_65 : decode prog_1_method_17_code 65 = .ok (.iload_n 3, 1) := by decide +kernel
theorem dX_nextAnsweringPort_66 : decode prog_1_method_17_code 66 = .ok (.ireturn, 1) := by decide +kernel
theorem dX_nextAnsweringPort_67 : decode prog_1_method_17_code 67 = .ok (.iinc 2 1, 3) := by decide +kernel
theorem dX_nextAnsweringPort_70 : decode prog_1_method_17_code 70 = .ok (.goto (-54), 3) := by decide +kernel
theorem dX_nextAnsweringPort_73 : decode prog_1_method_17_code 73 = .ok (.iconst (-1), 1) := by decide +kernel
theorem dX_nextAnsweringPort_74 : decode prog_1_method_17_code 74 = .ok (.ireturn, 1) := by decide +kernel
theorem dX_moveAnswer_0 : decode prog_1_method_18_code 0 = .ok (.aload_n 0, 1) := by decide +kernel
theorem dX_moveAnswer_1 : decode prog_1_method_18_code 1 = .ok (.getfield 18, 3) := by decide +kernel
theorem dX_moveAnswer_4 : decode prog_1_method_18_code 4 = .ok (.iload_n 1, 1) := by decide +kernel
theorem dX_moveAnswer_5 : decode prog_1_method_18_code 5 = .ok (.aaload, 1) := by decide +kernel
theorem dX_moveAnswer_6 : decode prog_1_method_18_code 6 = .ok (.getfield 129, 3) := by decide +kernel
theorem dX_moveAnswer_9 : decode prog_1_method_18_code 9 = .ok (.invokevirtual 100, 3) := by decide +kernel
theorem dX_moveAnswer_12 : decode prog_1_method_18_code 12 = .ok (.istore_n 3, 1) := by decide +kernel
theorem dX_moveAnswer_13 : decode prog_1_method_18_code 13 = .ok (.aload_n 0, 1) := by decide +kernel
theorem dX_moveAnswer_14 : decode prog_1_method_18_code 14 = .ok (.getfield 18, 3) := by decide +kernel
theorem dX_moveAnswer_17 : decode prog_1_method_18_code 17 = .ok (.iload_n 1, 1) := by decide +kernel
theorem dX_moveAnswer_18 : decode prog_1_method_18_code 18 = .ok (.aaload, 1) := by decide +kernel
theorem dX_moveAnswer_19 : decode prog_1_method_18_code 19 = .ok (.iload_n 3, 1) := by decide +kernel
theorem dX_moveAnswer_20 : decode prog_1_method_18_code 20 = .ok (.invokevirtual 176, 3) := by decide +kernel
theorem dX_moveAnswer_23 : decode prog_1_method_18_code 23 = .ok (.aload_n 0, 1) := by decide +kernel
theorem dX_moveAnswer_24 : decode prog_1_method_18_code 24 = .ok (.getfield 11, 3) := by decide +kernel
theorem dX_moveAnswer_27 : decode prog_1_method_18_code 27 = .ok (.iload_n 2, 1) := by decide +kernel
theorem dX_moveAnswer_28 : decode prog_1_method_18_code 28 = .ok (.aaload, 1) := by decide +kernel
theorem dX_moveAnswer_29 : decode prog_1_method_18_code 29 = .ok (.getfield 97, 3) := by decide +kernel
theorem dX_moveAnswer_32 : decode prog_1_method_18_code 32 = .ok (.iload_n 3, 1) := by decide +kernel
theorem dX_moveAnswer_33 : decode prog_1_method_18_code 33 = .ok (.invokevirtual 73, 3) := by decide +kernel
theorem dX_moveAnswer_36 : decode prog_1_method_18_code 36 = .ok (.aload_n 0, 1) := by decide +kernel
theorem dX_moveAnswer_37 : decode prog_1_method_18_code 37 = .ok (.getfield 11, 3) := by decide +kernel
theorem dX_moveAnswer_40 : decode prog_1_method_18_code 40 = .ok (.iload_n 2, 1) := by decide +kernel
theorem dX_moveAnswer_41 : decode prog_1_method_18_code 41 = .ok (.aaload, 1) := by decide +kernel
theorem dX_moveAnswer_42 : decode prog_1_method_18_code 42 = .ok (.iload_n 1, 1) := by decide +kernel
theorem dX_moveAnswer_43 : decode prog_1_method_18_code 43 = .ok (.putfield 163, 3) := by decide +kernel
theorem dX_moveAnswer_46 : decode prog_1_method_18_code 46 = .ok (.aload_n 0, 1) := by decide +kernel
theorem dX_moveAnswer_47 : decode prog_1_method_18_code 47 = .ok (.getfield 38, 3) := by decide +kernel
theorem dX_moveAnswer_50 : decode prog_1_method_18_code 50 = .ok (.iconst 4, 1) := by decide +kernel
theorem dX_moveAnswer_51 : decode prog_1_method_18_code 51 = .ok (.dup2, 1) := by decide +kernel
theorem dX_moveAnswer_52 : decode prog_1_method_18_code 52 = .ok (.iaload, 1) := by decide +kernel
theorem dX_moveAnswer_53 : decode prog_1_method_18_code 53 = .ok (.iconst 1, 1) := by decide +kernel
theorem dX_moveAnswer_54 : decode prog_1_method_18_code 54 = .ok (.iadd, 1) := by decide +kernel
theorem dX_moveAnswer_55 : decode prog_1_method_18_code 55 = .ok (.iastore, 1) := by decide +kernel
theorem dX_moveAnswer_56 : decode prog_1_method_18_code 56 = .ok (.return_, 1) := by decide +kernel
theorem dX_servePorts_0 : decode prog_1_method_19_code 0 = .ok (.iconst 0, 1) := by decide +kernel
theorem dX_servePorts_1 : decode prog_1_method_19_code 1 = .ok (.istore_n 1, 1) := by decide +kernel
theorem dX_servePorts_2 : decode prog_1_method_19_code 2 = .ok (.iconst 0, 1) := by decide +kernel
theorem dX_servePorts_3 : decode prog_1_method_19_code 3 = .ok (.istore_n 2, 1) := by decide +kernel
theorem dX_servePorts_4 : decode prog_1_method_19_code 4 = .ok (.iload_n 2, 1) := by decide +kernel
theorem dX_servePorts_5 : decode prog_1_method_19_code 5 = .ok (.iconst 4, 1) := by decide +kernel
theorem dX_servePorts_6 : decode prog_1_method_19_code 6 = .ok (.if_icmp .ge 56, 3) := by decide +kernel
theorem dX_servePorts_9 : decode prog_1_method_19_code 9 = .ok (.aload_n 0, 1) := by decide +kernel
theorem dX_servePorts_10 : decode prog_1_method_19_code 10 = .ok (.getfield 18, 3) := by decide +kernel
theorem dX_servePorts_13 : decode prog_1_method_19_code 13 = .ok (.iload_n 2, 1) := by decide +kernel
theorem dX_servePorts_14 : decode prog_1_method_19_code 14 = .ok (.aaload, 1) := by decide +kernel
theorem dX_servePorts_15 : decode prog_1_method_19_code 15 = .ok (.invokevirtual 179, 3) := by decide +kernel
theorem dX_servePorts_18 : decode prog_1_method_19_code 18 = .ok (.aload_n 0, 1) := by decide +kernel
theorem dX_servePorts_19 : decode prog_1_method_19_code 19 = .ok (.getfield 18, 3) := by decide +kernel
theorem dX_servePorts_22 : decode prog_1_method_19_code 22 = .ok (.iload_n 2, 1) := by decide +kernel
theorem dX_servePorts_23 : decode prog_1_method_19_code 23 = .ok (.aaload, 1) := by decide +kernel
theorem dX_servePorts_24 : decode prog_1_method_19_code 24 = .ok (.invokevirtual 182, 3) := by decide +kernel
theorem dX_servePorts_27 : decode prog_1_method_19_code 27 = .ok (.ifCond .eq 10, 3) := by decide +kernel
theorem dX_servePorts_30 : decode prog_1_method_19_code 30 = .ok (.aload_n 0, 1) := by decide +kernel
theorem dX_servePorts_31 : decode prog_1_method_19_code 31 = .ok (.iload_n 2, 1) := by decide +kernel
theorem dX_servePorts_32 : decode prog_1_method_19_code 32 = .ok (.invokevirtual 185, 3) := by decide +kernel
theorem dX_servePorts_35 : decode prog_1_method_19_code 35 = .ok (.iconst 1, 1) := by decide +kernel
theorem dX_servePorts_36 : decode prog_1_method_19_code 36 = .ok (.istore_n 1, 1) := by decide +kernel
theorem dX_servePorts_37 : decode prog_1_method_19_code 37 = .ok (.aload_n 0, 1) := by decide +kernel
theorem dX_servePorts_38 : decode prog_1_method_19_code 38 = .ok (.getfield 18, 3) := by decide +kernel
theorem dX_servePorts_41 : decode prog_1_method_19_code 41 = .ok (.iload_n 2, 1) := by decide +kernel
theorem dX_servePorts_42 : decode prog_1_method_19_code 42 = .ok (.aaload, 1) := by decide +kernel
theorem dX_servePorts_43 : decode prog_1_method_19_code 43 = .ok (.invokevirtual 188, 3) := by decide +kernel
theorem dX_servePorts_46 : decode prog_1_method_19_code 46 = .ok (.ifCond .eq 10, 3) := by decide +kernel
theorem dX_servePorts_49 : decode prog_1_method_19_code 49 = .ok (.aload_n 0, 1) := by decide +kernel
theorem dX_servePorts_50 : decode prog_1_method_19_code 50 = .ok (.iload_n 2, 1) := by decide +kernel
theorem dX_servePorts_51 : decode prog_1_method_19_code 51 = .ok (.invokevirtual 191, 3) := by decide +kernel
theorem dX_servePorts_54 : decode prog_1_method_19_code 54 = .ok (.iconst 1, 1) := by decide +kernel
theorem dX_servePorts_55 : decode prog_1_method_19_code 55 = .ok (.istore_n 1, 1) := by decide +kernel
theorem dX_servePorts_56 : decode prog_1_method_19_code 56 = .ok (.iinc 2 1, 3) := by decide +kernel
theorem dX_servePorts_59 : decode prog_1_method_19_code 59 = .ok (.goto (-55), 3) := by decide +kernel
theorem dX_servePorts_62 : decode prog_1_method_19_code 62 = .ok (.iload_n 1, 1) := by decide +kernel
theorem dX_servePorts_63 : decode prog_1_method_19_code 63 = .ok (.ireturn, 1) := by decide +kernel
theorem dX_finishJob_0 : decode prog_1_method_20_code 0 = .ok (.aload_n 0, 1) := by decide +kernel
theorem dX_finishJob_1 : decode prog_1_method_20_code 1 = .ok (.getfield 18, 3) := by decide +kernel
theorem dX_finishJob_4 : decode prog_1_method_20_code 4 = .ok (.iload_n 1, 1) := by decide +kernel
theorem dX_finishJob_5 : decode prog_1_method_20_code 5 = .ok (.aaload, 1) := by decide +kernel
theorem dX_finishJob_6 : decode prog_1_method_20_code 6 = .ok (.invokevirtual 194, 3) := by decide +kernel
theorem dX_finishJob_9 : decode prog_1_method_20_code 9 = .ok (.istore_n 2, 1) := by decide +kernel
theorem dX_finishJob_10 : decode prog_1_method_20_code 10 = .ok (.iload_n 2, 1) := by decide +kernel
theorem dX_finishJob_11 : decode prog_1_method_20_code 11 = .ok (.iconst (-1), 1) := by decide +kernel
theorem dX_finishJob_12 : decode prog_1_method_20_code 12 = .ok (.if_icmp .ne 4, 3) := by decide +kernel
theorem dX_finishJob_15 : decode prog_1_method_20_code 15 = .ok (.return_, 1) := by decide +kernel
theorem dX_finishJob_16 : decode prog_1_method_20_code 16 = .ok (.aload_n 0, 1) := by decide +kernel
theorem dX_finishJob_17 : decode prog_1_method_20_code 17 = .ok (.aload_n 0, 1) := by decide +kernel
theorem dX_finishJob_18 : decode prog_1_method_20_code 18 = .ok (.getfield 25, 3) := by decide +kernel
theorem dX_finishJob_21 : decode prog_1_method_20_code 21 = .ok (.iload_n 2, 1) := by decide +kernel
theorem dX_finishJob_22 : decode prog_1_method_20_code 22 = .ok (.aaload, 1) := by decide +kernel
theorem dX_finishJob_23 : decode prog_1_method_20_code 23 = .ok (.invokevirtual 196, 3) := by decide +kernel
theorem dX_finishJob_26 : decode prog_1_method_20_code 26 = .ok (.aload_n 0, 1) := by decide +kernel
theorem dX_finishJob_27 : decode prog_1_method_20_code 27 = .ok (.getfield 34, 3) := by decide +kernel
theorem dX_finishJob_30 : decode prog_1_method_20_code 30 = .ok (.aload_n 0, 1) := by decide +kernel
theorem dX_finishJob_31 : decode prog_1_method_20_code 31 = .ok (.getfield 38, 3) := by decide +kernel
theorem dX_finishJob_34 : decode prog_1_method_20_code 34 = .ok (.iconst 3, 1) := by decide +kernel
theorem dX_finishJob_35 : decode prog_1_method_20_code 35 = .ok (.iaload, 1) := by decide +kernel
theorem dX_finishJob_36 : decode prog_1_method_20_code 36 = .ok (.invokestatic 141, 3) := by decide +kernel
theorem dX_finishJob_39 : decode prog_1_method_20_code 39 = .ok (.bipush 64, 2) := by decide +kernel
theorem dX_finishJob_41 : decode prog_1_method_20_code 41 = .ok (.iload_n 1, 1) := by decide +kernel
theorem dX_finishJob_42 : decode prog_1_method_20_code 42 = .ok (.imul, 1) := by decide +kernel
theorem dX_finishJob_43 : decode prog_1_method_20_code 43 = .ok (.iload_n 2, 1) := by decide +kernel
theorem dX_finishJob_44 : decode prog_1_method_20_code 44 = .ok (.iadd, 1) := by decide +kernel
theorem dX_finishJob_45 : decode prog_1_method_20_code 45 = .ok (.iastore, 1) := by decide +kernel
theorem dX_finishJob_46 : decode prog_1_method_20_code 46 = .ok (.aload_n 0, 1) := by decide +kernel
theorem dX_finishJob_47 : decode prog_1_method_20_code 47 = .ok (.getfield 38, 3) := by decide +kernel
theorem dX_finishJob_50 : decode prog_1_method_20_code 50 = .ok (.iconst 3, 1) := by decide +kernel
theorem dX_finishJob_51 : decode prog_1_method_20_code 51 = .ok (.dup2, 1) := by decide +kernel
theorem dX_finishJob_52 : decode prog_1_method_20_code 52 = .ok (.iaload, 1) := by decide +kernel
theorem dX_finishJob_53 : decode prog_1_method_20_code 53 = .ok (.iconst 1, 1) := by decide +kernel
theorem dX_finishJob_54 : decode prog_1_method_20_code 54 = .ok (.iadd, 1) := by decide +kernel
theorem dX_finishJob_55 : decode prog_1_method_20_code 55 = .ok (.iastore, 1) := by decide +kernel
theorem dX_finishJob_56 : decode prog_1_method_20_code 56 = .ok (.return_, 1) := by decide +kernel
theorem dX_beginJob_0 : decode prog_1_method_21_code 0 = .ok (.aload_n 0, 1) := by decide +kernel
theorem dX_beginJob_1 : decode prog_1_method_21_code 1 = .ok (.getfield 18, 3) := by decide +kernel
theorem dX_beginJob_4 : decode prog_1_method_21_code 4 = .ok (.iload_n 1, 1) := by decide +kernel
theorem dX_beginJob_5 : decode prog_1_method_21_code 5 = .ok (.aaload, 1) := by decide +kernel
theorem dX_beginJob_6 : decode prog_1_method_21_code 6 = .ok (.getfield 120, 3) := by decide +kernel
theorem dX_beginJob_9 : decode prog_1_method_21_code 9 = .ok (.invokevirtual 100, 3) := by decide +kernel
theorem dX_beginJob_12 : decode prog_1_method_21_code 12 = .ok (.istore_n 2, 1) := by decide +kernel
theorem dX_beginJob_13 : decode prog_1_method_21_code 13 = .ok (.iload_n 2, 1) := by decide +kernel
theorem dX_beginJob_14 : decode prog_1_method_21_code 14 = .ok (.iconst (-1), 1) := by decide +kernel
theorem dX_beginJob_15 : decode prog_1_method_21_code 15 = .ok (.if_icmp .ne 4, 3) := by decide +kernel
theorem dX_beginJob_18 : decode prog_1_method_21_code 18 = .ok (.return_, 1) := by decide +kernel
theorem dX_beginJob_19 : decode prog_1_method_21_code 19 = .ok (.aload_n 0, 1) := by decide +kernel
theorem dX_beginJob_20 : decode prog_1_method_21_code 20 = .ok (.getfield 18, 3) := by decide +kernel
theorem dX_beginJob_23 : decode prog_1_method_21_code 23 = .ok (.iload_n 1, 1) := by decide +kernel
theorem dX_beginJob_24 : decode prog_1_method_21_code 24 = .ok (.aaload, 1) := by decide +kernel
theorem dX_beginJob_25 : decode prog_1_method_21_code 25 = .ok (.iload_n 2, 1) := by decide +kernel
theorem dX_beginJob_26 : decode prog_1_method_21_code 26 = .ok (.putfield 123, 3) := by decide +kernel
theorem dX_beginJob_29 : decode prog_1_method_21_code 29 = .ok (.aload_n 0, 1) := by decide +kernel
theorem dX_beginJob_30 : decode prog_1_method_21_code 30 = .ok (.getfield 18, 3) := by decide +kernel
theorem dX_beginJob_33 : decode prog_1_method_21_code 33 = .ok (.iload_n 1, 1) := by decide +kernel
theorem dX_beginJob_34 : decode prog_1_method_21_code 34 = .ok (.aaload, 1) := by decide +kernel
theorem dX_beginJob_35 : decode prog_1_method_21_code 35 = .ok (.getstatic 200, 3) := by decide +kernel
theorem dX_beginJob_38 : decode prog_1_method_21_code 38 = .ok (.iload_n 1, 1) := by decide +kernel
theorem dX_beginJob_39 : decode prog_1_method_21_code 39 = .ok (.iaload, 1) := by decide +kernel
theorem dX_beginJob_40 : decode prog_1_method_21_code 40 = .ok (.iconst 1, 1) := by decide +kernel
theorem dX_beginJob_41 : decode prog_1_method_21_code 41 = .ok (.aload_n 0, 1) := by decide +kernel
theorem dX_beginJob_42 : decode prog_1_method_21_code 42 = .ok (.getfield 25, 3) := by decide +kernel
theorem dX_beginJob_45 : decode prog_1_method_21_code 45 = .ok (.iload_n 2, 1) := by decide +kernel
theorem dX_beginJob_46 : decode prog_1_method_21_code 46 = .ok (.aaload, 1) := by decide +kernel
theorem dX_beginJob_47 : decode prog_1_method_21_code 47 = .ok (.invokevirtual 203, 3) := by decide +kernel
theorem dX_beginJob_50 : decode prog_1_method_21_code 50 = .ok (.getstatic 205, 3) := by decide +kernel
theorem dX_beginJob_53 : decode prog_1_method_21_code 53 = .ok (.iload_n 1, 1) := by decide +kernel
theorem dX_beginJob_54 : decode prog_1_method_21_code 54 = .ok (.iaload, 1) := by decide +kernel
theorem dX_beginJob_55 : decode prog_1_method_21_code 55 = .ok (.ishr, 1) := by decide +kernel
theorem dX_beginJob_56 : decode prog_1_method_21_code 56 = .ok (.invokestatic 208, 3) := by decide +kernel
theorem dX_beginJob_59 : decode prog_1_method_21_code 59 = .ok (.iadd, 1) := by decide +kernel
theorem dX_beginJob_60 : decode prog_1_method_21_code 60 = .ok (.putfield 126, 3) := by decide +kernel
theorem dX_beginJob_63 : decode prog_1_method_21_code 63 = .ok (.return_, 1) := by decide +kernel
theorem dX_carryOut_0 : decode prog_1_method_22_code 0 = .ok (.lconst 0, 1) := by decide +kernel
theorem dX_carryOut_1 : decode prog_1_method_22_code 1 = .ok (.lstore_n 2, 1) := by decide +kernel
theorem dX_carryOut_2 : decode prog_1_method_22_code 2 = .ok (.aload_n 1, 1) := by decide +kernel
theorem dX_carryOut_3 : decode prog_1_method_22_code 3 = .ok (.invokevirtual 114, 3) := by decide +kernel
theorem dX_carryOut_6 : decode prog_1_method_22_code 6 = .ok (.ifCond .ne 24, 3) := by decide +kernel
theorem dX_carryOut_9 : decode prog_1_method_22_code 9 = .ok (.aload_n 1, 1) := by decide +kernel
theorem dX_carryOut_10 : decode prog_1_method_22_code 10 = .ok (.getfield 111, 3) := by decide +kernel
theorem dX_carryOut_13 : decode prog_1_method_22_code 13 = .ok (.ifCond .ne 12, 3) := by decide +kernel
theorem dX_carryOut_16 : decode prog_1_method_22_code 16 = .ok (.aload_n 0, 1) := by decide +kernel
theorem dX_carryOut_17 : decode prog_1_method_22_code 17 = .ok (.aload_n 1, 1) := by decide +kernel
theorem dX_carryOut_18 : decode prog_1_method_22_code 18 = .ok (.invokevirtual 214, 3) := by decide +kernel
theorem dX_carryOut_21 : decode prog_1_method_22_code 21 = .ok (.lstore_n 2, 1) := by decide +kernel
theorem dX_carryOut_22 : decode prog_1_method_22_code 22 = .ok (.goto 8, 3) := by decide +kernel
theorem dX_carryOut_25 : decode prog_1_method_22_code 25 = .ok (.aload_n 0, 1) := by decide +kernel
theorem dX_carryOut_26 : decode prog_1_method_22_code 26 = .ok (.aload_n 1, 1) := by decide +kernel
theorem dX_carryOut_27 : decode prog_1_method_22_code 27 = .ok (.invokevirtual 218, 3) := by decide +kernel
theorem dX_carryOut_30 : decode prog_1_method_22_code 30 = .ok (.aload_n 1, 1) := by decide +kernel
theorem dX_carryOut_31 : decode prog_1_method_22_code 31 = .ok (.lload_n 2, 1) := by decide +kernel
theorem dX_carryOut_32 : decode prog_1_method_22_code 32 = .ok (.putfield 108, 3) := by decide +kernel
theorem dX_carryOut_35 : decode prog_1_method_22_code 35 = .ok (.return_, 1) := by decide +kernel
theorem dX_readBytes_0 : decode prog_1_method_23_code 0 = .ok (.lconst 0, 1) := by decide +kernel
theorem dX_readBytes_1 : decode prog_1_method_23_code 1 = .ok (.lstore_n 2, 1) := by decide +kernel
theorem dX_readBytes_2 : decode prog_1_method_23_code 2 = .ok (.aload_n 1, 1) := by decide +kernel
theorem dX_readBytes_3 : decode prog_1_method_23_code 3 = .ok (.invokevirtual 203, 3) := by decide +kernel
theorem dX_readBytes_6 : decode prog_1_method_23_code 6 = .ok (.iconst 1, 1) := by decide +kernel
theorem dX_readBytes_7 : decode prog_1_method_23_code 7 = .ok (.isub, 1) := by decide +kernel
theorem dX_readBytes_8 : decode prog_1_method_23_code 8 = .ok (.istore 4, 2) := by decide +kernel
theorem dX_readBytes_10 : decode prog_1_method_23_code 10 = .ok (.iload 4, 2) := by decide +kernel
theorem dX_readBytes_12 : decode prog_1_method_23_code 12 = .ok (.ifCond .lt 32, 3) := by decide +kernel
theorem dX_readBytes_15 : decode prog_1_method_23_code 15 = .ok (.lload_n 2, 1) := by decide +kernel
theorem dX_readBytes_16 : decode prog_1_method_23_code 16 = .ok (.bipush 8, 2) := by decide +kernel
theorem dX_readBytes_18 : decode prog_1_method_23_code 18 = .ok (.lshl, 1) := by decide +kernel
theorem dX_readBytes_19 : decode prog_1_method_23_code 19 = .ok (.aload_n 0, 1) := by decide +kernel
theorem dX_readBytes_20 : decode prog_1_method_23_code 20 = .ok (.getfield 30, 3) := by decide +kernel
theorem dX_readBytes_23 : decode prog_1_method_23_code 23 = .ok (.aload_n 1, 1) := by decide +kernel
theorem dX_readBytes_24 : decode prog_1_method_23_code 24 = .ok (.getfield 221, 3) := by decide +kernel
theorem dX_readBytes_27 : decode prog_1_method_23_code 27 = .ok (.iload 4, 2) := by decide +kernel
theorem dX_readBytes_29 : decode prog_1_method_23_code 29 = .ok (.iadd, 1) := by decide +kernel
theorem dX_readBytes_30 : decode prog_1_method_23_code 30 = .ok (.baload, 1) := by decide +kernel
theorem dX_readBytes_31 : decode prog_1_method_23_code 31 = .ok (.sipush 255, 3) := by decide +kernel
theorem dX_readBytes_34 : decode prog_1_method_23_code 34 = .ok (.iand, 1) := by decide +kernel
theorem dX_readBytes_35 : decode prog_1_method_23_code 35 = .ok (.i2l, 1) := by decide +kernel
theorem dX_readBytes_36 : decode prog_1_method_23_code 36 = .ok (.lor, 1) := by decide +kernel
theorem dX_readBytes_37 : decode prog_1_method_23_code 37 = .ok (.lstore_n 2, 1) := by decide +kernel
theorem dX_readBytes_38 : decode prog_1_method_23_code 38 = .ok (.iinc 4 (-1), 3) := by decide +kernel
theorem dX_readBytes_41 : decode prog_1_method_23_code 41 = .ok (.goto (-31), 3) := by decide +kernel
theorem dX_readBytes_44 : decode prog_1_method_23_code 44 = .ok (.lload_n 2, 1) := by decide +kernel
theorem dX_readBytes_45 : decode prog_1_method_23_code 45 = .ok (.lreturn, 1) := by decide +kernel
theorem dX_writeBytes_0 : decode prog_1_method_24_code 0 = .ok (.iconst 0, 1) := by decide +kernel
theorem dX_writeBytes_1 : decode prog_1_method_24_code 1 = .ok (.istore_n 2, 1) := by decide +kernel
theorem dX_writeBytes_2 : decode prog_1_method_24_code 2 = .ok (.iload_n 2, 1) := by decide +kernel
theorem dX_writeBytes_3 : decode prog_1_method_24_code 3 = .ok (.aload_n 1, 1) := by decide +kernel
theorem dX_writeBytes_4 : decode prog_1_method_24_code 4 = .ok (.invokevirtual 203, 3) := by decide +kernel
theorem dX_writeBytes_7 : decode prog_1_method_24_code 7 = .ok (.if_icmp .ge 39, 3) := by decide +kernel
theorem dX_writeBytes_10 : decode prog_1_method_24_code 10 = .ok (.aload_n 1, 1) := by decide +kernel
theorem dX_writeBytes_11 : decode prog_1_method_24_code 11 = .ok (.iload_n 2, 1) := by decide +kernel
theorem dX_writeBytes_12 : decode prog_1_method_24_code 12 = .ok (.invokevirtual 224, 3) := by decide +kernel
theorem dX_writeBytes_15 : decode prog_1_method_24_code 15 = .ok (.ifCond .eq 25, 3) := by decide +kernel
theorem dX_writeBytes_18 : decode prog_1_method_24_code 18 = .ok (.aload_n 0, 1) := by decide +kernel
theorem dX_writeBytes_19 : decode prog_1_method_24_code 19 = .ok (.getfield 30, 3) := by decide +kernel
theorem dX_writeBytes_22 : decode prog_1_method_24_code 22 = .ok (.aload_n 1, 1) := by decide +kernel
theorem dX_writeBytes_23 : decode prog_1_method_24_code 23 = .ok (.getfield 221, 3) := by decide +kernel
theorem dX_writeBytes_26 : decode prog_1_method_24_code 26 = .ok (.iload_n 2, 1) := by decide +kernel
theorem dX_writeBytes_27 : decode prog_1_method_24_code 27 = .ok (.iadd, 1) := by decide +kernel
theorem dX_writeBytes_28 : decode prog_1_method_24_code 28 = .ok (.aload_n 1, 1) := by decide +kernel
theorem dX_writeBytes_29 : decode prog_1_method_24_code 29 = .ok (.getfield 108, 3) := by decide +kernel
theorem dX_writeBytes_32 : decode prog_1_method_24_code 32 = .ok (.bipush 8, 2) := by decide +kernel
theorem dX_writeBytes_34 : decode prog_1_method_24_code 34 = .ok (.iload_n 2, 1) := by decide +kernel
theorem dX_writeBytes_35 : decode prog_1_method_24_code 35 = .ok (.imul, 1) := by decide +kernel
theorem dX_writeBytes_36 : decode prog_1_method_24_code 36 = .ok (.lshr, 1) := by decide +kernel
theorem dX_writeBytes_37 : decode prog_1_method_24_code 37 = .ok (.l2i, 1) := by decide +kernel
theorem dX_writeBytes_38 : decode prog_1_method_24_code 38 = .ok (.i2b, 1) := by decide +kernel
theorem dX_writeBytes_39 : decode prog_1_method_24_code 39 = .ok (.bastore, 1) := by decide +kernel
theorem dX_writeBytes_40 : decode prog_1_method_24_code 40 = .ok (.iinc 2 1, 3) := by decide +kernel
theorem dX_writeBytes_43 : decode prog_1_method_24_code 43 = .ok (.goto (-41), 3) := by decide +kernel
theorem dX_writeBytes_46 : decode prog_1_method_24_code 46 = .ok (.return_, 1) := by decide +kernel
theorem dX_moveRequests_0 : decode prog_1_method_25_code 0 = .ok (.iconst 0, 1) := by decide +kernel
theorem dX_moveRequests_1 : decode prog_1_method_25_code 1 = .ok (.istore_n 1, 1) := by decide +kernel
theorem dX_moveRequests_2 : decode prog_1_method_25_code 2 = .ok (.iconst 0, 1) := by decide +kernel
theorem dX_moveRequests_3 : decode prog_1_method_25_code 3 = .ok (.istore_n 2, 1) := by decide +kernel
theorem dX_moveRequests_4 : decode prog_1_method_25_code 4 = .ok (.iload_n 2, 1) := by decide +kernel
theorem dX_moveRequests_5 : decode prog_1_method_25_code 5 = .ok (.iconst 4, 1) := by decide +kernel
theorem dX_moveRequests_6 : decode prog_1_method_25_code 6 = .ok (.if_icmp .ge 28, 3) := by decide +kernel
theorem dX_moveRequests_9 : decode prog_1_method_25_code 9 = .ok (.aload_n 0, 1) := by decide +kernel
theorem dX_moveRequests_10 : decode prog_1_method_25_code 10 = .ok (.iload_n 2, 1) := by decide +kernel
theorem dX_moveRequests_11 : decode prog_1_method_25_code 11 = .ok (.invokevirtual 227, 3) := by decide +kernel
theorem dX_moveRequests_14 : decode prog_1_method_25_code 14 = .ok (.istore_n 3, 1) := by decide +kernel
theorem dX_moveRequests_15 : decode prog_1_method_25_code 15 = .ok (.iload_n 3, 1) := by decide +kernel
theorem dX_moveRequests_16 : decode prog_1_method_25_code 16 = .ok (.iconst (-1), 1) := by decide +kernel
theorem dX_moveRequests_17 : decode prog_1_method_25_code 17 = .ok (.if_icmp .eq 11, 3) := by decide +kernel
theorem dX_moveRequests_20 : decode prog_1_method_25_code 20 = .ok (.aload_n 0, 1) := by decide +kernel
theorem dX_moveRequests_21 : decode prog_1_method_25_code 21 = .ok (.iload_n 3, 1) := by decide +kernel
theorem dX_moveRequests_22 : decode prog_1_method_25_code 22 = .ok (.iload_n 2, 1) := by decide +kernel
theorem dX_moveRequests_23 : decode prog_1_method_25_code 23 = .ok (.invokevirtual 230, 3) := by decide +kernel
theorem dX_moveRequests_26 : decode prog_1_method_25_code 26 = .ok (.iconst 1, 1) := by decide +kernel
theorem dX_moveRequests_27 : decode prog_1_method_25_code 27 = .ok (.istore_n 1, 1) := by decide +kernel
theorem dX_moveRequests_28 : decode prog_1_method_25_code 28 = .ok (.iinc 2 1, 3) := by decide +kernel
theorem dX_moveRequests_31 : decode prog_1_method_25_code 31 = .ok (.goto (-27), 3) := by decide +kernel
theorem dX_moveRequests_34 : decode prog_1_method_25_code 34 = .ok (.iload_n 1, 1) := by decide +kernel
theorem dX_moveRequests_35 : decode prog_1_method_25_code 35 = .ok (.ireturn, 1) := by decide +kernel
theorem dX_nextRequestingMaster_0 : decode prog_1_method_26_code 0 = .ok (.aload_n 0, 1) := by decide +kernel
theorem dX_nextRequestingMaster_1 : decode prog_1_method_26_code 1 = .ok (.getfield 18, 3) := by decide +kernel
theorem dX_nextRequestingMaster_4 : decode prog_1_method_26_code 4 = .ok (.iload_n 1, 1) := by decide +kernel
theorem dX_nextRequestingMaster_5 : decode prog_1_method_26_code 5 = .ok (.aaload, 1) := by decide +kernel
theorem dX_nextRequestingMaster_6 : decode prog_1_method_26_code 6 = .ok (.invokevirtual 233, 3) := by decide +kernel
theorem dX_nextRequestingMaster_9 : decode prog_1_method_26_code 9 = .ok (.ifCond .ne 5, 3) := by decide +kernel
theorem dX_nextRequestingMaster_12 : decode prog_1_method_26_code 12 = .ok (.iconst (-1), 1) := by decide +kernel
theorem dX_nextRequestingMaster_13 : decode prog_1_method_26_code 13 = .ok (.ireturn, 1) := by decide +kernel
theorem dX_nextRequestingMaster_14 : decode prog_1_method_26_code 14 = .ok (.iconst 1, 1) := by decide +kernel
theorem dX_nextRequestingMaster_15 : decode prog_1_method_26_code 15 = .ok (.istore_n 2, 1) := by decide +kernel
theorem dX_nextRequestingMaster_16 : decode prog_1_method_26_code 16 = .ok (.iload_n 2, 1) := by decide +kernel
theorem dX_nextRequestingMaster_17 : decode prog_1_method_26_code 17 = .ok (.iconst 3, 1) := by decide +kernel
theorem dX_nextRequestingMaster_18 : decode prog_1_method_26_code 18 = .ok (.if_icmp .gt 60, 3) := by decide +kernel
theorem dX_nextRequestingMaster_21 : decode prog_1_method_26_code 21 = .ok (.aload_n 0, 1) := by decide +kernel
theorem dX_nextRequestingMaster_22 : decode prog_1_method_26_code 22 = .ok (.getfield 18, 3) := by decide +kernel
theorem dX_nextRequestingMaster_25 : decode prog_1_method_26_code 25 = .ok (.iload_n 1, 1) := by decide +kernel
theorem dX_nextRequestingMaster_26 : decode prog_1_method_26_code 26 = .ok (.aaload, 1) := by decide +kernel
theorem dX_nextRequestingMaster_27 : decode prog_1_method_26_code 27 = .ok (.getfield 236, 3) := by decide +kernel
theorem dX_nextRequestingMaster_30 : decode prog_1_method_26_code 30 = .ok (.iload_n 2, 1) := by decide +kernel
theorem dX_nextRequestingMaster_31 : decode prog_1_method_26_code 31 = .ok (.iconst 3, 1) := by decide +kernel
theorem dX_nextRequestingMaster_32 : decode prog_1_method_26_code 32 = .ok (.invokestatic 166, 3) := by decide +kernel
theorem dX_nextRequestingMaster_35 : decode prog_1_method_26_code 35 = .ok (.istore_n 3, 1) := by decide +kernel
theorem dX_nextRequestingMaster_36 : decode prog_1_method_26_code 36 = .ok (.aload_n 0, 1) := by decide +kernel
theorem dX_nextRequestingMaster_37 : decode prog_1_method_26_code 37 = .ok (.getfield 11, 3) := by decide +kernel
theorem dX_nextRequestingMaster_40 : decode prog_1_method_26_code 40 = .ok (.iload_n 3, 1) := by decide +kernel
theorem dX_nextRequestingMaster_41 : decode prog_1_method_26_code 41 = .ok (.aaload, 1) := by decide +kernel
theorem dX_nextRequestingMaster_42 : decode prog_1_method_26_code 42 = .ok (.getfield 59, 3) := by decide +kernel
theorem dX_nextRequestingMaster_45 : decode prog_1_method_26_code 45 = .ok (.invokevirtual 170, 3) := by decide +kernel
theorem dX_nextRequestingMaster_48 : decode prog_1_method_26_code 48 = .ok (.istore 4, 2) := by decide +kernel
theorem dX_nextRequestingMaster_50 : decode prog_1_method_26_code 50 = .ok (.iload 4, 2) := by decide +kernel
theorem dX_nextRequestingMaster_52 : decode prog_1_method_26_code 52 = .ok (.iconst (-1), 1) := by decide +kernel
theorem dX_nextRequestingMaster_53 : decode prog_1_method_26_code 53 = .ok (.if_icmp .eq 19, 3) := by decide +kernel
theorem dX_nextRequestingMaster_56 : decode prog_1_method_26_code 56 = .ok (.aload_n 0, 1) := by decide +kernel
theorem dX_nextRequestingMaster_57 : decode prog_1_method_26_code 57 = .ok (.getfield 25, 3) := by decide +kernel
theorem dX_nextRequestingMaster_60 : decode prog_1_method_26_code 60 = .ok (.iload 4, 2) := by decide +kernel
theorem dX_nextRequestingMaster_62 : decode prog_1_method_26_code 62 = .ok (.aaload, 1) := by decide +kernel
theorem dX_nextRequestingMaster_63 : decode prog_1_method_26_code 63 = .ok (.iload_n 1, 1) := by decide +kernel
theorem dX_nextRequestingMaster_64 : decode prog_1_method_26_code 64 = .ok (.invokevirtual 239, 3) := by decide +kernel
theorem dX_nextRequestingMaster_67 : decode prog_1_method_26_code 67 = .ok (.ifCond .eq 5, 3) := by decide +kernel
theorem dX_nextRequestingMaster_70 : decode prog_1_method_26_code 70 = .ok (.iload_n 3, 1) := by decide +kernel
theorem dX_nextRequestingMaster_71 : decode prog_1_method_26_code 71 = .ok (.ireturn, 1) := by decide +kernel
theorem dX_nextRequestingMaster_72 : decode prog_1_method_26_code 72 = .ok (.iinc 2 1, 3) := by decide +kernel
theorem dX_nextRequestingMaster_75 : decode prog_1_method_26_code 75 = .ok (.goto (-59), 3) := by decide +kernel
theorem dX_nextRequestingMaster_78 : decode prog_1_method_26_code 78 = .ok (.iconst (-1), 1) := by decide +kernel
theorem dX_nextRequestingMaster_79 : decode prog_1_method_26_code 79 = .ok (.ireturn, 1) := by decide +kernel
theorem dX_moveRequest_0 : decode prog_1_method_27_code 0 = .ok (.aload_n 0, 1) := by decide +kernel
theorem dX_moveRequest_1 : decode prog_1_method_27_code 1 = .ok (.getfield 11, 3) := by decide +kernel
theorem dX_moveRequest_4 : decode prog_1_method_27_code 4 = .ok (.iload_n 1, 1) := by decide +kernel
theorem dX_moveRequest_5 : decode prog_1_method_27_code 5 = .ok (.aaload, 1) := by decide +kernel
theorem dX_moveRequest_6 : decode prog_1_method_27_code 6 = .ok (.getfield 59, 3) := by decide +kernel
theorem dX_moveRequest_9 : decode prog_1_method_27_code 9 = .ok (.invokevirtual 100, 3) := by decide +kernel
theorem dX_moveRequest_12 : decode prog_1_method_27_code 12 = .ok (.istore_n 3, 1) := by decide +kernel
theorem dX_moveRequest_13 : decode prog_1_method_27_code 13 = .ok (.aload_n 0, 1) := by decide +kernel
theorem dX_moveRequest_14 : decode prog_1_method_27_code 14 = .ok (.getfield 18, 3) := by decide +kernel
theorem dX_moveRequest_17 : decode prog_1_method_27_code 17 = .ok (.iload_n 2, 1) := by decide +kernel
theorem dX_moveRequest_18 : decode prog_1_method_27_code 18 = .ok (.aaload, 1) := by decide +kernel
theorem dX_moveRequest_19 : decode prog_1_method_27_code 19 = .ok (.iload_n 3, 1) := by decide +kernel
theorem dX_moveRequest_20 : decode prog_1_method_27_code 20 = .ok (.invokevirtual 242, 3) := by decide +kernel
theorem dX_moveRequest_23 : decode prog_1_method_27_code 23 = .ok (.aload_n 0, 1) := by decide +kernel
theorem dX_moveRequest_24 : decode prog_1_method_27_code 24 = .ok (.getfield 18, 3) := by decide +kernel
theorem dX_moveRequest_27 : decode prog_1_method_27_code 27 = .ok (.iload_n 2, 1) := by decide +kernel
theorem dX_moveRequest_28 : decode prog_1_method_27_code 28 = .ok (.aaload, 1) := by decide +kernel
theorem dX_moveRequest_29 : decode prog_1_method_27_code 29 = .ok (.getfield 120, 3) := by decide +kernel
theorem dX_moveRequest_32 : decode prog_1_method_27_code 32 = .ok (.iload_n 3, 1) := by decide +kernel
theorem dX_moveRequest_33 : decode prog_1_method_27_code 33 = .ok (.invokevirtual 73, 3) := by decide +kernel
theorem dX_moveRequest_36 : decode prog_1_method_27_code 36 = .ok (.aload_n 0, 1) := by decide +kernel
theorem dX_moveRequest_37 : decode prog_1_method_27_code 37 = .ok (.getfield 18, 3) := by decide +kernel
theorem dX_moveRequest_40 : decode prog_1_method_27_code 40 = .ok (.iload_n 2, 1) := by decide +kernel
theorem dX_moveRequest_41 : decode prog_1_method_27_code 41 = .ok (.aaload, 1) := by decide +kernel
theorem dX_moveRequest_42 : decode prog_1_method_27_code 42 = .ok (.iload_n 1, 1) := by decide +kernel
theorem dX_moveRequest_43 : decode prog_1_method_27_code 43 = .ok (.putfield 236, 3) := by decide +kernel
theorem dX_moveRequest_46 : decode prog_1_method_27_code 46 = .ok (.aload_n 0, 1) := by decide +kernel
theorem dX_moveRequest_47 : decode prog_1_method_27_code 47 = .ok (.getfield 38, 3) := by decide +kernel
theorem dX_moveRequest_50 : decode prog_1_method_27_code 50 = .ok (.iconst 2, 1) := by decide +kernel
theorem dX_moveRequest_51 : decode prog_1_method_27_code 51 = .ok (.dup2, 1) := by decide +kernel
theorem dX_moveRequest_52 : decode prog_1_method_27_code 52 = .ok (.iaload, 1) := by decide +kernel
theorem dX_moveRequest_53 : decode prog_1_method_27_code 53 = .ok (.iconst 1, 1) := by decide +kernel
theorem dX_moveRequest_54 : decode prog_1_method_27_code 54 = .ok (.iadd, 1) := by decide +kernel
theorem dX_moveRequest_55 : decode prog_1_method_27_code 55 = .ok (.iastore, 1) := by decide +kernel
theorem dX_moveRequest_56 : decode prog_1_method_27_code 56 = .ok (.return_, 1) := by decide +kernel
theorem dX_isBelow_0 : decode prog_1_method_28_code 0 = .ok (.iload_n 0, 1) := by decide +kernel
theorem dX_isBelow_1 : decode prog_1_method_28_code 1 = .ok (.ifCond .lt 12, 3) := by decide +kernel
theorem dX_isBelow_4 : decode prog_1_method_28_code 4 = .ok (.iload_n 0, 1) := by decide +kernel
theorem dX_isBelow_5 : decode prog_1_method_28_code 5 = .ok (.iload_n 1, 1) := by decide +kernel
theorem dX_isBelow_6 : decode prog_1_method_28_code 6 = .ok (.if_icmp .ge 7, 3) := by decide +kernel
theorem dX_isBelow_9 : decode prog_1_method_28_code 9 = .ok (.iconst 1, 1) := by decide +kernel
theorem dX_isBelow_10 : decode prog_1_method_28_code 10 = .ok (.goto 4, 3) := by decide +kernel
theorem dX_isBelow_13 : decode prog_1_method_28_code 13 = .ok (.iconst 0, 1) := by decide +kernel
theorem dX_isBelow_14 : decode prog_1_method_28_code 14 = .ok (.ireturn, 1) := by decide +kernel
theorem dX_isAligned_0 : decode prog_1_method_29_code 0 = .ok (.iload_n 1, 1) := by decide +kernel
theorem dX_isAligned_1 : decode prog_1_method_29_code 1 = .ok (.iconst 4, 1) := by decide +kernel
theorem dX_isAligned_2 : decode prog_1_method_29_code 2 = .ok (.invokestatic 45, 3) := by decide +kernel
theorem dX_isAligned_5 : decode prog_1_method_29_code 5 = .ok (.ifCond .eq 27, 3) := by decide +kernel
theorem dX_isAligned_8 : decode prog_1_method_29_code 8 = .ok (.iload_n 0, 1) := by decide +kernel
theorem dX_isAligned_9 : decode prog_1_method_29_code 9 = .ok (.sipush 1024, 3) := by decide +kernel
theorem dX_isAligned_12 : decode prog_1_method_29_code 12 = .ok (.invokestatic 45, 3) := by decide +kernel
theorem dX_isAligned_15 : decode prog_1_method_29_code 15 = .ok (.ifCond .eq 17, 3) := by decide +kernel
theorem dX_isAligned_18 : decode prog_1_method_29_code 18 = .ok (.iload_n 0, 1) := by decide +kernel
theorem dX_isAligned_19 : decode prog_1_method_29_code 19 = .ok (.iconst 1, 1) := by decide +kernel
theorem dX_isAligned_20 : decode prog_1_method_29_code 20 = .ok (.iload_n 1, 1) := by decide +kernel
theorem dX_isAligned_21 : decode prog_1_method_29_code 21 = .ok (.ishl, 1) := by decide +kernel
theorem dX_isAligned_22 : decode prog_1_method_29_code 22 = .ok (.iconst 1, 1) := by decide +kernel
theorem dX_isAligned_23 : decode prog_1_method_29_code 23 = .ok (.isub, 1) := by decide +kernel
theorem dX_isAligned_24 : decode prog_1_method_29_code 24 = .ok (.iand, 1) := by decide +kernel
theorem dX_isAligned_25 : decode prog_1_method_29_code 25 = .ok (.ifCond .ne 7, 3) := by decide +kernel
theorem dX_isAligned_28 : decode prog_1_method_29_code 28 = .ok (.iconst 1, 1) := by decide +kernel
theorem dX_isAligned_29 : decode prog_1_method_29_code 29 = .ok (.goto 4, 3) := by decide +kernel
theorem dX_isAligned_32 : decode prog_1_method_29_code 32 = .ok (.iconst 0, 1) := by decide +kernel
theorem dX_isAligned_33 : decode prog_1_method_29_code 33 = .ok (.ireturn, 1) := by decide +kernel
theorem dX_masterOf_0 : decode prog_1_method_30_code 0 = .ok (.iload_n 0, 1) := by decide +kernel
theorem dX_masterOf_1 : decode prog_1_method_30_code 1 = .ok (.iconst 3, 1) := by decide +kernel
theorem dX_masterOf_2 : decode prog_1_method_30_code 2 = .ok (.ishr, 1) := by decide +kernel
theorem dX_masterOf_3 : decode prog_1_method_30_code 3 = .ok (.ireturn, 1) := by decide +kernel
theorem dX_sourceOf_0 : decode prog_1_method_31_code 0 = .ok (.iload_n 0, 1) := by decide +kernel
theorem dX_sourceOf_1 : decode prog_1_method_31_code 1 = .ok (.bipush 7, 2) := by decide +kernel
theorem dX_sourceOf_3 : decode prog_1_method_31_code 3 = .ok (.iand, 1) := by decide +kernel
theorem dX_sourceOf_4 : decode prog_1_method_31_code 4 = .ok (.ireturn, 1) := by decide +kernel
theorem dX_logPlace_0 : decode prog_1_method_32_code 0 = .ok (.iload_n 0, 1) := by decide +kernel
theorem dX_logPlace_1 : decode prog_1_method_32_code 1 = .ok (.bipush 31, 2) := by decide +kernel
theorem dX_logPlace_3 : decode prog_1_method_32_code 3 = .ok (.iand, 1) := by decide +kernel
theorem dX_logPlace_4 : decode prog_1_method_32_code 4 = .ok (.ireturn, 1) := by decide +kernel
theorem dX_stepBehind_0 : decode prog_1_method_33_code 0 = .ok (.iload_n 0, 1) := by decide +kernel
theorem dX_stepBehind_1 : decode prog_1_method_33_code 1 = .ok (.iload_n 1, 1) := by decide +kernel
theorem dX_stepBehind_2 : decode prog_1_method_33_code 2 = .ok (.iadd, 1) := by decide +kernel
theorem dX_stepBehind_3 : decode prog_1_method_33_code 3 = .ok (.istore_n 3, 1) := by decide +kernel
theorem dX_stepBehind_4 : decode prog_1_method_33_code 4 = .ok (.iload_n 3, 1) := by decide +kernel
theorem dX_stepBehind_5 : decode prog_1_method_33_code 5 = .ok (.iload_n 2, 1) := by decide +kernel
theorem dX_stepBehind_6 : decode prog_1_method_33_code 6 = .ok (.if_icmp .lt 9, 3) := by decide +kernel
theorem dX_stepBehind_9 : decode prog_1_method_33_code 9 = .ok (.iload_n 3, 1) := by decide +kernel
theorem dX_stepBehind_10 : decode prog_1_method_33_code 10 = .ok (.iload_n 2, 1) := by decide +kernel
theorem dX_stepBehind_11 : decode prog_1_method_33_code 11 = .ok (.isub, 1) := by decide +kernel
theorem dX_stepBehind_12 : decode prog_1_method_33_code 12 = .ok (.goto 4, 3) := by decide +kernel
theorem dX_stepBehind_15 : decode prog_1_method_33_code 15 = .ok (.iload_n 3, 1) := by decide +kernel
theorem dX_stepBehind_16 : decode prog_1_method_33_code 16 = .ok (.ireturn, 1) := by decide +kernel
end
section
/-! lines: isFull, first, append, removeFirst -/
theorem cx_sh_0 {σ : Nat → Nat → Int32} {l : Nat} : cx_sh σ l 0 = σ := by
  funext j k
  unfold cx_sh
  rw [if_neg (by omega)]
theorem cx_sh_1 {σ : Nat → Nat → Int32} {l i : Nat} {v : Int32} : cx_sh (cx_up σ l 1 v) l i l 1 = v := by
  unfold cx_sh
  rw [if_neg (by omega)]
  exact cx_up_s
theorem cx_sh_r {σ : Nat → Nat → Int32} {l i : Nat} {v : Int32} : cx_sh (cx_up σ l 1 v) l i (l + 1) (i + 1) = σ (l + 1) (i + 1) := by
  unfold cx_sh
  rw [if_neg (by omega)]
  exact cx_up_j (by omega)
theorem cx_sh_s {σ : Nat → Nat → Int32} {l i : Nat} {v : Int32} : cx_up (cx_sh (cx_up σ l 1 v) l i) (l + 1) i (σ (l + 1) (i + 1)) = cx_sh (cx_up σ l 1 v) l (i + 1) := by
  funext j k
  unfold cx_up cx_sh
  by_cases hj : j = l + 1
  · subst hj
    by_cases hk : k = i
    · subst hk
      simp
    · by_cases h2 : k < i
      · simp [hk, h2, Nat.lt_succ_of_lt h2]
      · have h3 : ¬ k < i + 1 := by omega
        simp [hk, h2, h3]
  · simp [hj]

set_option maxHeartbeats 4000000 in
set_option maxRecDepth 100000 in
theorem k_L_isFull (l : Launch) {D : va_G} {K : Nat → ClassId} {ad : Nat → Nat} {σ : Nat → Nat → Int32} {τ : Nat → Nat → Int64} {lj r n : Nat} (hj : cx_isL lj r) (hn : σ lj 1 = nI n) (hnr : n ≤ r) : Met l yL_isFull (Cond.code yL_isFull prog_2_method_2_code 1 (some .boolean) :: mx_T) { frames := 0, cells := 0, slots := 0, locals := 0 } (va_Pc [.ref (ad lj)] (cx_P D K ad σ τ)) (cx_Qi D K ad (fun rr u => rr = (if r ≤ n then nI 1 else nI 0) ∧ u = (σ, τ))) 0 0 (gx_A ad 70) := by
  refine gx_met (by decide) rfl (Nat.le_of_ble_eq_true rfl) ?_
  intro pg ev s mid as below mth c ls hx hb hr hml ht hown hlk hnm hargs hB hl
  obtain ⟨hV, hZ⟩ := hB
  have hS : va_S (gx_A ad 70) s.heap s.heap [] := va_S.rf
  have hl : lv_has ls 1 [(0, .ref (ad lj))] := hl
  have hlt := hj.lt
  refine lv_aload_n hx hb dL_isFull_0 rfl (lv_at hl 0 rfl) ?_
  refine gx_get (C := mR_L) (T := mT_L) (N' := 2) (v := .int (nI n)) hx hb ht mh_L hown hV (hj).lt.1 (cx_E_L hj).1 rfl 1 (by decide) (ht _ mw_35) (fun _ h => h) (congrArg (fun z => some (Value.int z)) hn) dL_isFull_1 ?_
  refine lv_aload_n hx hb dL_isFull_4 rfl (lv_at hl 0 rfl) ?_
  refine gx_get (C := mR_L) (T := mT_L) (N' := 2) hx hb ht mh_L hown hV (hj).lt.1 (cx_E_L hj).1 rfl 0 (by decide) (ht _ mw_34) (fun _ h => h) rfl dL_isFull_5 ?_
  refine gx_alen (v := nI r) hx hb hV (hj).lt.2.1 0 (cx_E_L hj).2 rfl rfl dL_isFull_8 ?_
  refine gx_icmp_lt (a := n) (b := r) (tgt := 16) hx hb dL_isFull_9 (by decide) (by omega) (by omega) (fun h9 => ?_) (fun h9 => ?_)
  · refine lv_iconst (v := nI 0) hx hb dL_isFull_16 (by decide) ?_
    exact gx_zret hx hb hr rfl hV hS ⟨(if_neg (by omega)).symm, rfl⟩ dL_isFull_17 hlk
  · refine lv_iconst (v := nI 1) hx hb dL_isFull_12 (by decide) ?_
    refine lv_goto (tgt := 17) hx hb dL_isFull_13 (by decide) ?_
    exact gx_zret hx hb hr rfl hV hS ⟨(if_pos (by omega)).symm, rfl⟩ dL_isFull_17 hlk

set_option maxHeartbeats 4000000 in
set_option maxRecDepth 100000 in
theorem k_L_first (l : Launch) {D : va_G} {K : Nat → ClassId} {ad : Nat → Nat} {σ : Nat → Nat → Int32} {τ : Nat → Nat → Int64} {lj r n : Nat} (hj : cx_isL lj r) (hn : σ lj 1 = nI n) (hnr : n ≤ r) : Met l yL_first (Cond.code yL_first prog_2_method_3_code 1 (some .int) :: mx_T) { frames := 0, cells := 0, slots := 0, locals := 0 } (va_Pc [.ref (ad lj)] (cx_P D K ad σ τ)) (cx_Qi D K ad (fun rr u => rr = (if n = 0 then -1 else σ (lj + 1) 0) ∧ u = (σ, τ))) 0 0 (gx_A ad 70) := by
  refine gx_met (by decide) rfl (Nat.le_of_ble_eq_true rfl) ?_
  intro pg ev s mid as below mth c ls hx hb hr hml ht hown hlk hnm hargs hB hl
  obtain ⟨hV, hZ⟩ := hB
  have hS : va_S (gx_A ad 70) s.heap s.heap [] := va_S.rf
  have hl : lv_has ls 1 [(0, .ref (ad lj))] := hl
  have hlt := hj.lt
  refine lv_aload_n hx hb dL_first_0 rfl (lv_at hl 0 rfl) ?_
  refine gx_get (C := mR_L) (T := mT_L) (N' := 2) (v := .int (nI n)) hx hb ht mh_L hown hV (hj).lt.1 (cx_E_L hj).1 rfl 1 (by decide) (ht _ mw_35) (fun _ h => h) (congrArg (fun z => some (Value.int z)) hn) dL_first_1 ?_
  refine gx_if_ne (a := n) (tgt := 11) hx hb dL_first_4 (by decide) (by omega) (fun h4 => ?_) (fun h4 => ?_)
  · refine lv_aload_n hx hb dL_first_11 rfl (lv_at hl 0 rfl) ?_
    refine gx_get (C := mR_L) (T := mT_L) (N' := 2) hx hb ht mh_L hown hV (hj).lt.1 (cx_E_L hj).1 rfl 0 (by decide) (ht _ mw_34) (fun _ h => h) rfl dL_first_12 ?_
    refine lv_iconst (v := nI 0) hx hb dL_first_15 (by decide) ?_
    refine gx_iald hx hb hV (hj).lt.2.1 0 (cx_E_L hj).2 rfl 0 (by omega) (by have := (hj).lt; omega) rfl dL_first_16 ?_
    exact gx_iret hx hb hr hV hS ⟨(if_neg h4).symm, rfl⟩ dL_first_17 hlk
  · refine lv_iconst (v := -1) hx hb dL_first_7 (by decide) ?_
    refine lv_goto (tgt := 17) hx hb dL_first_8 (by decide) ?_
    exact gx_iret hx hb hr hV hS ⟨(if_pos h4).symm, rfl⟩ dL_first_17 hlk

set_option maxHeartbeats 4000000 in
set_option maxRecDepth 100000 in
theorem k_L_append (l : Launch) {D : va_G} {K : Nat → ClassId} {ad : Nat → Nat} {σ : Nat → Nat → Int32} {τ : Nat → Nat → Int64} {lj r n : Nat} {key : Int32} (hj : cx_isL lj r) (hn : σ lj 1 = nI n) (hnr : n < r) : Met l yL_append (Cond.code yL_append prog_2_method_4_code 2 none :: mx_T) { frames := 0, cells := 0, slots := 0, locals := 0 } (va_Pc [.ref (ad lj), .int key] (cx_P D K ad σ τ)) (cx_Qv D K ad (fun u => u = (cx_app σ lj n key, τ))) 0 0 (gx_A ad 70) := by
  refine gx_met (by decide) rfl (Nat.le_of_ble_eq_true rfl) ?_
  intro pg ev s mid as below mth c ls hx hb hr hml ht hown hlk hnm hargs hB hl
  obtain ⟨hV, hZ⟩ := hB
  have hS : va_S (gx_A ad 70) s.heap s.heap [] := va_S.rf
  have hl : lv_has ls 2 [(0, .ref (ad lj)), (1, .int key)] := hl
  have hlt := hj.lt
  refine lv_aload_n hx hb dL_append_0 rfl (lv_at hl 0 rfl) ?_
  refine gx_get (C := mR_L) (T := mT_L) (N' := 2) (v := .int (nI n)) hx hb ht mh_L hown hV (hj).lt.1 (cx_E_L hj).1 rfl 1 (by decide) (ht _ mw_35) (fun _ h => h) (congrArg (fun z => some (Value.int z)) hn) dL_append_1 ?_
  refine lv_aload_n hx hb dL_append_4 rfl (lv_at hl 0 rfl) ?_
  refine gx_get (C := mR_L) (T := mT_L) (N' := 2) hx hb ht mh_L hown hV (hj).lt.1 (cx_E_L hj).1 rfl 0 (by decide) (ht _ mw_34) (fun _ h => h) rfl dL_append_5 ?_
  refine gx_alen (v := nI r) hx hb hV (hj).lt.2.1 0 (cx_E_L hj).2 rfl rfl dL_append_8 ?_
  refine gx_icmp_ge (a := n) (b := r) (tgt := 32) hx hb dL_append_9 (by decide) (by omega) (by omega) (fun h9 => ?_) (fun h9 => ?_)
  · exact absurd hnr (by omega)
  · refine lv_aload_n hx hb dL_append_12 rfl (lv_at hl 0 rfl) ?_
    refine gx_get (C := mR_L) (T := mT_L) (N' := 2) hx hb ht mh_L hown hV (hj).lt.1 (cx_E_L hj).1 rfl 0 (by decide) (ht _ mw_34) (fun _ h => h) rfl dL_append_13 ?_
    refine lv_aload_n hx hb dL_append_16 rfl (lv_at hl 0 rfl) ?_
    refine gx_get (C := mR_L) (T := mT_L) (N' := 2) (v := .int (nI n)) hx hb ht mh_L hown hV (hj).lt.1 (cx_E_L hj).1 rfl 1 (by decide) (ht _ mw_35) (fun _ h => h) (congrArg (fun z => some (Value.int z)) hn) dL_append_17 ?_
    refine lv_iload_n hx hb dL_append_20 rfl (lv_at hl 1 rfl) ?_
    refine gx_iast cx_loc hx hb hV hS (hj).lt.2.1 0 (cx_E_L hj).2 rfl n hnr (by have := (hj).lt; omega) rfl dL_append_21 (cx_up σ (lj + 1) n key) (by rw [(cx_E_L hj).2, cx_up_upd]) (fun _ h => cx_up_J h) (fun H locs hV hS => ?_)
    refine lv_aload_n hx hb dL_append_22 rfl (lv_at hl 0 rfl) ?_
    refine lv_dup hx hb dL_append_23 rfl ?_
    refine gx_get (C := mR_L) (T := mT_L) (N' := 2) (v := .int (nI n)) hx hb ht mh_L hown hV (hj).lt.1 (cx_E_L hj).1 rfl 1 (by decide) (ht _ mw_35) (fun _ h => h) (congrArg (fun z => some (Value.int z)) ((cx_up_j (by omega)).trans hn)) dL_append_24 ?_
    refine lv_iconst (v := nI 1) hx hb dL_append_27 (by decide) ?_
    refine gx_iadd (a := n) (b := 1) hx hb dL_append_28 ?_
    refine gx_put cx_loc (C := mR_L) (T := mT_L) (N' := 2) (ty := .int) (v := .int (nI (n + 1))) hx hb ht mh_L mt_L mk_L mn_L hown hV hS (hj).lt.1 (cx_E_L hj).1 rfl 1 (by decide) (ht _ mw_35) (fun _ h => h) rfl (by decide +kernel) rfl rfl (Nat.le_of_ble_eq_true rfl) dL_append_29 (cx_up (cx_up σ (lj + 1) n key) lj 1 (nI (n + 1))) τ (by rw [(cx_E_L hj).1]; simp [cx_up, gx_upL]) (fun _ h => cx_up_J h) (fun _ _ => rfl) (fun H locs hV hS => ?_)
    exact gx_vret hx hb hr hV hS rfl dL_append_32 hlk

set_option maxHeartbeats 4000000 in
set_option maxRecDepth 100000 in
theorem k_L_removeFirst (l : Launch) {D : va_G} {K : Nat → ClassId} {ad : Nat → Nat} {σ : Nat → Nat → Int32} {τ : Nat → Nat → Int64} {lj r t : Nat} (hj : cx_isL lj r) (hn : σ lj 1 = nI (t + 1)) (hnr : t + 1 ≤ r) : Met l yL_removeFirst (Cond.code yL_removeFirst prog_2_method_5_code 3 (some .int) :: mx_T) { frames := 0, cells := 0, slots := 0, locals := 0 } (va_Pc [.ref (ad lj)] (cx_P D K ad σ τ)) (cx_Qi D K ad (fun rr u => rr = σ (lj + 1) 0 ∧ u = (cx_rem σ lj t, τ))) 0 0 (gx_A ad 70) := by
  refine gx_met (by decide) rfl (Nat.le_of_ble_eq_true rfl) ?_
  intro pg ev s mid as below mth c ls hx hb hr hml ht hown hlk hnm hargs hB hl
  obtain ⟨hV, hZ⟩ := hB
  have hS : va_S (gx_A ad 70) s.heap s.heap [] := va_S.rf
  have hl : lv_has ls 3 [(0, .ref (ad lj))] := hl
  have hlt := hj.lt
  refine lv_aload_n hx hb dL_removeFirst_0 rfl (lv_at hl 0 rfl) ?_
  refine gx_get (C := mR_L) (T := mT_L) (N' := 2) (v := .int (nI (t + 1))) hx hb ht mh_L hown hV (hj).lt.1 (cx_E_L hj).1 rfl 1 (by decide) (ht _ mw_35) (fun _ h => h) (congrArg (fun z => some (Value.int z)) hn) dL_removeFirst_1 ?_
  refine gx_if_ne (a := (t + 1)) (tgt := 9) hx hb dL_removeFirst_4 (by decide) (by omega) (fun h4 => ?_) (fun h4 => ?_)
  · refine lv_aload_n hx hb dL_removeFirst_9 rfl (lv_at hl 0 rfl) ?_
    refine gx_get (C := mR_L) (T := mT_L) (N' := 2) hx hb ht mh_L hown hV (hj).lt.1 (cx_E_L hj).1 rfl 0 (by decide) (ht _ mw_34) (fun _ h => h) rfl dL_removeFirst_10 ?_
    refine lv_iconst (v := nI 0) hx hb dL_removeFirst_13 (by decide) ?_
    refine gx_iald hx hb hV (hj).lt.2.1 0 (cx_E_L hj).2 rfl 0 (by omega) (by have := (hj).lt; omega) rfl dL_removeFirst_14 ?_
    refine lv_istore_n (lv' := [(1, .int (σ (lj + 1) 0)), (0, .ref (ad lj))]) hx hb dL_removeFirst_15 rfl hl (by decide) rfl (fun ls hl => ?_)
    refine lv_aload_n hx hb dL_removeFirst_16 rfl (lv_at hl 1 rfl) ?_
    refine lv_dup hx hb dL_removeFirst_17 rfl ?_
    refine gx_get (C := mR_L) (T := mT_L) (N' := 2) (v := .int (nI (t + 1))) hx hb ht mh_L hown hV (hj).lt.1 (cx_E_L hj).1 rfl 1 (by decide) (ht _ mw_35) (fun _ h => h) (congrArg (fun z => some (Value.int z)) hn) dL_removeFirst_18 ?_
    refine lv_iconst (v := nI 1) hx hb dL_removeFirst_21 (by decide) ?_
    refine gx_isub (a := (t + 1)) (b := 1) hx hb dL_removeFirst_22 (by omega) ?_
    refine gx_put cx_loc (C := mR_L) (T := mT_L) (N' := 2) (ty := .int) (v := .int (nI t)) hx hb ht mh_L mt_L mk_L mn_L hown hV hS (hj).lt.1 (cx_E_L hj).1 rfl 1 (by decide) (ht _ mw_35) (fun _ h => h) rfl (by decide +kernel) rfl rfl (Nat.le_of_ble_eq_true rfl) dL_removeFirst_23 (cx_up σ lj 1 (nI t)) τ (by rw [(cx_E_L hj).1]; simp [cx_up, gx_upL]) (fun _ h => cx_up_J h) (fun _ _ => rfl) (fun H locs hV hS => ?_)
    refine lv_iconst (v := nI 0) hx hb dL_removeFirst_26 (by decide) ?_
    refine lv_istore_n (lv' := [(2, .int (nI 0)), (1, .int (σ (lj + 1) 0)), (0, .ref (ad lj))]) hx hb dL_removeFirst_27 rfl hl (by decide) rfl (fun ls hl => ?_)
    have loop : ∀ (k : Nat) (i : Nat) (H : Heap) (locs : List Loc) (ls : Array Slot), i + k = t → gx_V D mx_cl (mx_tys K) (cx_E ad K) ad 70 (cx_sh (cx_up σ lj 1 (nI t)) lj i) (τ) s H → va_S (gx_A ad 70) s.heap H locs → lv_has ls 3 [(2, .int (nI i)), (1, .int (σ (lj + 1) 0)), (0, .ref (ad lj))] → W pg l ev (headSpec (Cond.code yL_removeFirst prog_2_method_5_code 3 (some .int) :: mx_T) { frames := 0, cells := 0, slots := 0, locals := 0 }).room s mid as below mth c H locs 0 0 (MQ below (cx_Qi D K ad (fun rr u => rr = σ (lj + 1) 0 ∧ u = (cx_rem σ lj t, τ))) as s 0 0 (gx_A ad 70)) (F0 mid 28 ls []) := by
      intro k
      induction k with
      | zero =>
        intro i H locs ls hk hV hS hl
        refine lv_iload_n hx hb dL_removeFirst_28 rfl (lv_at hl 0 rfl) ?_
        refine lv_aload_n hx hb dL_removeFirst_29 rfl (lv_at hl 2 rfl) ?_
        refine gx_get (C := mR_L) (T := mT_L) (N' := 2) (v := .int (nI t)) hx hb ht mh_L hown hV (hj).lt.1 (cx_E_L hj).1 rfl 1 (by decide) (ht _ mw_35) (fun _ h => h) (congrArg (fun z => some (Value.int z)) cx_sh_1) dL_removeFirst_30 ?_
        refine gx_icmp_ge (a := i) (b := t) (tgt := 56) hx hb dL_removeFirst_33 (by decide) (by omega) (by omega) (fun h33 => ?_) (fun h33 => ?_)
        · refine lv_iload_n hx hb dL_removeFirst_56 rfl (lv_at hl 1 rfl) ?_
          exact gx_iret hx hb hr hV hS ⟨rfl, by rw [show i = t by omega]; rfl⟩ dL_removeFirst_57 hlk
        · exact absurd h33 (by omega)
      | succ k ih =>
        intro i H locs ls hk hV hS hl
        refine lv_iload_n hx hb dL_removeFirst_28 rfl (lv_at hl 0 rfl) ?_
        refine lv_aload_n hx hb dL_removeFirst_29 rfl (lv_at hl 2 rfl) ?_
        refine gx_get (C := mR_L) (T := mT_L) (N' := 2) (v := .int (nI t)) hx hb ht mh_L hown hV (hj).lt.1 (cx_E_L hj).1 rfl 1 (by decide) (ht _ mw_35) (fun _ h => h) (congrArg (fun z => some (Value.int z)) cx_sh_1) dL_removeFirst_30 ?_
        refine gx_icmp_ge (a := i) (b := t) (tgt := 56) hx hb dL_removeFirst_33 (by decide) (by omega) (by omega) (fun h33 => ?_) (fun h33 => ?_)
        · exact absurd h33 (by omega)
        · refine lv_aload_n hx hb dL_removeFirst_36 rfl (lv_at hl 2 rfl) ?_
          refine gx_get (C := mR_L) (T := mT_L) (N' := 2) hx hb ht mh_L hown hV (hj).lt.1 (cx_E_L hj).1 rfl 0 (by decide) (ht _ mw_34) (fun _ h => h) rfl dL_removeFirst_37 ?_
          refine lv_iload_n hx hb dL_removeFirst_40 rfl (lv_at hl 0 rfl) ?_
          refine lv_aload_n hx hb dL_removeFirst_41 rfl (lv_at hl 2 rfl) ?_
          refine gx_get (C := mR_L) (T := mT_L) (N' := 2) hx hb ht mh_L hown hV (hj).lt.1 (cx_E_L hj).1 rfl 0 (by decide) (ht _ mw_34) (fun _ h => h) rfl dL_removeFirst_42 ?_
          refine lv_iload_n hx hb dL_removeFirst_45 rfl (lv_at hl 0 rfl) ?_
          refine lv_iconst (v := nI 1) hx hb dL_removeFirst_46 (by decide) ?_
          refine gx_iadd (a := i) (b := 1) hx hb dL_removeFirst_47 ?_
          refine gx_ialdv (v := σ (lj + 1) (i + 1)) hx hb hV (hj).lt.2.1 0 (cx_E_L hj).2 rfl (i + 1) (by omega) (by have := (hj).lt; omega) rfl cx_sh_r dL_removeFirst_48 ?_
          refine gx_iast cx_loc hx hb hV hS (hj).lt.2.1 0 (cx_E_L hj).2 rfl i (by omega) (by have := (hj).lt; omega) rfl dL_removeFirst_49 (cx_up (cx_sh (cx_up σ lj 1 (nI t)) lj i) (lj + 1) i (σ (lj + 1) (i + 1))) (by rw [(cx_E_L hj).2, cx_up_upd]) (fun _ h => cx_up_J h) (fun H locs hV hS => ?_)
          refine lv_iinc (k := 0) (v := (nI (i + 1))) (lv' := [(2, .int (nI (i + 1))), (1, .int (σ (lj + 1) 0)), (0, .ref (ad lj))]) hx hb dL_removeFirst_50 hl rfl (nI_succ i).symm (by decide) rfl (fun ls hl => ?_)
          refine lv_goto (tgt := 28) hx hb dL_removeFirst_53 (by decide) ?_
          exact ih (i + 1) H locs ls (by omega) (by rw [← cx_sh_s]; exact hV) hS hl
    exact loop t 0 H locs ls (by omega) (by rw [cx_sh_0]; exact hV) hS hl
  · exact absurd h4 (by omega)

set_option maxHeartbeats 4000000 in
set_option maxRecDepth 100000 in
theorem k_L_removeNone (l : Launch) {D : va_G} {K : Nat → ClassId} {ad : Nat → Nat} {σ : Nat → Nat → Int32} {τ : Nat → Nat → Int64} {lj r : Nat} (hj : cx_isL lj r) (hn : σ lj 1 = nI 0) : Met l yL_removeFirst (Cond.code yL_removeFirst prog_2_method_5_code 3 (some .int) :: mx_T) { frames := 0, cells := 0, slots := 0, locals := 0 } (va_Pc [.ref (ad lj)] (cx_P D K ad σ τ)) (cx_Qi D K ad (fun rr u => rr = -1 ∧ u = (σ, τ))) 0 0 (gx_A ad 70) := by
  refine gx_met (by decide) rfl (Nat.le_of_ble_eq_true rfl) ?_
  intro pg ev s mid as below mth c ls hx hb hr hml ht hown hlk hnm hargs hB hl
  obtain ⟨hV, hZ⟩ := hB
  have hS : va_S (gx_A ad 70) s.heap s.heap [] := va_S.rf
  have hl : lv_has ls 3 [(0, .ref (ad lj))] := hl
  have hlt := hj.lt
  refine lv_aload_n hx hb dL_removeFirst_0 rfl (lv_at hl 0 rfl) ?_
  refine gx_get (C := mR_L) (T := mT_L) (N' := 2) (v := .int (nI 0)) hx hb ht mh_L hown hV (hj).lt.1 (cx_E_L hj).1 rfl 1 (by decide) (ht _ mw_35) (fun _ h => h) (congrArg (fun z => some (Value.int z)) hn) dL_removeFirst_1 ?_
  refine gx_if_ne (a := 0) (tgt := 9) hx hb dL_removeFirst_4 (by decide) (by omega) (fun h4 => ?_) (fun h4 => ?_)
  · exact absurd rfl h4
  · refine lv_iconst (v := -1) hx hb dL_removeFirst_7 (by decide) ?_
    exact gx_iret hx hb hr hV hS ⟨rfl, rfl⟩ dL_removeFirst_8 hlk
end
section
/-! statics that only count -/

set_option maxHeartbeats 4000000 in
set_option maxRecDepth 100000 in
theorem k_X_isBelow (l : Launch) {a b : Int32} : Met l yX_isBelow (Cond.code yX_isBelow prog_1_method_28_code 2 (some .boolean) :: mx_T) { frames := 0, cells := 0, slots := 0, locals := 0 } (va_Pc [.int a, .int b] (fun _ => True)) (va_Qi (fun rr (_ : Unit) => rr = (if 0 ≤ a ∧ a < b then nI 1 else nI 0)) (fun _ _ => True) (fun _ => False)) 0 0 (fun _ => False) := by
  refine gx_met (by decide) rfl (Nat.le_of_ble_eq_true rfl) ?_
  intro pg ev s mid as below mth c ls hx hb hr hml ht hown hlk hnm hargs hB hl
  have hS : va_S (fun _ => False) s.heap s.heap [] := va_S.rf
  have hl : lv_has ls 2 [(0, .int a), (1, .int b)] := hl
  refine lv_iload_n hx hb dX_isBelow_0 rfl (lv_at hl 0 rfl) ?_
  refine lv_if_lt (tgt := 13) hx hb dX_isBelow_1 (by decide) (fun h1 => ?_) (fun h1 => ?_)
  · refine lv_iconst (v := nI 0) hx hb dX_isBelow_13 (by decide) ?_
    exact gx_pzret hx hb hr rfl hS (if_neg (fun q => Int32.not_le.mpr h1 q.1)).symm dX_isBelow_14 hlk
  · refine lv_iload_n hx hb dX_isBelow_4 rfl (lv_at hl 0 rfl) ?_
    refine lv_iload_n hx hb dX_isBelow_5 rfl (lv_at hl 1 rfl) ?_
    refine lv_icmp_ge (tgt := 13) hx hb dX_isBelow_6 (by decide) (fun h6 => ?_) (fun h6 => ?_)
    · refine lv_iconst (v := nI 0) hx hb dX_isBelow_13 (by decide) ?_
      exact gx_pzret hx hb hr rfl hS (if_neg (fun q => Int32.not_le.mpr q.2 h6)).symm dX_isBelow_14 hlk
    · refine lv_iconst (v := nI 1) hx hb dX_isBelow_9 (by decide) ?_
      refine lv_goto (tgt := 14) hx hb dX_isBelow_10 (by decide) ?_
      exact gx_pzret hx hb hr rfl hS (if_pos ⟨Int32.not_lt.mp h1, Int32.not_le.mp h6⟩).symm dX_isBelow_14 hlk

set_option maxHeartbeats 4000000 in
set_option maxRecDepth 100000 in
theorem k_X_masterOf (l : Launch) {a : Int32} : Met l yX_masterOf (Cond.code yX_masterOf prog_1_method_30_code 1 (some .int) :: mx_T) { frames := 0, cells := 0, slots := 0, locals := 0 } (va_Pc [.int a] (fun _ => True)) (va_Qi (fun rr (_ : Unit) => rr = a >>> (nI 3 &&& 31)) (fun _ _ => True) (fun _ => False)) 0 0 (fun _ => False) := by
  refine gx_met (by decide) rfl (Nat.le_of_ble_eq_true rfl) ?_
  intro pg ev s mid as below mth c ls hx hb hr hml ht hown hlk hnm hargs hB hl
  have hS : va_S (fun _ => False) s.heap s.heap [] := va_S.rf
  have hl : lv_has ls 1 [(0, .int a)] := hl
  refine lv_iload_n hx hb dX_masterOf_0 rfl (lv_at hl 0 rfl) ?_
  refine lv_iconst (v := nI 3) hx hb dX_masterOf_1 (by decide) ?_
  refine lv_ishr hx hb dX_masterOf_2 ?_
  exact gx_pret hx hb hr hS rfl dX_masterOf_3 hlk

set_option maxHeartbeats 4000000 in
set_option maxRecDepth 100000 in
theorem k_X_sourceOf (l : Launch) {a : Int32} : Met l yX_sourceOf (Cond.code yX_sourceOf prog_1_method_31_code 1 (some .int) :: mx_T) { frames := 0, cells := 0, slots := 0, locals := 0 } (va_Pc [.int a] (fun _ => True)) (va_Qi (fun rr (_ : Unit) => rr = a &&& nI 7) (fun _ _ => True) (fun _ => False)) 0 0 (fun _ => False) := by
  refine gx_met (by decide) rfl (Nat.le_of_ble_eq_true rfl) ?_
  intro pg ev s mid as below mth c ls hx hb hr hml ht hown hlk hnm hargs hB hl
  have hS : va_S (fun _ => False) s.heap s.heap [] := va_S.rf
  have hl : lv_has ls 1 [(0, .int a)] := hl
  refine lv_iload_n hx hb dX_sourceOf_0 rfl (lv_at hl 0 rfl) ?_
  refine lv_bipush (v := nI 7) hx hb dX_sourceOf_1 (by decide) ?_
  refine lv_iand hx hb dX_sourceOf_3 ?_
  exact gx_pret hx hb hr hS rfl dX_sourceOf_4 hlk

set_option maxHeartbeats 4000000 in
set_option maxRecDepth 100000 in
theorem k_X_logPlace (l : Launch) {a : Int32} : Met l yX_logPlace (Cond.code yX_logPlace prog_1_method_32_code 1 (some .int) :: mx_T) { frames := 0, cells := 0, slots := 0, locals := 0 } (va_Pc [.int a] (fun _ => True)) (va_Qi (fun rr (_ : Unit) => rr = a &&& nI 31) (fun _ _ => True) (fun _ => False)) 0 0 (fun _ => False) := by
  refine gx_met (by decide) rfl (Nat.le_of_ble_eq_true rfl) ?_
  intro pg ev s mid as below mth c ls hx hb hr hml ht hown hlk hnm hargs hB hl
  have hS : va_S (fun _ => False) s.heap s.heap [] := va_S.rf
  have hl : lv_has ls 1 [(0, .int a)] := hl
  refine lv_iload_n hx hb dX_logPlace_0 rfl (lv_at hl 0 rfl) ?_
  refine lv_bipush (v := nI 31) hx hb dX_logPlace_1 (by decide) ?_
  refine lv_iand hx hb dX_logPlace_3 ?_
  exact gx_pret hx hb hr hS rfl dX_logPlace_4 hlk

set_option maxHeartbeats 4000000 in
set_option maxRecDepth 100000 in
theorem k_X_stepBehind (l : Launch) {a b n : Nat} (ha : a < 2 ^ 20) (hb2 : b < 2 ^ 20) (hn : n < 2 ^ 20) : Met l yX_stepBehind (Cond.code yX_stepBehind prog_1_method_33_code 4 (some .int) :: mx_T) { frames := 0, cells := 0, slots := 0, locals := 0 } (va_Pc [.int (nI a), .int (nI b), .int (nI n)] (fun _ => True)) (va_Qi (fun rr (_ : Unit) => rr = nI (if n ≤ a + b then a + b - n else a + b)) (fun _ _ => True) (fun _ => False)) 0 0 (fun _ => False) := by
  refine gx_met (by decide) rfl (Nat.le_of_ble_eq_true rfl) ?_
  intro pg ev s mid as below mth c ls hx hb hr hml ht hown hlk hnm hargs hB hl
  have hS : va_S (fun _ => False) s.heap s.heap [] := va_S.rf
  have hl : lv_has ls 4 [(0, .int (nI a)), (1, .int (nI b)), (2, .int (nI n))] := hl
  refine lv_iload_n hx hb dX_stepBehind_0 rfl (lv_at hl 0 rfl) ?_
  refine lv_iload_n hx hb dX_stepBehind_1 rfl (lv_at hl 1 rfl) ?_
  refine gx_iadd (a := a) (b := b) hx hb dX_stepBehind_2 ?_
  refine lv_istore_n (lv' := [(3, .int (nI (a + b))), (0, .int (nI a)), (1, .int (nI b)), (2, .int (nI n))]) hx hb dX_stepBehind_3 rfl hl (by decide) rfl (fun ls hl => ?_)
  refine lv_iload_n hx hb dX_stepBehind_4 rfl (lv_at hl 0 rfl) ?_
  refine lv_iload_n hx hb dX_stepBehind_5 rfl (lv_at hl 3 rfl) ?_
  refine gx_icmp_lt (a := (a + b)) (b := n) (tgt := 15) hx hb dX_stepBehind_6 (by decide) (by omega) (by omega) (fun h6 => ?_) (fun h6 => ?_)
  · refine lv_iload_n hx hb dX_stepBehind_15 rfl (lv_at hl 0 rfl) ?_
    exact gx_pret hx hb hr hS (by rw [if_neg (by omega)]) dX_stepBehind_16 hlk
  · refine lv_iload_n hx hb dX_stepBehind_9 rfl (lv_at hl 0 rfl) ?_
    refine lv_iload_n hx hb dX_stepBehind_10 rfl (lv_at hl 3 rfl) ?_
    refine gx_isub (a := (a + b)) (b := n) hx hb dX_stepBehind_11 (by omega) ?_
    refine lv_goto (tgt := 16) hx hb dX_stepBehind_12 (by decide) ?_
    exact gx_pret hx hb hr hS (by rw [if_pos (by omega)]) dX_stepBehind_16 hlk

set_option maxHeartbeats 4000000 in
set_option maxRecDepth 100000 in
theorem k_X_isAligned (l : Launch) {a z : Int32} : Met l yX_isAligned (Cond.code yX_isAligned prog_1_method_29_code 2 (some .boolean) :: mx_T) { frames := 1, cells := 0, slots := 0, locals := 21 } (va_Pc [.int a, .int z] (fun _ => True)) (va_Qi (fun rr (_ : Unit) => rr = (if (0 ≤ z ∧ z < nI 4) ∧ (0 ≤ a ∧ a < nI 1024) ∧ a &&& ((nI 1 <<< (z &&& 31)) - nI 1) = 0 then nI 1 else nI 0)) (fun _ _ => True) (fun _ => False)) 0 0 (fun _ => False) := by
  refine gx_met (by decide) rfl (Nat.le_of_ble_eq_true rfl) ?_
  intro pg ev s mid as below mth c ls hx hb hr hml ht hown hlk hnm hargs hB hl
  have hS : va_S (fun _ => False) s.heap s.heap [] := va_S.rf
  have hl : lv_has ls 2 [(0, .int a), (1, .int z)] := hl
  refine lv_iload_n hx hb dX_isAligned_0 rfl (lv_at hl 1 rfl) ?_
  refine lv_iconst (v := nI 4) hx hb dX_isAligned_1 (by decide) ?_
  refine va_calli (va_runS (As := [.int z, .int (nI 4)]) (rest := []) ⟨hx, hb, hml, hown, ht⟩ (k_X_isBelow l) (cwS 2 ht (mx_gS mw_160 mw_161 mw_1 mw_162) rfl rfl rfl (by decide +kernel) ⟨Nat.le_of_ble_eq_true rfl, Nat.le_of_ble_eq_true rfl⟩) (gx_preP [.int z, .int (nI 4)]) rfl rfl hl.1 rfl (lv_room (Nat.le_of_ble_eq_true rfl)) dX_isAligned_2 ⟨Nat.le_of_ble_eq_true rfl, Nat.le_of_ble_eq_true rfl⟩) hS (fun _ _ h => h) (fun _ h => h) (fun r1 _ _ H locs _ _ hp _ _ _ hS => ?_)
  subst hp
  refine gx_ifb_eq (q := 0 ≤ z ∧ z < nI 4) (tgt := 32) hx hb dX_isAligned_5 (by decide) (fun h5 => ?_) (fun h5 => ?_)
  · refine lv_iconst (v := nI 0) hx hb dX_isAligned_32 (by decide) ?_
    exact gx_pzret hx hb hr rfl hS (if_neg (fun q => h5 q.1)).symm dX_isAligned_33 hlk
  · refine lv_iload_n hx hb dX_isAligned_8 rfl (lv_at hl 0 rfl) ?_
    refine lv_sipush (v := nI 1024) hx hb dX_isAligned_9 (by decide) ?_
    refine va_calli (va_runS (As := [.int a, .int (nI 1024)]) (rest := []) ⟨hx, hb, hml, hown, ht⟩ (k_X_isBelow l) (cwS 2 ht (mx_gS mw_160 mw_161 mw_1 mw_162) rfl rfl rfl (by decide +kernel) ⟨Nat.le_of_ble_eq_true rfl, Nat.le_of_ble_eq_true rfl⟩) (gx_preP [.int a, .int (nI 1024)]) rfl rfl hl.1 rfl (lv_room (Nat.le_of_ble_eq_true rfl)) dX_isAligned_12 ⟨Nat.le_of_ble_eq_true rfl, Nat.le_of_ble_eq_true rfl⟩) hS (fun _ _ h => h) (fun _ h => h) (fun r2 _ _ H locs _ _ hp _ _ _ hS => ?_)
    subst hp
    refine gx_ifb_eq (q := 0 ≤ a ∧ a < nI 1024) (tgt := 32) hx hb dX_isAligned_15 (by decide) (fun h15 => ?_) (fun h15 => ?_)
    · refine lv_iconst (v := nI 0) hx hb dX_isAligned_32 (by decide) ?_
      exact gx_pzret hx hb hr rfl hS (if_neg (fun q => h15 q.2.1)).symm dX_isAligned_33 hlk
    · refine lv_iload_n hx hb dX_isAligned_18 rfl (lv_at hl 0 rfl) ?_
      refine lv_iconst (v := nI 1) hx hb dX_isAligned_19 (by decide) ?_
      refine lv_iload_n hx hb dX_isAligned_20 rfl (lv_at hl 1 rfl) ?_
      refine lv_ishl hx hb dX_isAligned_21 ?_
      refine lv_iconst (v := nI 1) hx hb dX_isAligned_22 (by decide) ?_
      refine lv_isub hx hb dX_isAligned_23 ?_
      refine lv_iand hx hb dX_isAligned_24 ?_
      refine lv_if_ne (tgt := 32) hx hb dX_isAligned_25 (by decide) (fun h25 => ?_) (fun h25 => ?_)
      · refine lv_iconst (v := nI 0) hx hb dX_isAligned_32 (by decide) ?_
        exact gx_pzret hx hb hr rfl hS (if_neg (fun q => h25 q.2.2)).symm dX_isAligned_33 hlk
      · refine lv_iconst (v := nI 1) hx hb dX_isAligned_28 (by decide) ?_
        refine lv_goto (tgt := 33) hx hb dX_isAligned_29 (by decide) ?_
        exact gx_pzret hx hb hr rfl hS (if_pos ⟨h5, h15, h25⟩).symm dX_isAligned_33 hlk
end
section
/-! Message, Master, Port: their methods -/
theorem mb_s : ∀ n, n < 32 → ((nI n &&& 31).toBitVec.smod 32).toNat = n := by decide +kernel
theorem cx_bit {b s : Nat} (hb : b < 2 ^ 31) (hs : s < 32) : (nI b >>> (nI s &&& 31)) &&& nI 1 = nI (b / 2 ^ s % 2) := by
  rw [pk_shrN hb (nI s &&& 31) s (mb_s s hs)]
  have h1 : b / 2 ^ s ≤ b := Nat.div_le_self _ _
  exact pk_andN (by omega) 1 (by decide)
theorem cx_sz : ∀ z, z < 4 → nI 1 <<< (nI z &&& 31) = nI (2 ^ z) := by decide +kernel
theorem cx_pend {a p : Nat} (hp : p < 4) (ha : a < 1024) : mq_port a = p ↔ a < cx_ends p ∧ (p = 0 ∨ cx_ends (p - 1) ≤ a) := by
  rcases cx_4 hp with rfl | rfl | rfl | rfl <;> simp [mq_port, cx_ends] <;> split <;> (try split) <;> (try split) <;> omega
theorem cx_ends_lt (j : Nat) : cx_ends j < 2 ^ 31 := by
  unfold cx_ends
  split <;> (try split) <;> (try split) <;> omega

set_option maxHeartbeats 4000000 in
set_option maxRecDepth 100000 in
theorem k_G_become (l : Launch) {D : va_G} {K : Nat → ClassId} {ad : Nat → Nat} {σ : Nat → Nat → Int32} {τ : Nat → Nat → Int64} {x : Nat} (hx2 : x < 24) {so z a mk : Int32} {dt : Int64} : Met l yG_become (Cond.code yG_become prog_4_method_2_code 7 none :: mx_T) { frames := 0, cells := 0, slots := 0, locals := 0 } (va_Pc [.ref (ad (43 + x)), .int so, .int z, .int a, .long dt, .int mk] (cx_P D K ad σ τ)) (cx_Qv D K ad (fun u => u = (cx_up (cx_up (cx_up (cx_up σ (43 + x) 0 so) (43 + x) 1 z) (43 + x) 2 a) (43 + x) 4 mk, gx_upL τ (43 + x) 0 dt))) 0 0 (gx_A ad 70) := by
  refine gx_met (by decide) rfl (Nat.le_of_ble_eq_true rfl) ?_
  intro pg ev s mid as below mth c ls hx hb hr hml ht hown hlk hnm hargs hB hl
  obtain ⟨hV, hZ⟩ := hB
  have hS : va_S (gx_A ad 70) s.heap s.heap [] := va_S.rf
  have hl : lv_has ls 7 [(0, .ref (ad (43 + x))), (1, .int so), (2, .int z), (3, .int a), (4, .long dt), (6, .int mk)] := hl
  refine lv_aload_n hx hb dG_become_0 rfl (lv_at hl 0 rfl) ?_
  refine lv_iload_n hx hb dG_become_1 rfl (lv_at hl 1 rfl) ?_
  refine gx_put cx_loc (C := mR_G) (T := mT_G) (N' := 5) (ty := .int) (v := .int so) hx hb ht mh_G mt_G mk_G mn_G hown hV hS (show 43 + x < 70 by omega) (cx_E_G hx2) rfl 0 (by decide) (ht _ mw_110) (fun _ h => h) rfl (by decide +kernel) rfl rfl (Nat.le_of_ble_eq_true rfl) dG_become_2 (cx_up σ (43 + x) 0 so) τ (by rw [cx_E_G hx2]; simp [cx_up, gx_upL]) (fun _ h => cx_up_J h) (fun _ _ => rfl) (fun H locs hV hS => ?_)
  refine lv_aload_n hx hb dG_become_5 rfl (lv_at hl 0 rfl) ?_
  refine lv_iload_n hx hb dG_become_6 rfl (lv_at hl 2 rfl) ?_
  refine gx_put cx_loc (C := mR_G) (T := mT_G) (N' := 5) (ty := .int) (v := .int z) hx hb ht mh_G mt_G mk_G mn_G hown hV hS (show 43 + x < 70 by omega) (cx_E_G hx2) rfl 1 (by decide) (ht _ mw_112) (fun _ h => h) rfl (by decide +kernel) rfl rfl (Nat.le_of_ble_eq_true rfl) dG_become_7 (cx_up (cx_up σ (43 + x) 0 so) (43 + x) 1 z) τ (by rw [cx_E_G hx2]; simp [cx_up, gx_upL]) (fun _ h => cx_up_J h) (fun _ _ => rfl) (fun H locs hV hS => ?_)
  refine lv_aload_n hx hb dG_become_10 rfl (lv_at hl 0 rfl) ?_
  refine lv_iload_n hx hb dG_become_11 rfl (lv_at hl 3 rfl) ?_
  refine gx_put cx_loc (C := mR_G) (T := mT_G) (N' := 5) (ty := .int) (v := .int a) hx hb ht mh_G mt_G mk_G mn_G hown hV hS (show 43 + x < 70 by omega) (cx_E_G hx2) rfl 2 (by decide) (ht _ mw_113) (fun _ h => h) rfl (by decide +kernel) rfl rfl (Nat.le_of_ble_eq_true rfl) dG_become_12 (cx_up (cx_up (cx_up σ (43 + x) 0 so) (43 + x) 1 z) (43 + x) 2 a) τ (by rw [cx_E_G hx2]; simp [cx_up, gx_upL]) (fun _ h => cx_up_J h) (fun _ _ => rfl) (fun H locs hV hS => ?_)
  refine lv_aload_n hx hb dG_become_15 rfl (lv_at hl 0 rfl) ?_
  refine lv_lload hx hb dG_become_16 (lv_at hl 4 rfl) ?_
  refine gx_put cx_loc (C := mR_G) (T := mT_G) (N' := 5) (ty := .long) (v := .long dt) hx hb ht mh_G mt_G mk_G mn_G hown hV hS (show 43 + x < 70 by omega) (cx_E_G hx2) rfl 3 (by decide) (ht _ mw_115) (fun _ h => h) rfl (by decide +kernel) rfl rfl (Nat.le_of_ble_eq_true rfl) dG_become_18 (cx_up (cx_up (cx_up σ (43 + x) 0 so) (43 + x) 1 z) (43 + x) 2 a) (gx_upL τ (43 + x) 0 dt) (by rw [cx_E_G hx2]; simp [cx_up, gx_upL]) (fun _ _ => rfl) (fun _ h => gx_upL_J h) (fun H locs hV hS => ?_)
  refine lv_aload_n hx hb dG_become_21 rfl (lv_at hl 0 rfl) ?_
  refine lv_iload hx hb dG_become_22 (lv_at hl 5 rfl) ?_
  refine gx_put cx_loc (C := mR_G) (T := mT_G) (N' := 5) (ty := .int) (v := .int mk) hx hb ht mh_G mt_G mk_G mn_G hown hV hS (show 43 + x < 70 by omega) (cx_E_G hx2) rfl 4 (by decide) (ht _ mw_117) (fun _ h => h) rfl (by decide +kernel) rfl rfl (Nat.le_of_ble_eq_true rfl) dG_become_24 (cx_up (cx_up (cx_up (cx_up σ (43 + x) 0 so) (43 + x) 1 z) (43 + x) 2 a) (43 + x) 4 mk) (gx_upL τ (43 + x) 0 dt) (by rw [cx_E_G hx2]; simp [cx_up, gx_upL]) (fun _ h => cx_up_J h) (fun _ _ => rfl) (fun H locs hV hS => ?_)
  exact gx_vret hx hb hr hV hS rfl dG_become_27 hlk

set_option maxHeartbeats 4000000 in
set_option maxRecDepth 100000 in
theorem k_G_size (l : Launch) {D : va_G} {K : Nat → ClassId} {ad : Nat → Nat} {σ : Nat → Nat → Int32} {τ : Nat → Nat → Int64} {x : Nat} (hx2 : x < 24) {z : Nat} (hz : σ (43 + x) 1 = nI z) (hz4 : z < 4) : Met l yG_size (Cond.code yG_size prog_4_method_3_code 1 (some .int) :: mx_T) { frames := 0, cells := 0, slots := 0, locals := 0 } (va_Pc [.ref (ad (43 + x))] (cx_P D K ad σ τ)) (cx_Qi D K ad (fun rr u => rr = nI (2 ^ z) ∧ u = (σ, τ))) 0 0 (gx_A ad 70) := by
  refine gx_met (by decide) rfl (Nat.le_of_ble_eq_true rfl) ?_
  intro pg ev s mid as below mth c ls hx hb hr hml ht hown hlk hnm hargs hB hl
  obtain ⟨hV, hZ⟩ := hB
  have hS : va_S (gx_A ad 70) s.heap s.heap [] := va_S.rf
  have hl : lv_has ls 1 [(0, .ref (ad (43 + x)))] := hl
  refine lv_iconst (v := nI 1) hx hb dG_size_0 (by decide) ?_
  refine lv_aload_n hx hb dG_size_1 rfl (lv_at hl 0 rfl) ?_
  refine gx_get (C := mR_G) (T := mT_G) (N' := 5) (v := .int (nI z)) hx hb ht mh_G hown hV (show 43 + x < 70 by omega) (cx_E_G hx2) rfl 1 (by decide) (ht _ mw_112) (fun _ h => h) (congrArg (fun z => some (Value.int z)) hz) dG_size_2 ?_
  refine lv_ishl hx hb dG_size_5 ?_
  refine gx_top (cx_sz z hz4) ?_
  exact gx_iret hx hb hr hV hS ⟨rfl, rfl⟩ dG_size_6 hlk

set_option maxHeartbeats 4000000 in
set_option maxRecDepth 100000 in
theorem k_G_isDenied (l : Launch) {D : va_G} {K : Nat → ClassId} {ad : Nat → Nat} {σ : Nat → Nat → Int32} {τ : Nat → Nat → Int64} {x : Nat} (hx2 : x < 24) {a : Nat} (ha : σ (43 + x) 2 = nI a) (ha4 : a < 1024) : Met l yG_isDenied (Cond.code yG_isDenied prog_4_method_4_code 1 (some .boolean) :: mx_T) { frames := 0, cells := 0, slots := 0, locals := 0 } (va_Pc [.ref (ad (43 + x))] (cx_P D K ad σ τ)) (cx_Qi D K ad (fun rr u => rr = (if 640 ≤ a then nI 1 else nI 0) ∧ u = (σ, τ))) 0 0 (gx_A ad 70) := by
  refine gx_met (by decide) rfl (Nat.le_of_ble_eq_true rfl) ?_
  intro pg ev s mid as below mth c ls hx hb hr hml ht hown hlk hnm hargs hB hl
  obtain ⟨hV, hZ⟩ := hB
  have hS : va_S (gx_A ad 70) s.heap s.heap [] := va_S.rf
  have hl : lv_has ls 1 [(0, .ref (ad (43 + x)))] := hl
  refine lv_aload_n hx hb dG_isDenied_0 rfl (lv_at hl 0 rfl) ?_
  refine gx_get (C := mR_G) (T := mT_G) (N' := 5) (v := .int (nI a)) hx hb ht mh_G hown hV (show 43 + x < 70 by omega) (cx_E_G hx2) rfl 2 (by decide) (ht _ mw_113) (fun _ h => h) (congrArg (fun z => some (Value.int z)) ha) dG_isDenied_1 ?_
  refine lv_sipush (v := nI 640) hx hb dG_isDenied_4 (by decide) ?_
  refine gx_icmp_lt (a := a) (b := 640) (tgt := 14) hx hb dG_isDenied_7 (by decide) (by omega) (by omega) (fun h7 => ?_) (fun h7 => ?_)
  · refine lv_iconst (v := nI 0) hx hb dG_isDenied_14 (by decide) ?_
    exact gx_zret hx hb hr rfl hV hS ⟨(if_neg (by omega)).symm, rfl⟩ dG_isDenied_15 hlk
  · refine lv_iconst (v := nI 1) hx hb dG_isDenied_10 (by decide) ?_
    refine lv_goto (tgt := 15) hx hb dG_isDenied_11 (by decide) ?_
    exact gx_zret hx hb hr rfl hV hS ⟨(if_pos (by omega)).symm, rfl⟩ dG_isDenied_15 hlk

set_option maxHeartbeats 4000000 in
set_option maxRecDepth 100000 in
theorem k_G_writesByte (l : Launch) {D : va_G} {K : Nat → ClassId} {ad : Nat → Nat} {σ : Nat → Nat → Int32} {τ : Nat → Nat → Int64} {x : Nat} (hx2 : x < 24) {so mk i : Nat} (hso : σ (43 + x) 0 = nI so) (hso3 : so < 3) (hmk : σ (43 + x) 4 = nI mk) (hmk2 : mk < 256) (hi : i < 8) : Met l yG_writesByte (Cond.code yG_writesByte prog_4_method_5_code 2 (some .boolean) :: mx_T) { frames := 0, cells := 0, slots := 0, locals := 0 } (va_Pc [.ref (ad (43 + x)), .int (nI i)] (cx_P D K ad σ τ)) (cx_Qi D K ad (fun rr u => rr = (if so = 1 ∨ mk / 2 ^ i % 2 = 1 then nI 1 else nI 0) ∧ u = (σ, τ))) 0 0 (gx_A ad 70) := by
  refine gx_met (by decide) rfl (Nat.le_of_ble_eq_true rfl) ?_
  intro pg ev s mid as below mth c ls hx hb hr hml ht hown hlk hnm hargs hB hl
  obtain ⟨hV, hZ⟩ := hB
  have hS : va_S (gx_A ad 70) s.heap s.heap [] := va_S.rf
  have hl : lv_has ls 2 [(0, .ref (ad (43 + x))), (1, .int (nI i))] := hl
  have hdv : mk / 2 ^ i % 2 < 2 := Nat.mod_lt _ (by omega)
  refine lv_aload_n hx hb dG_writesByte_0 rfl (lv_at hl 0 rfl) ?_
  refine gx_get (C := mR_G) (T := mT_G) (N' := 5) (v := .int (nI so)) hx hb ht mh_G hown hV (show 43 + x < 70 by omega) (cx_E_G hx2) rfl 0 (by decide) (ht _ mw_110) (fun _ h => h) (congrArg (fun z => some (Value.int z)) hso) dG_writesByte_1 ?_
  refine lv_iconst (v := nI 1) hx hb dG_writesByte_4 (by decide) ?_
  refine gx_icmp_eq (a := so) (b := 1) (tgt := 20) hx hb dG_writesByte_5 (by decide) (by omega) (by omega) (fun h5 => ?_) (fun h5 => ?_)
  · refine lv_iconst (v := nI 1) hx hb dG_writesByte_20 (by decide) ?_
    refine lv_goto (tgt := 25) hx hb dG_writesByte_21 (by decide) ?_
    exact gx_zret hx hb hr rfl hV hS ⟨(if_pos (Or.inl h5)).symm, rfl⟩ dG_writesByte_25 hlk
  · refine lv_aload_n hx hb dG_writesByte_8 rfl (lv_at hl 0 rfl) ?_
    refine gx_get (C := mR_G) (T := mT_G) (N' := 5) (v := .int (nI mk)) hx hb ht mh_G hown hV (show 43 + x < 70 by omega) (cx_E_G hx2) rfl 4 (by decide) (ht _ mw_117) (fun _ h => h) (congrArg (fun z => some (Value.int z)) hmk) dG_writesByte_9 ?_
    refine lv_iload_n hx hb dG_writesByte_12 rfl (lv_at hl 1 rfl) ?_
    refine lv_ishr hx hb dG_writesByte_13 ?_
    refine lv_iconst (v := nI 1) hx hb dG_writesByte_14 (by decide) ?_
    refine lv_iand hx hb dG_writesByte_15 ?_
    refine gx_top (cx_bit (b := mk) (s := i) (by omega) (by omega)) ?_
    refine lv_iconst (v := nI 1) hx hb dG_writesByte_16 (by decide) ?_
    refine gx_icmp_ne (a := (mk / 2 ^ i % 2)) (b := 1) (tgt := 24) hx hb dG_writesByte_17 (by decide) (by omega) (by omega) (fun h17 => ?_) (fun h17 => ?_)
    · refine lv_iconst (v := nI 0) hx hb dG_writesByte_24 (by decide) ?_
      exact gx_zret hx hb hr rfl hV hS ⟨(if_neg (fun q => q.elim h5 h17)).symm, rfl⟩ dG_writesByte_25 hlk
    · refine lv_iconst (v := nI 1) hx hb dG_writesByte_20 (by decide) ?_
      refine lv_goto (tgt := 25) hx hb dG_writesByte_21 (by decide) ?_
      exact gx_zret hx hb hr rfl hV hS ⟨(if_pos (Or.inr h17)).symm, rfl⟩ dG_writesByte_25 hlk

set_option maxHeartbeats 4000000 in
set_option maxRecDepth 100000 in
theorem k_G_goesTo (l : Launch) {D : va_G} {K : Nat → ClassId} {ad : Nat → Nat} {σ : Nat → Nat → Int32} {τ : Nat → Nat → Int64} {x : Nat} (hx2 : x < 24) {a p : Nat} (ha : σ (43 + x) 2 = nI a) (ha4 : a < 1024) (hp : p < 4) : Met l yG_goesTo (Cond.code yG_goesTo prog_4_method_6_code 2 (some .boolean) :: mx_T) { frames := 0, cells := 0, slots := 0, locals := 0 } (va_Pc [.ref (ad (43 + x)), .int (nI p)] (cx_P D K ad σ τ)) (cx_Qi D K ad (fun rr u => rr = (if mq_port a = p then nI 1 else nI 0) ∧ u = (σ, τ))) 0 0 (gx_A ad 70) := by
  refine gx_met (by decide) rfl (Nat.le_of_ble_eq_true rfl) ?_
  intro pg ev s mid as below mth c ls hx hb hr hml ht hown hlk hnm hargs hB hl
  obtain ⟨hV, hZ⟩ := hB
  have hS : va_S (gx_A ad 70) s.heap s.heap [] := va_S.rf
  have hl : lv_has ls 2 [(0, .ref (ad (43 + x))), (1, .int (nI p))] := hl
  obtain ⟨t1, hz1, ht1⟩ := hZ.1
  refine lv_aload_n hx hb dG_goesTo_0 rfl (lv_at hl 0 rfl) ?_
  refine gx_get (C := mR_G) (T := mT_G) (N' := 5) (v := .int (nI a)) hx hb ht mh_G hown hV (show 43 + x < 70 by omega) (cx_E_G hx2) rfl 2 (by decide) (ht _ mw_113) (fun _ h => h) (congrArg (fun z => some (Value.int z)) ha) dG_goesTo_1 ?_
  refine va_getsN hx hb hz1 hS hown (va_Nw.use rfl hZ.2.2.2) (fun _ h => h) dG_goesTo_4 ?_
  refine lv_iload_n hx hb dG_goesTo_7 rfl (lv_at hl 1 rfl) ?_
  refine va_ti hx hb ht1 hS (v := .int (nI (cx_ends p))) (gx_ia (k := p) (n := 4) hp (by omega) rfl).1 (by rw [(gx_ia (k := p) (n := 4) hp (by omega) rfl).2]) dG_goesTo_8 ?_
  refine gx_icmp_ge (a := a) (b := (cx_ends p)) (tgt := 34) hx hb dG_goesTo_9 (by decide) (by omega) (cx_ends_lt _) (fun h9 => ?_) (fun h9 => ?_)
  · refine lv_iconst (v := nI 0) hx hb dG_goesTo_34 (by decide) ?_
    exact gx_zret hx hb hr rfl hV hS ⟨(if_neg (fun q => absurd ((cx_pend hp ha4).mp q).1 (by omega))).symm, rfl⟩ dG_goesTo_35 hlk
  · refine lv_iload_n hx hb dG_goesTo_12 rfl (lv_at hl 1 rfl) ?_
    refine gx_if_eq (a := p) (tgt := 30) hx hb dG_goesTo_13 (by decide) (by omega) (fun h13 => ?_) (fun h13 => ?_)
    · refine lv_iconst (v := nI 1) hx hb dG_goesTo_30 (by decide) ?_
      refine lv_goto (tgt := 35) hx hb dG_goesTo_31 (by decide) ?_
      exact gx_zret hx hb hr rfl hV hS ⟨(if_pos ((cx_pend hp ha4).mpr ⟨h9, Or.inl h13⟩)).symm, rfl⟩ dG_goesTo_35 hlk
    · refine lv_aload_n hx hb dG_goesTo_16 rfl (lv_at hl 0 rfl) ?_
      refine gx_get (C := mR_G) (T := mT_G) (N' := 5) (v := .int (nI a)) hx hb ht mh_G hown hV (show 43 + x < 70 by omega) (cx_E_G hx2) rfl 2 (by decide) (ht _ mw_113) (fun _ h => h) (congrArg (fun z => some (Value.int z)) ha) dG_goesTo_17 ?_
      refine va_getsN hx hb hz1 hS hown (va_Nw.use rfl hZ.2.2.2) (fun _ h => h) dG_goesTo_20 ?_
      refine lv_iload_n hx hb dG_goesTo_23 rfl (lv_at hl 1 rfl) ?_
      refine lv_iconst (v := nI 1) hx hb dG_goesTo_24 (by decide) ?_
      refine gx_isub (a := p) (b := 1) hx hb dG_goesTo_25 (by omega) ?_
      refine va_ti hx hb ht1 hS (v := .int (nI (cx_ends (p - 1)))) (gx_ia (k := (p - 1)) (n := 4) (by omega) (by omega) rfl).1 (by rw [(gx_ia (k := (p - 1)) (n := 4) (by omega) (by omega) rfl).2]) dG_goesTo_26 ?_
      refine gx_icmp_lt (a := a) (b := (cx_ends (p - 1))) (tgt := 34) hx hb dG_goesTo_27 (by decide) (by omega) (cx_ends_lt _) (fun h27 => ?_) (fun h27 => ?_)
      · refine lv_iconst (v := nI 0) hx hb dG_goesTo_34 (by decide) ?_
        exact gx_zret hx hb hr rfl hV hS ⟨(if_neg (fun q => ((cx_pend hp ha4).mp q).2.elim h13 (fun z => by omega))).symm, rfl⟩ dG_goesTo_35 hlk
      · refine lv_iconst (v := nI 1) hx hb dG_goesTo_30 (by decide) ?_
        refine lv_goto (tgt := 35) hx hb dG_goesTo_31 (by decide) ?_
        exact gx_zret hx hb hr rfl hV hS ⟨(if_pos ((cx_pend hp ha4).mpr ⟨h9, Or.inr h27⟩)).symm, rfl⟩ dG_goesTo_35 hlk

set_option maxHeartbeats 4000000 in
set_option maxRecDepth 100000 in
theorem k_M_hasInFlight (l : Launch) {D : va_G} {K : Nat → ClassId} {ad : Nat → Nat} {σ : Nat → Nat → Int32} {τ : Nat → Nat → Int64} {m : Nat} (hm : m < 3) {b q : Nat} (hb0 : σ (2 + 5 * m) 2 = nI b) (hb1 : b < 256) (hq : q < 8) : Met l yM_hasInFlight (Cond.code yM_hasInFlight prog_3_method_2_code 2 (some .boolean) :: mx_T) { frames := 0, cells := 0, slots := 0, locals := 0 } (va_Pc [.ref (ad (2 + 5 * m)), .int (nI q)] (cx_P D K ad σ τ)) (cx_Qi D K ad (fun rr u => rr = (if b / 2 ^ q % 2 = 1 then nI 1 else nI 0) ∧ u = (σ, τ))) 0 0 (gx_A ad 70) := by
  refine gx_met (by decide) rfl (Nat.le_of_ble_eq_true rfl) ?_
  intro pg ev s mid as below mth c ls hx hb hr hml ht hown hlk hnm hargs hB hl
  obtain ⟨hV, hZ⟩ := hB
  have hS : va_S (gx_A ad 70) s.heap s.heap [] := va_S.rf
  have hl : lv_has ls 2 [(0, .ref (ad (2 + 5 * m))), (1, .int (nI q))] := hl
  have hdv : b / 2 ^ q % 2 < 2 := Nat.mod_lt _ (by omega)
  refine lv_aload_n hx hb dM_hasInFlight_0 rfl (lv_at hl 0 rfl) ?_
  refine gx_get (C := mR_M) (T := mT_M) (N' := 5) (v := .int (nI b)) hx hb ht mh_M hown hV (show 2 + 5 * m < 70 by omega) (cx_E_M hm) rfl 2 (by decide) (ht _ mw_48) (fun _ h => h) (congrArg (fun z => some (Value.int z)) hb0) dM_hasInFlight_1 ?_
  refine lv_iload_n hx hb dM_hasInFlight_4 rfl (lv_at hl 1 rfl) ?_
  refine lv_ishr hx hb dM_hasInFlight_5 ?_
  refine lv_iconst (v := nI 1) hx hb dM_hasInFlight_6 (by decide) ?_
  refine lv_iand hx hb dM_hasInFlight_7 ?_
  refine gx_top (cx_bit (b := b) (s := q) (by omega) (by omega)) ?_
  refine lv_iconst (v := nI 1) hx hb dM_hasInFlight_8 (by decide) ?_
  refine gx_icmp_ne (a := (b / 2 ^ q % 2)) (b := 1) (tgt := 16) hx hb dM_hasInFlight_9 (by decide) (by omega) (by omega) (fun h9 => ?_) (fun h9 => ?_)
  · refine lv_iconst (v := nI 0) hx hb dM_hasInFlight_16 (by decide) ?_
    exact gx_zret hx hb hr rfl hV hS ⟨(if_neg h9).symm, rfl⟩ dM_hasInFlight_17 hlk
  · refine lv_iconst (v := nI 1) hx hb dM_hasInFlight_12 (by decide) ?_
    refine lv_goto (tgt := 17) hx hb dM_hasInFlight_13 (by decide) ?_
    exact gx_zret hx hb hr rfl hV hS ⟨(if_pos h9).symm, rfl⟩ dM_hasInFlight_17 hlk

set_option maxHeartbeats 4000000 in
set_option maxRecDepth 100000 in
theorem k_M_hasRoomForAnswer (l : Launch) {D : va_G} {K : Nat → ClassId} {ad : Nat → Nat} {σ : Nat → Nat → Int32} {τ : Nat → Nat → Int64} {m : Nat} (hm : m < 3) {ac n : Nat} (hac : σ (2 + 5 * m) 3 = nI ac) (hac1 : ac ≤ 1) (hn : σ (5 + 5 * m) 1 = nI n) (hn4 : n ≤ 4) : Met l yM_hasRoomForAnswer (Cond.code yM_hasRoomForAnswer prog_3_method_3_code 1 (some .boolean) :: mx_T) { frames := 1, cells := 0, slots := 0, locals := 20 } (va_Pc [.ref (ad (2 + 5 * m))] (cx_P D K ad σ τ)) (cx_Qi D K ad (fun rr u => rr = (if ac ≠ 0 ∧ n < 4 then nI 1 else nI 0) ∧ u = (σ, τ))) 0 0 (gx_A ad 70) := by
  refine gx_met (by decide) rfl (Nat.le_of_ble_eq_true rfl) ?_
  intro pg ev s mid as below mth c ls hx hb hr hml ht hown hlk hnm hargs hB hl
  obtain ⟨hV, hZ⟩ := hB
  have hS : va_S (gx_A ad 70) s.heap s.heap [] := va_S.rf
  have hl : lv_has ls 1 [(0, .ref (ad (2 + 5 * m)))] := hl
  refine lv_aload_n hx hb dM_hasRoomForAnswer_0 rfl (lv_at hl 0 rfl) ?_
  refine gx_get (C := mR_M) (T := mT_M) (N' := 5) (v := .int (nI ac)) hx hb ht mh_M hown hV (show 2 + 5 * m < 70 by omega) (cx_E_M hm) rfl 3 (by decide) (ht _ mw_50) (fun _ h => h) (congrArg (fun z => some (Value.int z)) hac) dM_hasRoomForAnswer_1 ?_
  refine gx_if_eq (a := ac) (tgt := 21) hx hb dM_hasRoomForAnswer_4 (by decide) (by omega) (fun h4 => ?_) (fun h4 => ?_)
  · refine lv_iconst (v := nI 0) hx hb dM_hasRoomForAnswer_21 (by decide) ?_
    exact gx_zret hx hb hr rfl hV hS ⟨(if_neg (fun q => q.1 h4)).symm, rfl⟩ dM_hasRoomForAnswer_22 hlk
  · refine lv_aload_n hx hb dM_hasRoomForAnswer_7 rfl (lv_at hl 0 rfl) ?_
    refine gx_get (C := mR_M) (T := mT_M) (N' := 5) hx hb ht mh_M hown hV (show 2 + 5 * m < 70 by omega) (cx_E_M hm) rfl 1 (by decide) (ht _ mw_46) (fun _ h => h) rfl dM_hasRoomForAnswer_8 ?_
    refine gx_calli (va_runV (As := []) (rest := []) ⟨hx, hb, hml, hown, ht⟩ (k_L_isFull l (cx_isL_B hm) hn hn4) (cwV 0 ht (mx_gV (C := "MessageCrossbar$Line") mw_289 mw_248 mw_249 mw_3 mw_250) rfl rfl rfl (by decide +kernel) ⟨Nat.le_of_ble_eq_true rfl, Nat.le_of_ble_eq_true rfl⟩) (gx_preV cx_ok hV hZ hS (q := (mR_L, mT_L, 2)) ((cx_isL_B hm)).lt.1 (cx_E_L (cx_isL_B hm)).1 rfl []) rfl rfl hl.1 rfl (lv_room (Nat.le_of_ble_eq_true rfl)) dM_hasRoomForAnswer_11 ⟨Nat.le_of_ble_eq_true rfl, Nat.le_of_ble_eq_true rfl⟩) hV hS (fun r1 σ' τ' H locs hp hV hS => ?_)
    obtain ⟨rfl, hu⟩ := hp
    cases hu
    refine gx_ifb_ne (q := 4 ≤ n) (tgt := 21) hx hb dM_hasRoomForAnswer_14 (by decide) (fun h14 => ?_) (fun h14 => ?_)
    · refine lv_iconst (v := nI 0) hx hb dM_hasRoomForAnswer_21 (by decide) ?_
      exact gx_zret hx hb hr rfl hV hS ⟨(if_neg (fun q => by omega)).symm, rfl⟩ dM_hasRoomForAnswer_22 hlk
    · refine lv_iconst (v := nI 1) hx hb dM_hasRoomForAnswer_17 (by decide) ?_
      refine lv_goto (tgt := 22) hx hb dM_hasRoomForAnswer_18 (by decide) ?_
      exact gx_zret hx hb hr rfl hV hS ⟨(if_pos ⟨h4, by omega⟩).symm, rfl⟩ dM_hasRoomForAnswer_22 hlk
end
section
/-! Port -/

theorem mq_cnt_f {f : Nat → Bool} {i : Nat} (h : f i = false) : mq_cnt f (i + 1) = mq_cnt f i := by
  show mq_cnt f i + (if f i = true then 1 else 0) = _
  rw [h]
  rfl
theorem mq_cnt_t {f : Nat → Bool} {i : Nat} (h : f i = true) : mq_cnt f (i + 1) = mq_cnt f i + 1 := by
  show mq_cnt f i + (if f i = true then 1 else 0) = _
  rw [h]
  rfl
theorem mq_cnt_le (f : Nat → Bool) : ∀ n, mq_cnt f n ≤ n := by
  intro n
  induction n with
  | zero => exact Nat.le_refl _
  | succ n ih =>
    show mq_cnt f n + (if f n = true then 1 else 0) ≤ n + 1
    split <;> omega
theorem mq_cnt_le4 (f : Nat → Bool) : mq_cnt f 4 < 2 ^ 31 := by
  have := mq_cnt_le f 4
  omega
theorem mq_fnd_f {f : Nat → Bool} {i k : Nat} (h : f i = false) : mq_fnd f i (k + 1) = mq_fnd f (i + 1) k := by
  show (if f i = true then some i else mq_fnd f (i + 1) k) = _
  rw [h]
  rfl
theorem mq_fnd_t {f : Nat → Bool} {i k : Nat} (h : f i = true) : mq_fnd f i (k + 1) = some i := by
  show (if f i = true then some i else mq_fnd f (i + 1) k) = _
  rw [h]
  rfl
/-- the first i owners set free, where they are the key -/
def cx_relN (σ : Nat → Nat → Int32) (p : Nat) (key : Int32) (i : Nat) : Nat → Nat → Int32 := fun j k => if j = 23 + 6 * p ∧ k < i ∧ σ (23 + 6 * p) k = key then -1 else σ j k
theorem cx_relN_0 {σ : Nat → Nat → Int32} {p : Nat} {key : Int32} : cx_relN σ p key 0 = σ := by
  funext j k
  unfold cx_relN
  rw [if_neg (by omega)]
theorem cx_relN_r {σ : Nat → Nat → Int32} {p i : Nat} {key : Int32} : cx_relN σ p key i (23 + 6 * p) i = σ (23 + 6 * p) i := by
  unfold cx_relN
  rw [if_neg (by omega)]
theorem cx_relN_f {σ : Nat → Nat → Int32} {p i : Nat} {key : Int32} (h : ¬ σ (23 + 6 * p) i = key) : cx_relN σ p key (i + 1) = cx_relN σ p key i := by
  funext j k
  unfold cx_relN
  by_cases hk : k = i
  · subst hk
    rw [if_neg (fun q => h q.2.2), if_neg (fun q => h q.2.2)]
  · by_cases hl : k < i
    · simp [hl, Nat.lt_succ_of_lt hl]
    · have : ¬ k < i + 1 := by omega
      simp [hl, this]
theorem cx_relN_t {σ : Nat → Nat → Int32} {p i : Nat} {key : Int32} (h : σ (23 + 6 * p) i = key) : cx_relN σ p key (i + 1) = cx_up (cx_relN σ p key i) (23 + 6 * p) i (-1) := by
  funext j k
  unfold cx_relN cx_up
  by_cases hj : j = 23 + 6 * p
  · subst hj
    by_cases hk : k = i
    · subst hk
      simp [h]
    · by_cases hl : k < i
      · simp [hk, hl, Nat.lt_succ_of_lt hl]
      · have : ¬ k < i + 1 := by omega
        simp [hk, hl, this]
  · simp [hj]

set_option maxHeartbeats 4000000 in
set_option maxRecDepth 100000 in
theorem k_P_countDown (l : Launch) {D : va_G} {K : Nat → ClassId} {ad : Nat → Nat} {σ : Nat → Nat → Int32} {τ : Nat → Nat → Int64} {p : Nat} (hp0 : p < 4) {t : Nat} (htt : σ (18 + 6 * p) 4 = nI t) (ht16 : t < 16) : Met l yP_countDown (Cond.code yP_countDown prog_5_method_2_code 1 none :: mx_T) { frames := 0, cells := 0, slots := 0, locals := 0 } (va_Pc [.ref (ad (18 + 6 * p))] (cx_P D K ad σ τ)) (cx_Qv D K ad (fun u => u = (cx_up σ (18 + 6 * p) 4 (nI (t - 1)), τ))) 0 0 (gx_A ad 70) := by
  refine gx_met (by decide) rfl (Nat.le_of_ble_eq_true rfl) ?_
  intro pg ev s mid as below mth c ls hx hb hr hml ht hown hlk hnm hargs hB hl
  obtain ⟨hV, hZ⟩ := hB
  have hS : va_S (gx_A ad 70) s.heap s.heap [] := va_S.rf
  have hl : lv_has ls 1 [(0, .ref (ad (18 + 6 * p)))] := hl
  refine lv_aload_n hx hb dP_countDown_0 rfl (lv_at hl 0 rfl) ?_
  refine gx_get (C := mR_P) (T := mT_P) (N' := 7) (v := .int (nI t)) hx hb ht mh_P hown hV (show 18 + 6 * p < 70 by omega) (cx_E_P hp0) rfl 4 (by decide) (ht _ mw_82) (fun _ h => h) (congrArg (fun z => some (Value.int z)) htt) dP_countDown_1 ?_
  refine gx_if_le (a := t) (tgt := 17) hx hb dP_countDown_4 (by decide) (by omega) (fun h4 => ?_) (fun h4 => ?_)
  · exact gx_vret hx hb hr hV hS (by rw [cx_up_same (by rw [htt, h4])]) dP_countDown_17 hlk
  · refine lv_aload_n hx hb dP_countDown_7 rfl (lv_at hl 0 rfl) ?_
    refine lv_dup hx hb dP_countDown_8 rfl ?_
    refine gx_get (C := mR_P) (T := mT_P) (N' := 7) (v := .int (nI t)) hx hb ht mh_P hown hV (show 18 + 6 * p < 70 by omega) (cx_E_P hp0) rfl 4 (by decide) (ht _ mw_82) (fun _ h => h) (congrArg (fun z => some (Value.int z)) htt) dP_countDown_9 ?_
    refine lv_iconst (v := nI 1) hx hb dP_countDown_12 (by decide) ?_
    refine gx_isub (a := t) (b := 1) hx hb dP_countDown_13 (by omega) ?_
    refine gx_put cx_loc (C := mR_P) (T := mT_P) (N' := 7) (ty := .int) (v := .int (nI (t - 1))) hx hb ht mh_P mt_P mk_P mn_P hown hV hS (show 18 + 6 * p < 70 by omega) (cx_E_P hp0) rfl 4 (by decide) (ht _ mw_82) (fun _ h => h) rfl (by decide +kernel) rfl rfl (Nat.le_of_ble_eq_true rfl) dP_countDown_14 (cx_up σ (18 + 6 * p) 4 (nI (t - 1))) τ (by rw [cx_E_P hp0]; simp [cx_up, gx_upL]) (fun _ h => cx_up_J h) (fun _ _ => rfl) (fun H locs hV hS => ?_)
    exact gx_vret hx hb hr hV hS rfl dP_countDown_17 hlk

set_option maxHeartbeats 4000000 in
set_option maxRecDepth 100000 in
theorem k_P_canFinishJob (l : Launch) {D : va_G} {K : Nat → ClassId} {ad : Nat → Nat} {σ : Nat → Nat → Int32} {τ : Nat → Nat → Int64} {p : Nat} (hp0 : p < 4) {t n : Nat} (htt : σ (18 + 6 * p) 4 = nI t) (ht16 : t < 16) (hn : σ (21 + 6 * p) 1 = nI n) (hn2 : n ≤ 2) : Met l yP_canFinishJob (Cond.code yP_canFinishJob prog_5_method_3_code 1 (some .boolean) :: mx_T) { frames := 1, cells := 0, slots := 0, locals := 20 } (va_Pc [.ref (ad (18 + 6 * p))] (cx_P D K ad σ τ)) (cx_Qi D K ad (fun rr u => rr = (if σ (18 + 6 * p) 3 ≠ -1 ∧ t = 0 ∧ n < 2 then nI 1 else nI 0) ∧ u = (σ, τ))) 0 0 (gx_A ad 70) := by
  refine gx_met (by decide) rfl (Nat.le_of_ble_eq_true rfl) ?_
  intro pg ev s mid as below mth c ls hx hb hr hml ht hown hlk hnm hargs hB hl
  obtain ⟨hV, hZ⟩ := hB
  have hS : va_S (gx_A ad 70) s.heap s.heap [] := va_S.rf
  have hl : lv_has ls 1 [(0, .ref (ad (18 + 6 * p)))] := hl
  refine lv_aload_n hx hb dP_canFinishJob_0 rfl (lv_at hl 0 rfl) ?_
  refine gx_get (C := mR_P) (T := mT_P) (N' := 7) hx hb ht mh_P hown hV (show 18 + 6 * p < 70 by omega) (cx_E_P hp0) rfl 3 (by decide) (ht _ mw_80) (fun _ h => h) rfl dP_canFinishJob_1 ?_
  refine lv_iconst (v := -1) hx hb dP_canFinishJob_4 (by decide) ?_
  refine lv_icmp_eq (tgt := 29) hx hb dP_canFinishJob_5 (by decide) (fun h5 => ?_) (fun h5 => ?_)
  · refine lv_iconst (v := nI 0) hx hb dP_canFinishJob_29 (by decide) ?_
    exact gx_zret hx hb hr rfl hV hS ⟨(if_neg (fun q => q.1 h5)).symm, rfl⟩ dP_canFinishJob_30 hlk
  · refine lv_aload_n hx hb dP_canFinishJob_8 rfl (lv_at hl 0 rfl) ?_
    refine gx_get (C := mR_P) (T := mT_P) (N' := 7) (v := .int (nI t)) hx hb ht mh_P hown hV (show 18 + 6 * p < 70 by omega) (cx_E_P hp0) rfl 4 (by decide) (ht _ mw_82) (fun _ h => h) (congrArg (fun z => some (Value.int z)) htt) dP_canFinishJob_9 ?_
    refine gx_if_ne (a := t) (tgt := 29) hx hb dP_canFinishJob_12 (by decide) (by omega) (fun h12 => ?_) (fun h12 => ?_)
    · refine lv_iconst (v := nI 0) hx hb dP_canFinishJob_29 (by decide) ?_
      exact gx_zret hx hb hr rfl hV hS ⟨(if_neg (fun q => h12 q.2.1)).symm, rfl⟩ dP_canFinishJob_30 hlk
    · refine lv_aload_n hx hb dP_canFinishJob_15 rfl (lv_at hl 0 rfl) ?_
      refine gx_get (C := mR_P) (T := mT_P) (N' := 7) hx hb ht mh_P hown hV (show 18 + 6 * p < 70 by omega) (cx_E_P hp0) rfl 1 (by decide) (ht _ mw_76) (fun _ h => h) rfl dP_canFinishJob_16 ?_
      refine gx_calli (va_runV (As := []) (rest := []) ⟨hx, hb, hml, hown, ht⟩ (k_L_isFull l (cx_isL_A hp0) hn hn2) (cwV 0 ht (mx_gV (C := "MessageCrossbar$Line") mw_324 mw_248 mw_249 mw_3 mw_250) rfl rfl rfl (by decide +kernel) ⟨Nat.le_of_ble_eq_true rfl, Nat.le_of_ble_eq_true rfl⟩) (gx_preV cx_ok hV hZ hS (q := (mR_L, mT_L, 2)) ((cx_isL_A hp0)).lt.1 (cx_E_L (cx_isL_A hp0)).1 rfl []) rfl rfl hl.1 rfl (lv_room (Nat.le_of_ble_eq_true rfl)) dP_canFinishJob_19 ⟨Nat.le_of_ble_eq_true rfl, Nat.le_of_ble_eq_true rfl⟩) hV hS (fun r1 σ' τ' H locs hp hV hS => ?_)
      obtain ⟨rfl, hu⟩ := hp
      cases hu
      refine gx_ifb_ne (q := 2 ≤ n) (tgt := 29) hx hb dP_canFinishJob_22 (by decide) (fun h22 => ?_) (fun h22 => ?_)
      · refine lv_iconst (v := nI 0) hx hb dP_canFinishJob_29 (by decide) ?_
        exact gx_zret hx hb hr rfl hV hS ⟨(if_neg (fun q => by omega)).symm, rfl⟩ dP_canFinishJob_30 hlk
      · refine lv_iconst (v := nI 1) hx hb dP_canFinishJob_25 (by decide) ?_
        refine lv_goto (tgt := 30) hx hb dP_canFinishJob_26 (by decide) ?_
        exact gx_zret hx hb hr rfl hV hS ⟨(if_pos ⟨h5, h12, by omega⟩).symm, rfl⟩ dP_canFinishJob_30 hlk

set_option maxHeartbeats 4000000 in
set_option maxRecDepth 100000 in
theorem k_P_canBeginJob (l : Launch) {D : va_G} {K : Nat → ClassId} {ad : Nat → Nat} {σ : Nat → Nat → Int32} {τ : Nat → Nat → Int64} {p : Nat} (hp0 : p < 4) {n : Nat} (hn : σ (19 + 6 * p) 1 = nI n) (hn2 : n ≤ 2) : Met l yP_canBeginJob (Cond.code yP_canBeginJob prog_5_method_4_code 1 (some .boolean) :: mx_T) { frames := 0, cells := 0, slots := 0, locals := 0 } (va_Pc [.ref (ad (18 + 6 * p))] (cx_P D K ad σ τ)) (cx_Qi D K ad (fun rr u => rr = (if σ (18 + 6 * p) 3 = -1 ∧ 0 < n then nI 1 else nI 0) ∧ u = (σ, τ))) 0 0 (gx_A ad 70) := by
  refine gx_met (by decide) rfl (Nat.le_of_ble_eq_true rfl) ?_
  intro pg ev s mid as below mth c ls hx hb hr hml ht hown hlk hnm hargs hB hl
  obtain ⟨hV, hZ⟩ := hB
  have hS : va_S (gx_A ad 70) s.heap s.heap [] := va_S.rf
  have hl : lv_has ls 1 [(0, .ref (ad (18 + 6 * p)))] := hl
  refine lv_aload_n hx hb dP_canBeginJob_0 rfl (lv_at hl 0 rfl) ?_
  refine gx_get (C := mR_P) (T := mT_P) (N' := 7) hx hb ht mh_P hown hV (show 18 + 6 * p < 70 by omega) (cx_E_P hp0) rfl 3 (by decide) (ht _ mw_80) (fun _ h => h) rfl dP_canBeginJob_1 ?_
  refine lv_iconst (v := -1) hx hb dP_canBeginJob_4 (by decide) ?_
  refine lv_icmp_ne (tgt := 22) hx hb dP_canBeginJob_5 (by decide) (fun h5 => ?_) (fun h5 => ?_)
  · refine lv_iconst (v := nI 0) hx hb dP_canBeginJob_22 (by decide) ?_
    exact gx_zret hx hb hr rfl hV hS ⟨(if_neg (fun q => h5 q.1)).symm, rfl⟩ dP_canBeginJob_23 hlk
  · refine lv_aload_n hx hb dP_canBeginJob_8 rfl (lv_at hl 0 rfl) ?_
    refine gx_get (C := mR_P) (T := mT_P) (N' := 7) hx hb ht mh_P hown hV (show 18 + 6 * p < 70 by omega) (cx_E_P hp0) rfl 0 (by decide) (ht _ mw_74) (fun _ h => h) rfl dP_canBeginJob_9 ?_
    refine gx_get (C := mR_L) (T := mT_L) (N' := 2) (v := .int (nI n)) hx hb ht mh_L hown hV ((cx_isL_Q hp0)).lt.1 (cx_E_L (cx_isL_Q hp0)).1 rfl 1 (by decide) (ht _ mw_37) (fun _ h => h) (congrArg (fun z => some (Value.int z)) hn) dP_canBeginJob_12 ?_
    refine gx_if_le (a := n) (tgt := 22) hx hb dP_canBeginJob_15 (by decide) (by omega) (fun h15 => ?_) (fun h15 => ?_)
    · refine lv_iconst (v := nI 0) hx hb dP_canBeginJob_22 (by decide) ?_
      exact gx_zret hx hb hr rfl hV hS ⟨(if_neg (fun q => by omega)).symm, rfl⟩ dP_canBeginJob_23 hlk
    · refine lv_iconst (v := nI 1) hx hb dP_canBeginJob_18 (by decide) ?_
      refine lv_goto (tgt := 23) hx hb dP_canBeginJob_19 (by decide) ?_
      exact gx_zret hx hb hr rfl hV hS ⟨(if_pos ⟨h5, h15⟩).symm, rfl⟩ dP_canBeginJob_23 hlk

set_option maxHeartbeats 4000000 in
set_option maxRecDepth 100000 in
theorem k_P_finishJob (l : Launch) {D : va_G} {K : Nat → ClassId} {ad : Nat → Nat} {σ : Nat → Nat → Int32} {τ : Nat → Nat → Int64} {p : Nat} (hp0 : p < 4) {x n : Nat} (hx2 : x < 24) (hjb : σ (18 + 6 * p) 3 = nI x) (hn : σ (21 + 6 * p) 1 = nI n) (hn2 : n < 2) : Met l yP_finishJob (Cond.code yP_finishJob prog_5_method_5_code 2 (some .int) :: mx_T) { frames := 1, cells := 0, slots := 0, locals := 21 } (va_Pc [.ref (ad (18 + 6 * p))] (cx_P D K ad σ τ)) (cx_Qi D K ad (fun rr u => rr = nI x ∧ u = (cx_up (cx_up (cx_app σ (21 + 6 * p) n (nI x)) (18 + 6 * p) 3 (-1)) (18 + 6 * p) 5 (σ (18 + 6 * p) 5 + 1), τ))) 0 0 (gx_A ad 70) := by
  refine gx_met (by decide) rfl (Nat.le_of_ble_eq_true rfl) ?_
  intro pg ev s mid as below mth c ls hx hb hr hml ht hown hlk hnm hargs hB hl
  obtain ⟨hV, hZ⟩ := hB
  have hS : va_S (gx_A ad 70) s.heap s.heap [] := va_S.rf
  have hl : lv_has ls 2 [(0, .ref (ad (18 + 6 * p)))] := hl
  refine lv_aload_n hx hb dP_finishJob_0 rfl (lv_at hl 0 rfl) ?_
  refine gx_get (C := mR_P) (T := mT_P) (N' := 7) (v := .int (nI x)) hx hb ht mh_P hown hV (show 18 + 6 * p < 70 by omega) (cx_E_P hp0) rfl 3 (by decide) (ht _ mw_80) (fun _ h => h) (congrArg (fun z => some (Value.int z)) hjb) dP_finishJob_1 ?_
  refine lv_istore_n (lv' := [(1, .int (nI x)), (0, .ref (ad (18 + 6 * p)))]) hx hb dP_finishJob_4 rfl hl (by decide) rfl (fun ls hl => ?_)
  refine lv_iload_n hx hb dP_finishJob_5 rfl (lv_at hl 0 rfl) ?_
  refine lv_iconst (v := -1) hx hb dP_finishJob_6 (by decide) ?_
  refine lv_icmp_eq (tgt := 33) hx hb dP_finishJob_7 (by decide) (fun h7 => ?_) (fun h7 => ?_)
  · exact absurd h7 (rr_m1 hx2)
  · refine lv_aload_n hx hb dP_finishJob_10 rfl (lv_at hl 1 rfl) ?_
    refine gx_get (C := mR_P) (T := mT_P) (N' := 7) hx hb ht mh_P hown hV (show 18 + 6 * p < 70 by omega) (cx_E_P hp0) rfl 1 (by decide) (ht _ mw_76) (fun _ h => h) rfl dP_finishJob_11 ?_
    refine lv_iload_n hx hb dP_finishJob_14 rfl (lv_at hl 0 rfl) ?_
    refine gx_callv (va_runV (As := [.int (nI x)]) (rest := []) ⟨hx, hb, hml, hown, ht⟩ (k_L_append l (cx_isL_A hp0) hn hn2) (cwV 1 ht (mx_gV (C := "MessageCrossbar$Line") mw_333 mw_256 mw_257 mw_3 mw_258) rfl rfl rfl (by decide +kernel) ⟨Nat.le_of_ble_eq_true rfl, Nat.le_of_ble_eq_true rfl⟩) (gx_preV cx_ok hV hZ hS (q := (mR_L, mT_L, 2)) ((cx_isL_A hp0)).lt.1 (cx_E_L (cx_isL_A hp0)).1 rfl [.int (nI x)]) rfl rfl hl.1 rfl (lv_room (Nat.le_of_ble_eq_true rfl)) dP_finishJob_15 ⟨Nat.le_of_ble_eq_true rfl, Nat.le_of_ble_eq_true rfl⟩) hV hS (fun σ' τ' H locs hp hV hS => ?_)
    cases hp
    refine lv_aload_n hx hb dP_finishJob_18 rfl (lv_at hl 1 rfl) ?_
    refine lv_iconst (v := -1) hx hb dP_finishJob_19 (by decide) ?_
    refine gx_put cx_loc (C := mR_P) (T := mT_P) (N' := 7) (ty := .int) (v := .int (-1)) hx hb ht mh_P mt_P mk_P mn_P hown hV hS (show 18 + 6 * p < 70 by omega) (cx_E_P hp0) rfl 3 (by decide) (ht _ mw_80) (fun _ h => h) rfl (by decide +kernel) rfl rfl (Nat.le_of_ble_eq_true rfl) dP_finishJob_20 (cx_up (cx_app σ (21 + 6 * p) n (nI x)) (18 + 6 * p) 3 (-1)) τ (by rw [cx_E_P hp0]; simp [cx_up, gx_upL]) (fun _ h => cx_up_J h) (fun _ _ => rfl) (fun H locs hV hS => ?_)
    refine lv_aload_n hx hb dP_finishJob_23 rfl (lv_at hl 1 rfl) ?_
    refine lv_dup hx hb dP_finishJob_24 rfl ?_
    refine gx_get (C := mR_P) (T := mT_P) (N' := 7) (v := .int (σ (18 + 6 * p) 5)) hx hb ht mh_P hown hV (show 18 + 6 * p < 70 by omega) (cx_E_P hp0) rfl 5 (by decide) (ht _ mw_84) (fun _ h => h) (congrArg (fun z => some (Value.int z)) ((cx_up_k (by omega)).trans (by rw [cx_app_n (by omega) (by omega)]))) dP_finishJob_25 ?_
    refine lv_iconst (v := nI 1) hx hb dP_finishJob_28 (by decide) ?_
    refine lv_iadd hx hb dP_finishJob_29 ?_
    refine gx_put cx_loc (C := mR_P) (T := mT_P) (N' := 7) (ty := .int) (v := .int (σ (18 + 6 * p) 5 + 1)) hx hb ht mh_P mt_P mk_P mn_P hown hV hS (show 18 + 6 * p < 70 by omega) (cx_E_P hp0) rfl 5 (by decide) (ht _ mw_84) (fun _ h => h) rfl (by decide +kernel) rfl rfl (Nat.le_of_ble_eq_true rfl) dP_finishJob_30 (cx_up (cx_up (cx_app σ (21 + 6 * p) n (nI x)) (18 + 6 * p) 3 (-1)) (18 + 6 * p) 5 (σ (18 + 6 * p) 5 + 1)) τ (by rw [cx_E_P hp0]; simp [cx_up, gx_upL]) (fun _ h => cx_up_J h) (fun _ _ => rfl) (fun H locs hV hS => ?_)
    refine lv_iload_n hx hb dP_finishJob_33 rfl (lv_at hl 0 rfl) ?_
    exact gx_iret hx hb hr hV hS ⟨rfl, rfl⟩ dP_finishJob_34 hlk

set_option maxHeartbeats 4000000 in
set_option maxRecDepth 100000 in
theorem k_P_idsInUse (l : Launch) {D : va_G} {K : Nat → ClassId} {ad : Nat → Nat} {σ : Nat → Nat → Int32} {τ : Nat → Nat → Int64} {p : Nat} (hp0 : p < 4) : Met l yP_idsInUse (Cond.code yP_idsInUse prog_5_method_7_code 3 (some .int) :: mx_T) { frames := 0, cells := 0, slots := 0, locals := 0 } (va_Pc [.ref (ad (18 + 6 * p))] (cx_P D K ad σ τ)) (cx_Qi D K ad (fun rr u => rr = nI (mq_cnt (fun q => decide (σ (23 + 6 * p) q ≠ -1)) 4) ∧ u = (σ, τ))) 0 0 (gx_A ad 70) := by
  refine gx_met (by decide) rfl (Nat.le_of_ble_eq_true rfl) ?_
  intro pg ev s mid as below mth c ls hx hb hr hml ht hown hlk hnm hargs hB hl
  obtain ⟨hV, hZ⟩ := hB
  have hS : va_S (gx_A ad 70) s.heap s.heap [] := va_S.rf
  have hl : lv_has ls 3 [(0, .ref (ad (18 + 6 * p)))] := hl
  refine lv_iconst (v := nI 0) hx hb dP_idsInUse_0 (by decide) ?_
  refine lv_istore_n (lv' := [(1, .int (nI 0)), (0, .ref (ad (18 + 6 * p)))]) hx hb dP_idsInUse_1 rfl hl (by decide) rfl (fun ls hl => ?_)
  refine lv_iconst (v := nI 0) hx hb dP_idsInUse_2 (by decide) ?_
  refine lv_istore_n (lv' := [(2, .int (nI 0)), (1, .int (nI 0)), (0, .ref (ad (18 + 6 * p)))]) hx hb dP_idsInUse_3 rfl hl (by decide) rfl (fun ls hl => ?_)
  have loop : ∀ (k : Nat) (i : Nat) (H : Heap) (locs : List Loc) (ls : Array Slot), i + k = 4 → gx_V D mx_cl (mx_tys K) (cx_E ad K) ad 70 (σ) (τ) s H → va_S (gx_A ad 70) s.heap H locs → lv_has ls 3 [(2, .int (nI i)), (1, .int (nI (mq_cnt (fun q => decide (σ (23 + 6 * p) q ≠ -1)) i))), (0, .ref (ad (18 + 6 * p)))] → W pg l ev (headSpec (Cond.code yP_idsInUse prog_5_method_7_code 3 (some .int) :: mx_T) { frames := 0, cells := 0, slots := 0, locals := 0 }).room s mid as below mth c H locs 0 0 (MQ below (cx_Qi D K ad (fun rr u => rr = nI (mq_cnt (fun q => decide (σ (23 + 6 * p) q ≠ -1)) 4) ∧ u = (σ, τ))) as s 0 0 (gx_A ad 70)) (F0 mid 4 ls []) := by
    intro k
    induction k with
    | zero =>
      intro i H locs ls hk hV hS hl
      refine lv_iload_n hx hb dP_idsInUse_4 rfl (lv_at hl 0 rfl) ?_
      refine lv_iconst (v := nI 4) hx hb dP_idsInUse_5 (by decide) ?_
      refine gx_icmp_ge (a := i) (b := 4) (tgt := 28) hx hb dP_idsInUse_6 (by decide) (by omega) (by omega) (fun h6 => ?_) (fun h6 => ?_)
      · refine lv_iload_n hx hb dP_idsInUse_28 rfl (lv_at hl 1 rfl) ?_
        exact gx_iret hx hb hr hV hS ⟨by rw [show i = 4 by omega], rfl⟩ dP_idsInUse_29 hlk
      · exact absurd h6 (by omega)
    | succ k ih =>
      intro i H locs ls hk hV hS hl
      refine lv_iload_n hx hb dP_idsInUse_4 rfl (lv_at hl 0 rfl) ?_
      refine lv_iconst (v := nI 4) hx hb dP_idsInUse_5 (by decide) ?_
      refine gx_icmp_ge (a := i) (b := 4) (tgt := 28) hx hb dP_idsInUse_6 (by decide) (by omega) (by omega) (fun h6 => ?_) (fun h6 => ?_)
      · exact absurd h6 (by omega)
      · refine lv_aload_n hx hb dP_idsInUse_9 rfl (lv_at hl 2 rfl) ?_
        refine gx_get (C := mR_P) (T := mT_P) (N' := 7) hx hb ht mh_P hown hV (show 18 + 6 * p < 70 by omega) (cx_E_P hp0) rfl 2 (by decide) (ht _ mw_78) (fun _ h => h) rfl dP_idsInUse_10 ?_
        refine lv_iload_n hx hb dP_idsInUse_13 rfl (lv_at hl 0 rfl) ?_
        refine gx_iald hx hb hV (show 23 + 6 * p < 70 by omega) 0 (cx_E_O hp0) rfl i (by omega) (by decide) rfl dP_idsInUse_14 ?_
        refine lv_iconst (v := -1) hx hb dP_idsInUse_15 (by decide) ?_
        refine lv_icmp_eq (tgt := 22) hx hb dP_idsInUse_16 (by decide) (fun h16 => ?_) (fun h16 => ?_)
        · refine lv_iinc (k := 0) (v := (nI (i + 1))) (lv' := [(2, .int (nI (i + 1))), (1, .int (nI (mq_cnt (fun q => decide (σ (23 + 6 * p) q ≠ -1)) i))), (0, .ref (ad (18 + 6 * p)))]) hx hb dP_idsInUse_22 hl rfl (nI_succ i).symm (by decide) rfl (fun ls hl => ?_)
          refine lv_goto (tgt := 4) hx hb dP_idsInUse_25 (by decide) ?_
          exact ih (i + 1) H locs ls (by omega) hV hS (by rw [mq_cnt_f (by simpa using h16)]; exact hl)
        · refine lv_iinc (k := 1) (v := (nI ((mq_cnt (fun q => decide (σ (23 + 6 * p) q ≠ -1)) i) + 1))) (lv' := [(1, .int (nI ((mq_cnt (fun q => decide (σ (23 + 6 * p) q ≠ -1)) i) + 1))), (2, .int (nI i)), (0, .ref (ad (18 + 6 * p)))]) hx hb dP_idsInUse_19 hl rfl (nI_succ (mq_cnt (fun q => decide (σ (23 + 6 * p) q ≠ -1)) i)).symm (by decide) rfl (fun ls hl => ?_)
          refine lv_iinc (k := 1) (v := (nI (i + 1))) (lv' := [(2, .int (nI (i + 1))), (1, .int (nI ((mq_cnt (fun q => decide (σ (23 + 6 * p) q ≠ -1)) i) + 1))), (0, .ref (ad (18 + 6 * p)))]) hx hb dP_idsInUse_22 hl rfl (nI_succ i).symm (by decide) rfl (fun ls hl => ?_)
          refine lv_goto (tgt := 4) hx hb dP_idsInUse_25 (by decide) ?_
          exact ih (i + 1) H locs ls (by omega) hV hS (by rw [mq_cnt_t (by simpa using h16)]; exact hl)
  exact loop 4 0 _ _ ls (by omega) hV hS hl

set_option maxHeartbeats 4000000 in
set_option maxRecDepth 100000 in
theorem k_P_hasRoomForRequest (l : Launch) {D : va_G} {K : Nat → ClassId} {ad : Nat → Nat} {σ : Nat → Nat → Int32} {τ : Nat → Nat → Int64} {p : Nat} (hp0 : p < 4) {n : Nat} (hn : σ (19 + 6 * p) 1 = nI n) (hn2 : n ≤ 2) : Met l yP_hasRoomForRequest (Cond.code yP_hasRoomForRequest prog_5_method_6_code 1 (some .boolean) :: mx_T) { frames := 1, cells := 0, slots := 0, locals := 22 } (va_Pc [.ref (ad (18 + 6 * p))] (cx_P D K ad σ τ)) (cx_Qi D K ad (fun rr u => rr = (if n < 2 ∧ mq_cnt (fun q => decide (σ (23 + 6 * p) q ≠ -1)) 4 < 4 then nI 1 else nI 0) ∧ u = (σ, τ))) 0 0 (gx_A ad 70) := by
  refine gx_met (by decide) rfl (Nat.le_of_ble_eq_true rfl) ?_
  intro pg ev s mid as below mth c ls hx hb hr hml ht hown hlk hnm hargs hB hl
  obtain ⟨hV, hZ⟩ := hB
  have hS : va_S (gx_A ad 70) s.heap s.heap [] := va_S.rf
  have hl : lv_has ls 1 [(0, .ref (ad (18 + 6 * p)))] := hl
  refine lv_aload_n hx hb dP_hasRoomForRequest_0 rfl (lv_at hl 0 rfl) ?_
  refine gx_get (C := mR_P) (T := mT_P) (N' := 7) hx hb ht mh_P hown hV (show 18 + 6 * p < 70 by omega) (cx_E_P hp0) rfl 0 (by decide) (ht _ mw_74) (fun _ h => h) rfl dP_hasRoomForRequest_1 ?_
  refine gx_calli (va_runV (As := []) (rest := []) ⟨hx, hb, hml, hown, ht⟩ (k_L_isFull l (cx_isL_Q hp0) hn hn2) (cwV 0 ht (mx_gV (C := "MessageCrossbar$Line") mw_324 mw_248 mw_249 mw_3 mw_250) rfl rfl rfl (by decide +kernel) ⟨Nat.le_of_ble_eq_true rfl, Nat.le_of_ble_eq_true rfl⟩) (gx_preV cx_ok hV hZ hS (q := (mR_L, mT_L, 2)) ((cx_isL_Q hp0)).lt.1 (cx_E_L (cx_isL_Q hp0)).1 rfl []) rfl rfl hl.1 rfl (lv_room (Nat.le_of_ble_eq_true rfl)) dP_hasRoomForRequest_4 ⟨Nat.le_of_ble_eq_true rfl, Nat.le_of_ble_eq_true rfl⟩) hV hS (fun r1 σ' τ' H locs hp hV hS => ?_)
  obtain ⟨rfl, hu⟩ := hp
  cases hu
  refine gx_ifb_ne (q := 2 ≤ n) (tgt := 22) hx hb dP_hasRoomForRequest_7 (by decide) (fun h7 => ?_) (fun h7 => ?_)
  · refine lv_iconst (v := nI 0) hx hb dP_hasRoomForRequest_22 (by decide) ?_
    exact gx_zret hx hb hr rfl hV hS ⟨(if_neg (fun q => by omega)).symm, rfl⟩ dP_hasRoomForRequest_23 hlk
  · refine lv_aload_n hx hb dP_hasRoomForRequest_10 rfl (lv_at hl 0 rfl) ?_
    refine gx_calli (va_runV (As := []) (rest := []) ⟨hx, hb, hml, hown, ht⟩ (k_P_idsInUse l hp0) (cwV 0 ht (mx_gV (C := "MessageCrossbar$Port") mw_385 mw_386 mw_387 mw_4 mw_388) rfl rfl rfl (by decide +kernel) ⟨Nat.le_of_ble_eq_true rfl, Nat.le_of_ble_eq_true rfl⟩) (gx_preV cx_ok hV hZ hS (q := (mR_P, mT_P, 7)) (show 18 + 6 * p < 70 by omega) (cx_E_P hp0) rfl []) rfl rfl hl.1 rfl (lv_room (Nat.le_of_ble_eq_true rfl)) dP_hasRoomForRequest_11 ⟨Nat.le_of_ble_eq_true rfl, Nat.le_of_ble_eq_true rfl⟩) hV hS (fun r2 σ' τ' H locs hp hV hS => ?_)
    obtain ⟨rfl, hu⟩ := hp
    cases hu
    refine lv_iconst (v := nI 4) hx hb dP_hasRoomForRequest_14 (by decide) ?_
    refine gx_icmp_ge (a := (mq_cnt (fun q => decide (σ (23 + 6 * p) q ≠ -1)) 4)) (b := 4) (tgt := 22) hx hb dP_hasRoomForRequest_15 (by decide) (mq_cnt_le4 _) (by omega) (fun h15 => ?_) (fun h15 => ?_)
    · refine lv_iconst (v := nI 0) hx hb dP_hasRoomForRequest_22 (by decide) ?_
      exact gx_zret hx hb hr rfl hV hS ⟨(if_neg (fun q => absurd q.2 (by omega))).symm, rfl⟩ dP_hasRoomForRequest_23 hlk
    · refine lv_iconst (v := nI 1) hx hb dP_hasRoomForRequest_18 (by decide) ?_
      refine lv_goto (tgt := 23) hx hb dP_hasRoomForRequest_19 (by decide) ?_
      exact gx_zret hx hb hr rfl hV hS ⟨(if_pos ⟨by omega, h15⟩).symm, rfl⟩ dP_hasRoomForRequest_23 hlk

set_option maxHeartbeats 4000000 in
set_option maxRecDepth 100000 in
theorem k_P_takeLeastId (l : Launch) {D : va_G} {K : Nat → ClassId} {ad : Nat → Nat} {σ : Nat → Nat → Int32} {τ : Nat → Nat → Int64} {p : Nat} (hp0 : p < 4) {key : Int32} : Met l yP_takeLeastId (Cond.code yP_takeLeastId prog_5_method_8_code 3 none :: mx_T) { frames := 0, cells := 0, slots := 0, locals := 0 } (va_Pc [.ref (ad (18 + 6 * p)), .int key] (cx_P D K ad σ τ)) (cx_Qv D K ad (fun u => u = ((match mq_fnd (fun q => decide (σ (23 + 6 * p) q = -1)) 0 4 with | none => σ | some i => cx_up σ (23 + 6 * p) i key), τ))) 0 0 (gx_A ad 70) := by
  refine gx_met (by decide) rfl (Nat.le_of_ble_eq_true rfl) ?_
  intro pg ev s mid as below mth c ls hx hb hr hml ht hown hlk hnm hargs hB hl
  obtain ⟨hV, hZ⟩ := hB
  have hS : va_S (gx_A ad 70) s.heap s.heap [] := va_S.rf
  have hl : lv_has ls 3 [(0, .ref (ad (18 + 6 * p))), (1, .int key)] := hl
  refine lv_iconst (v := nI 0) hx hb dP_takeLeastId_0 (by decide) ?_
  refine lv_istore_n (lv' := [(2, .int (nI 0)), (0, .ref (ad (18 + 6 * p))), (1, .int key)]) hx hb dP_takeLeastId_1 rfl hl (by decide) rfl (fun ls hl => ?_)
  have loop : ∀ (k : Nat) (i : Nat) (H : Heap) (locs : List Loc) (ls : Array Slot), i + k = 4 → mq_fnd (fun q => decide (σ (23 + 6 * p) q = -1)) 0 4 = mq_fnd (fun q => decide (σ (23 + 6 * p) q = -1)) i k → gx_V D mx_cl (mx_tys K) (cx_E ad K) ad 70 (σ) (τ) s H → va_S (gx_A ad 70) s.heap H locs → lv_has ls 3 [(2, .int (nI i)), (0, .ref (ad (18 + 6 * p))), (1, .int key)] → W pg l ev (headSpec (Cond.code yP_takeLeastId prog_5_method_8_code 3 none :: mx_T) { frames := 0, cells := 0, slots := 0, locals := 0 }).room s mid as below mth c H locs 0 0 (MQ below (cx_Qv D K ad (fun u => u = ((match mq_fnd (fun q => decide (σ (23 + 6 * p) q = -1)) 0 4 with | none => σ | some i => cx_up σ (23 + 6 * p) i key), τ))) as s 0 0 (gx_A ad 70)) (F0 mid 2 ls []) := by
    intro k
    induction k with
    | zero =>
      intro i H locs ls hk hf hV hS hl
      refine lv_iload_n hx hb dP_takeLeastId_2 rfl (lv_at hl 0 rfl) ?_
      refine lv_iconst (v := nI 4) hx hb dP_takeLeastId_3 (by decide) ?_
      refine gx_icmp_ge (a := i) (b := 4) (tgt := 31) hx hb dP_takeLeastId_4 (by decide) (by omega) (by omega) (fun h4 => ?_) (fun h4 => ?_)
      · exact gx_vret hx hb hr hV hS (by rw [hf]; rfl) dP_takeLeastId_31 hlk
      · exact absurd h4 (by omega)
    | succ k ih =>
      intro i H locs ls hk hf hV hS hl
      refine lv_iload_n hx hb dP_takeLeastId_2 rfl (lv_at hl 0 rfl) ?_
      refine lv_iconst (v := nI 4) hx hb dP_takeLeastId_3 (by decide) ?_
      refine gx_icmp_ge (a := i) (b := 4) (tgt := 31) hx hb dP_takeLeastId_4 (by decide) (by omega) (by omega) (fun h4 => ?_) (fun h4 => ?_)
      · exact absurd h4 (by omega)
      · refine lv_aload_n hx hb dP_takeLeastId_7 rfl (lv_at hl 1 rfl) ?_
        refine gx_get (C := mR_P) (T := mT_P) (N' := 7) hx hb ht mh_P hown hV (show 18 + 6 * p < 70 by omega) (cx_E_P hp0) rfl 2 (by decide) (ht _ mw_78) (fun _ h => h) rfl dP_takeLeastId_8 ?_
        refine lv_iload_n hx hb dP_takeLeastId_11 rfl (lv_at hl 0 rfl) ?_
        refine gx_iald hx hb hV (show 23 + 6 * p < 70 by omega) 0 (cx_E_O hp0) rfl i (by omega) (by decide) rfl dP_takeLeastId_12 ?_
        refine lv_iconst (v := -1) hx hb dP_takeLeastId_13 (by decide) ?_
        refine lv_icmp_ne (tgt := 25) hx hb dP_takeLeastId_14 (by decide) (fun h14 => ?_) (fun h14 => ?_)
        · refine lv_iinc (k := 0) (v := (nI (i + 1))) (lv' := [(2, .int (nI (i + 1))), (0, .ref (ad (18 + 6 * p))), (1, .int key)]) hx hb dP_takeLeastId_25 hl rfl (nI_succ i).symm (by decide) rfl (fun ls hl => ?_)
          refine lv_goto (tgt := 2) hx hb dP_takeLeastId_28 (by decide) ?_
          exact ih (i + 1) H locs ls (by omega) (by rw [hf, mq_fnd_f (by simpa using h14)]) hV hS hl
        · refine lv_aload_n hx hb dP_takeLeastId_17 rfl (lv_at hl 1 rfl) ?_
          refine gx_get (C := mR_P) (T := mT_P) (N' := 7) hx hb ht mh_P hown hV (show 18 + 6 * p < 70 by omega) (cx_E_P hp0) rfl 2 (by decide) (ht _ mw_78) (fun _ h => h) rfl dP_takeLeastId_18 ?_
          refine lv_iload_n hx hb dP_takeLeastId_21 rfl (lv_at hl 0 rfl) ?_
          refine lv_iload_n hx hb dP_takeLeastId_22 rfl (lv_at hl 2 rfl) ?_
          refine gx_iast cx_loc hx hb hV hS (show 23 + 6 * p < 70 by omega) 0 (cx_E_O hp0) rfl i (by omega) (by decide) rfl dP_takeLeastId_23 (cx_up σ (23 + 6 * p) i key) (by rw [cx_E_O hp0, cx_up_upd]) (fun _ h => cx_up_J h) (fun H locs hV hS => ?_)
          exact gx_vret hx hb hr hV hS (by rw [hf, mq_fnd_t (by simpa using h14)]) dP_takeLeastId_24 hlk
  exact loop 4 0 _ _ ls (by omega) rfl hV hS hl

set_option maxHeartbeats 4000000 in
set_option maxRecDepth 100000 in
theorem k_P_releaseId (l : Launch) {D : va_G} {K : Nat → ClassId} {ad : Nat → Nat} {σ : Nat → Nat → Int32} {τ : Nat → Nat → Int64} {p : Nat} (hp0 : p < 4) {key : Int32} : Met l yP_releaseId (Cond.code yP_releaseId prog_5_method_9_code 3 none :: mx_T) { frames := 0, cells := 0, slots := 0, locals := 0 } (va_Pc [.ref (ad (18 + 6 * p)), .int key] (cx_P D K ad σ τ)) (cx_Qv D K ad (fun u => u = (cx_rel σ p key, τ))) 0 0 (gx_A ad 70) := by
  refine gx_met (by decide) rfl (Nat.le_of_ble_eq_true rfl) ?_
  intro pg ev s mid as below mth c ls hx hb hr hml ht hown hlk hnm hargs hB hl
  obtain ⟨hV, hZ⟩ := hB
  have hS : va_S (gx_A ad 70) s.heap s.heap [] := va_S.rf
  have hl : lv_has ls 3 [(0, .ref (ad (18 + 6 * p))), (1, .int key)] := hl
  refine lv_iconst (v := nI 0) hx hb dP_releaseId_0 (by decide) ?_
  refine lv_istore_n (lv' := [(2, .int (nI 0)), (0, .ref (ad (18 + 6 * p))), (1, .int key)]) hx hb dP_releaseId_1 rfl hl (by decide) rfl (fun ls hl => ?_)
  have loop : ∀ (k : Nat) (i : Nat) (H : Heap) (locs : List Loc) (ls : Array Slot), i + k = 4 → gx_V D mx_cl (mx_tys K) (cx_E ad K) ad 70 (cx_relN σ p key i) (τ) s H → va_S (gx_A ad 70) s.heap H locs → lv_has ls 3 [(2, .int (nI i)), (0, .ref (ad (18 + 6 * p))), (1, .int key)] → W pg l ev (headSpec (Cond.code yP_releaseId prog_5_method_9_code 3 none :: mx_T) { frames := 0, cells := 0, slots := 0, locals := 0 }).room s mid as below mth c H locs 0 0 (MQ below (cx_Qv D K ad (fun u => u = (cx_rel σ p key, τ))) as s 0 0 (gx_A ad 70)) (F0 mid 2 ls []) := by
    intro k
    induction k with
    | zero =>
      intro i H locs ls hk hV hS hl
      refine lv_iload_n hx hb dP_releaseId_2 rfl (lv_at hl 0 rfl) ?_
      refine lv_iconst (v := nI 4) hx hb dP_releaseId_3 (by decide) ?_
      refine gx_icmp_ge (a := i) (b := 4) (tgt := 30) hx hb dP_releaseId_4 (by decide) (by omega) (by omega) (fun h4 => ?_) (fun h4 => ?_)
      · exact gx_vret hx hb hr hV hS (by rw [show i = 4 by omega]; rfl) dP_releaseId_30 hlk
      · exact absurd h4 (by omega)
    | succ k ih =>
      intro i H locs ls hk hV hS hl
      refine lv_iload_n hx hb dP_releaseId_2 rfl (lv_at hl 0 rfl) ?_
      refine lv_iconst (v := nI 4) hx hb dP_releaseId_3 (by decide) ?_
      refine gx_icmp_ge (a := i) (b := 4) (tgt := 30) hx hb dP_releaseId_4 (by decide) (by omega) (by omega) (fun h4 => ?_) (fun h4 => ?_)
      · exact absurd h4 (by omega)
      · refine lv_aload_n hx hb dP_releaseId_7 rfl (lv_at hl 1 rfl) ?_
        refine gx_get (C := mR_P) (T := mT_P) (N' := 7) hx hb ht mh_P hown hV (show 18 + 6 * p < 70 by omega) (cx_E_P hp0) rfl 2 (by decide) (ht _ mw_78) (fun _ h => h) rfl dP_releaseId_8 ?_
        refine lv_iload_n hx hb dP_releaseId_11 rfl (lv_at hl 0 rfl) ?_
        refine gx_ialdv (v := σ (23 + 6 * p) i) hx hb hV (show 23 + 6 * p < 70 by omega) 0 (cx_E_O hp0) rfl i (by omega) (by decide) rfl cx_relN_r dP_releaseId_12 ?_
        refine lv_iload_n hx hb dP_releaseId_13 rfl (lv_at hl 2 rfl) ?_
        refine lv_icmp_ne (tgt := 24) hx hb dP_releaseId_14 (by decide) (fun h14 => ?_) (fun h14 => ?_)
        · refine lv_iinc (k := 0) (v := (nI (i + 1))) (lv' := [(2, .int (nI (i + 1))), (0, .ref (ad (18 + 6 * p))), (1, .int key)]) hx hb dP_releaseId_24 hl rfl (nI_succ i).symm (by decide) rfl (fun ls hl => ?_)
          refine lv_goto (tgt := 2) hx hb dP_releaseId_27 (by decide) ?_
          exact ih (i + 1) H locs ls (by omega) (by rw [cx_relN_f h14]; exact hV) hS hl
        · refine lv_aload_n hx hb dP_releaseId_17 rfl (lv_at hl 1 rfl) ?_
          refine gx_get (C := mR_P) (T := mT_P) (N' := 7) hx hb ht mh_P hown hV (show 18 + 6 * p < 70 by omega) (cx_E_P hp0) rfl 2 (by decide) (ht _ mw_78) (fun _ h => h) rfl dP_releaseId_18 ?_
          refine lv_iload_n hx hb dP_releaseId_21 rfl (lv_at hl 0 rfl) ?_
          refine lv_iconst (v := -1) hx hb dP_releaseId_22 (by decide) ?_
          refine gx_iast cx_loc hx hb hV hS (show 23 + 6 * p < 70 by omega) 0 (cx_E_O hp0) rfl i (by omega) (by decide) rfl dP_releaseId_23 (cx_up (cx_relN σ p key i) (23 + 6 * p) i (-1)) (by rw [cx_E_O hp0, cx_up_upd]) (fun _ h => cx_up_J h) (fun H locs hV hS => ?_)
          refine lv_iinc (k := 0) (v := (nI (i + 1))) (lv' := [(2, .int (nI (i + 1))), (0, .ref (ad (18 + 6 * p))), (1, .int key)]) hx hb dP_releaseId_24 hl rfl (nI_succ i).symm (by decide) rfl (fun ls hl => ?_)
          refine lv_goto (tgt := 2) hx hb dP_releaseId_27 (by decide) ?_
          exact ih (i + 1) H locs ls (by omega) (by rw [cx_relN_t h14]; exact hV) hS hl
  exact loop 4 0 _ _ ls (by omega) (by rw [cx_relN_0]; exact hV) hS hl
end
section
/-! the crossbar's own methods: answers -/
theorem rr_firstI {σ : Nat → Nat → Int32} {ρ : Nat → Nat → Nat} {pl : Nat → Nat → List Nat} (hL : rr_L σ pl) (hP : mq_Pl ρ pl) {w g : Nat} (hk : mq_ok w g) (hw : w ≠ 3) : (if (pl w g).length = 0 then -1 else σ (rr_ln w g + 1) 0) = mq_oI (mq_first ρ w g) := by
  rw [hP.first hk]
  have h := (hL w g hk hw).1
  cases hh : pl w g with
  | nil => rfl
  | cons x t =>
    rw [hh] at h
    rw [if_neg (by simp), h.first]
    rfl
theorem rr_first_lt {ρ : Nat → Nat → Nat} {pl : Nat → Nat → List Nat} (hP : mq_Pl ρ pl) {w g x : Nat} (hk : mq_ok w g) (h : mq_first ρ w g = some x) : x < 24 := by
  obtain ⟨t, ht⟩ := mq_first_of hP hk h
  exact (hP.mem hk (x := x) (by rw [ht]; simp)).1
theorem cx_m8 {x : Nat} (hx : x < 24) : nI x >>> (nI 3 &&& 31) = nI (x / 8) := pk_shrN (by omega) (nI 3 &&& 31) 3 (by decide)

set_option maxHeartbeats 4000000 in
set_option maxRecDepth 100000 in
theorem k_X_anyJobRuns (l : Launch) {D : va_G} {K : Nat → ClassId} {ad : Nat → Nat} {σ : Nat → Nat → Int32} {τ : Nat → Nat → Int64} {tl : Nat → Nat} (htl : ∀ q, q < 4 → σ (18 + 6 * q) 4 = nI (tl q) ∧ tl q < 16) : Met l yX_anyJobRuns (Cond.code yX_anyJobRuns prog_1_method_14_code 2 (some .boolean) :: mx_T) { frames := 0, cells := 0, slots := 0, locals := 0 } (va_Pc [.ref (ad 0)] (cx_P D K ad σ τ)) (cx_Qi D K ad (fun rr u => rr = (if (mq_fnd (fun q => decide (0 < tl q)) 0 4).isSome = true then nI 1 else nI 0) ∧ u = (σ, τ))) 0 0 (gx_A ad 70) := by
  refine gx_met (by decide) rfl (Nat.le_of_ble_eq_true rfl) ?_
  intro pg ev s mid as below mth c ls hx hb hr hml ht hown hlk hnm hargs hB hl
  obtain ⟨hV, hZ⟩ := hB
  have hS : va_S (gx_A ad 70) s.heap s.heap [] := va_S.rf
  have hl : lv_has ls 2 [(0, .ref (ad 0))] := hl
  refine lv_iconst (v := nI 0) hx hb dX_anyJobRuns_0 (by decide) ?_
  refine lv_istore_n (lv' := [(1, .int (nI 0)), (0, .ref (ad 0))]) hx hb dX_anyJobRuns_1 rfl hl (by decide) rfl (fun ls hl => ?_)
  have loop : ∀ (k : Nat) (i : Nat) (H : Heap) (locs : List Loc) (ls : Array Slot), i + k = 4 → mq_fnd (fun q => decide (0 < tl q)) 0 4 = mq_fnd (fun q => decide (0 < tl q)) i k → gx_V D mx_cl (mx_tys K) (cx_E ad K) ad 70 (σ) (τ) s H → va_S (gx_A ad 70) s.heap H locs → lv_has ls 2 [(1, .int (nI i)), (0, .ref (ad 0))] → W pg l ev (headSpec (Cond.code yX_anyJobRuns prog_1_method_14_code 2 (some .boolean) :: mx_T) { frames := 0, cells := 0, slots := 0, locals := 0 }).room s mid as below mth c H locs 0 0 (MQ below (cx_Qi D K ad (fun rr u => rr = (if (mq_fnd (fun q => decide (0 < tl q)) 0 4).isSome = true then nI 1 else nI 0) ∧ u = (σ, τ))) as s 0 0 (gx_A ad 70)) (F0 mid 2 ls []) := by
    intro k
    induction k with
    | zero =>
      intro i H locs ls hk hf hV hS hl
      refine lv_iload_n hx hb dX_anyJobRuns_2 rfl (lv_at hl 0 rfl) ?_
      refine lv_iconst (v := nI 4) hx hb dX_anyJobRuns_3 (by decide) ?_
      refine gx_icmp_ge (a := i) (b := 4) (tgt := 27) hx hb dX_anyJobRuns_4 (by decide) (by omega) (by omega) (fun h4 => ?_) (fun h4 => ?_)
      · refine lv_iconst (v := nI 0) hx hb dX_anyJobRuns_27 (by decide) ?_
        exact gx_zret hx hb hr rfl hV hS ⟨by rw [hf]; rfl, rfl⟩ dX_anyJobRuns_28 hlk
      · exact absurd h4 (by omega)
    | succ k ih =>
      intro i H locs ls hk hf hV hS hl
      refine lv_iload_n hx hb dX_anyJobRuns_2 rfl (lv_at hl 0 rfl) ?_
      refine lv_iconst (v := nI 4) hx hb dX_anyJobRuns_3 (by decide) ?_
      refine gx_icmp_ge (a := i) (b := 4) (tgt := 27) hx hb dX_anyJobRuns_4 (by decide) (by omega) (by omega) (fun h4 => ?_) (fun h4 => ?_)
      · exact absurd h4 (by omega)
      · refine lv_aload_n hx hb dX_anyJobRuns_7 rfl (lv_at hl 1 rfl) ?_
        refine gx_get (C := mR_X) (T := mT_X) (N' := 7) hx hb ht mh_X hown hV (by decide) cx_E_X rfl 1 (by decide) (ht _ mw_130) (fun _ h => h) rfl dX_anyJobRuns_8 ?_
        refine lv_iload_n hx hb dX_anyJobRuns_11 rfl (lv_at hl 0 rfl) ?_
        refine gx_aald hx hb hV (by decide) 5 cx_E_Ps rfl i (by omega) (by decide) rfl rfl dX_anyJobRuns_12 ?_
        refine gx_get (C := mR_P) (T := mT_P) (N' := 7) (v := .int (nI (tl i))) hx hb ht mh_P hown hV (show 18 + 6 * i < 70 by omega) (cx_E_P (by omega)) rfl 4 (by decide) (ht _ mw_83) (fun _ h => h) (congrArg (fun z => some (Value.int z)) (htl i (by omega)).1) dX_anyJobRuns_13 ?_
        refine gx_if_le (a := (tl i)) (tgt := 21) hx hb dX_anyJobRuns_16 (by decide) (by have := (htl i (by omega)).2; omega) (fun h16 => ?_) (fun h16 => ?_)
        · refine lv_iinc (k := 0) (v := (nI (i + 1))) (lv' := [(1, .int (nI (i + 1))), (0, .ref (ad 0))]) hx hb dX_anyJobRuns_21 hl rfl (nI_succ i).symm (by decide) rfl (fun ls hl => ?_)
          refine lv_goto (tgt := 2) hx hb dX_anyJobRuns_24 (by decide) ?_
          exact ih (i + 1) H locs ls (by omega) (by rw [hf, mq_fnd_f (by simpa using h16)]) hV hS hl
        · refine lv_iconst (v := nI 1) hx hb dX_anyJobRuns_19 (by decide) ?_
          exact gx_zret hx hb hr rfl hV hS ⟨by rw [hf, mq_fnd_t (by simpa using h16)]; rfl, rfl⟩ dX_anyJobRuns_20 hlk
  exact loop 4 0 _ _ ls (by omega) rfl hV hS hl

set_option maxHeartbeats 4000000 in
set_option maxRecDepth 100000 in
theorem k_X_countStillTicks (l : Launch) {D : va_G} {K : Nat → ClassId} {ad : Nat → Nat} {σ : Nat → Nat → Int32} {τ : Nat → Nat → Int64} {n : Int32} : Met l yX_countStillTicks (Cond.code yX_countStillTicks prog_1_method_15_code 2 none :: mx_T) { frames := 0, cells := 0, slots := 0, locals := 0 } (va_Pc [.ref (ad 0), .int n] (cx_P D K ad σ τ)) (cx_Qv D K ad (fun u => u = (cx_up (cx_up σ 69 0 (σ 69 0 + n)) 69 7 (σ 69 7 + n), τ))) 0 0 (gx_A ad 70) := by
  refine gx_met (by decide) rfl (Nat.le_of_ble_eq_true rfl) ?_
  intro pg ev s mid as below mth c ls hx hb hr hml ht hown hlk hnm hargs hB hl
  obtain ⟨hV, hZ⟩ := hB
  have hS : va_S (gx_A ad 70) s.heap s.heap [] := va_S.rf
  have hl : lv_has ls 2 [(0, .ref (ad 0)), (1, .int n)] := hl
  refine lv_aload_n hx hb dX_countStillTicks_0 rfl (lv_at hl 0 rfl) ?_
  refine gx_get (C := mR_X) (T := mT_X) (N' := 7) hx hb ht mh_X hown hV (by decide) cx_E_X rfl 5 (by decide) (ht _ mw_134) (fun _ h => h) rfl dX_countStillTicks_1 ?_
  refine lv_iconst (v := nI 0) hx hb dX_countStillTicks_4 (by decide) ?_
  refine lv_dup2_11 hx hb dX_countStillTicks_5 rfl rfl ?_
  refine gx_iald hx hb hV (by decide) 0 cx_E_Ct rfl 0 (by decide) (by decide) rfl dX_countStillTicks_6 ?_
  refine lv_iload_n hx hb dX_countStillTicks_7 rfl (lv_at hl 1 rfl) ?_
  refine lv_iadd hx hb dX_countStillTicks_8 ?_
  refine gx_iast cx_loc hx hb hV hS (by decide) 0 cx_E_Ct rfl 0 (by decide) (by decide) rfl dX_countStillTicks_9 (cx_up σ 69 0 ((σ 69 0) + n)) (by rw [cx_E_Ct, cx_up_upd]) (fun _ h => cx_up_J h) (fun H locs hV hS => ?_)
  refine lv_aload_n hx hb dX_countStillTicks_10 rfl (lv_at hl 0 rfl) ?_
  refine gx_get (C := mR_X) (T := mT_X) (N' := 7) hx hb ht mh_X hown hV (by decide) cx_E_X rfl 5 (by decide) (ht _ mw_134) (fun _ h => h) rfl dX_countStillTicks_11 ?_
  refine lv_bipush (v := nI 7) hx hb dX_countStillTicks_14 (by decide) ?_
  refine lv_dup2_11 hx hb dX_countStillTicks_16 rfl rfl ?_
  refine gx_ialdv (v := σ 69 7) hx hb hV (by decide) 0 cx_E_Ct rfl 7 (by decide) (by decide) rfl (cx_up_k (by decide)) dX_countStillTicks_17 ?_
  refine lv_iload_n hx hb dX_countStillTicks_18 rfl (lv_at hl 1 rfl) ?_
  refine lv_iadd hx hb dX_countStillTicks_19 ?_
  refine gx_iast cx_loc hx hb hV hS (by decide) 0 cx_E_Ct rfl 7 (by decide) (by decide) rfl dX_countStillTicks_20 (cx_up (cx_up σ 69 0 ((σ 69 0) + n)) 69 7 (σ 69 7 + n)) (by rw [cx_E_Ct, cx_up_upd]) (fun _ h => cx_up_J h) (fun H locs hV hS => ?_)
  exact gx_vret hx hb hr hV hS rfl dX_countStillTicks_21 hlk

set_option maxHeartbeats 4000000 in
set_option maxRecDepth 100000 in
theorem k_X_nextAnsweringPort (l : Launch) {D : va_G} {K : Nat → ClassId} {ad : Nat → Nat} {σ : Nat → Nat → Int32} {τ : Nat → Nat → Int64} {m : Nat} (hm : m < 3) {ρ : Nat → Nat → Nat} {μ : Nat → Int64} {lt : Int64} {pl : Nat → Nat → List Nat} (hR : rr_R σ τ ρ μ lt pl) : Met l yX_nextAnsweringPort (Cond.code yX_nextAnsweringPort prog_1_method_17_code 5 (some .int) :: mx_T) { frames := 2, cells := 0, slots := 0, locals := 40 } (va_Pc [.ref (ad 0), .int (nI m)] (cx_P D K ad σ τ)) (cx_Qi D K ad (fun rr u => rr = mq_oI ((mq_ansD ρ m).map (fun k => (ρ 10 m + k) % 4)) ∧ u = (σ, τ))) 0 0 (gx_A ad 70) := by
  refine gx_met (by decide) rfl (Nat.le_of_ble_eq_true rfl) ?_
  intro pg ev s mid as below mth c ls hx hb hr hml ht hown hlk hnm hargs hB hl
  obtain ⟨hV, hZ⟩ := hB
  have hS : va_S (gx_A ad 70) s.heap s.heap [] := va_S.rf
  have hl : lv_has ls 5 [(0, .ref (ad 0)), (1, .int (nI m))] := hl
  obtain ⟨hL, hP, hJ, hM, hO, hG, hBB, hT⟩ := hR
  obtain ⟨⟨lp, hlp, hlp1, hlp2⟩, ⟨h9a, h9b⟩, -⟩ := hM m hm
  have ok5 : mq_ok 5 m := Or.inl ⟨by simp, hm⟩
  have hbx := hL 5 m ok5 (by omega)
  rw [show rr_ln 5 m = 5 + 5 * m by simp [rr_ln], show rr_room 5 = 4 from rfl] at hbx
  refine lv_aload_n hx hb dX_nextAnsweringPort_0 rfl (lv_at hl 0 rfl) ?_
  refine gx_get (C := mR_X) (T := mT_X) (N' := 7) hx hb ht mh_X hown hV (by decide) cx_E_X rfl 0 (by decide) (ht _ mw_129) (fun _ h => h) rfl dX_nextAnsweringPort_1 ?_
  refine lv_iload_n hx hb dX_nextAnsweringPort_4 rfl (lv_at hl 1 rfl) ?_
  refine gx_aald hx hb hV (by decide) 4 cx_E_Ms rfl m hm (by decide) rfl rfl dX_nextAnsweringPort_5 ?_
  refine gx_calli (va_runV (As := []) (rest := []) ⟨hx, hb, hml, hown, ht⟩ (k_M_hasRoomForAnswer l hm (ac := 1 - ρ 9 m) (n := (pl 5 m).length) h9b (by omega) hbx.1.1 hbx.2) (cwV 0 ht (mx_gV (C := "MessageCrossbar$Master") mw_285 mw_286 mw_287 mw_2 mw_288) rfl rfl rfl (by decide +kernel) ⟨Nat.le_of_ble_eq_true rfl, Nat.le_of_ble_eq_true rfl⟩) (gx_preV cx_ok hV hZ hS (q := (mR_M, mT_M, 5)) (show 2 + 5 * m < 70 by omega) (cx_E_M hm) rfl []) rfl rfl hl.1 rfl (lv_room (Nat.le_of_ble_eq_true rfl)) dX_nextAnsweringPort_6 ⟨Nat.le_of_ble_eq_true rfl, Nat.le_of_ble_eq_true rfl⟩) hV hS (fun r1 σ' τ' H locs hp hV hS => ?_)
  obtain ⟨rfl, hu⟩ := hp
  cases hu
  refine gx_ifb_ne (q := 1 - ρ 9 m ≠ 0 ∧ (pl 5 m).length < 4) (tgt := 14) hx hb dX_nextAnsweringPort_9 (by decide) (fun h9 => ?_) (fun h9 => ?_)
  · refine lv_iconst (v := nI 1) hx hb dX_nextAnsweringPort_14 (by decide) ?_
    refine lv_istore_n (lv' := [(2, .int (nI 1)), (0, .ref (ad 0)), (1, .int (nI m))]) hx hb dX_nextAnsweringPort_15 rfl hl (by decide) rfl (fun ls hl => ?_)
    have loop : ∀ (k : Nat) (i : Nat) (H : Heap) (locs : List Loc) (ls : Array Slot), i + k = 4 → mq_fnd (mq_ansK ρ m) 0 4 = mq_fnd (mq_ansK ρ m) i k → gx_V D mx_cl (mx_tys K) (cx_E ad K) ad 70 (σ) (τ) s H → va_S (gx_A ad 70) s.heap H locs → lv_has ls 5 [(2, .int (nI (i + 1))), (0, .ref (ad 0)), (1, .int (nI m))] → W pg l ev (headSpec (Cond.code yX_nextAnsweringPort prog_1_method_17_code 5 (some .int) :: mx_T) { frames := 2, cells := 0, slots := 0, locals := 40 }).room s mid as below mth c H locs 0 0 (MQ below (cx_Qi D K ad (fun rr u => rr = mq_oI ((mq_ansD ρ m).map (fun k => (ρ 10 m + k) % 4)) ∧ u = (σ, τ))) as s 0 0 (gx_A ad 70)) (F0 mid 16 ls []) := by
      intro k
      induction k with
      | zero =>
        intro i H locs ls hk hf hV hS hl
        refine lv_iload_n hx hb dX_nextAnsweringPort_16 rfl (lv_at hl 0 rfl) ?_
        refine lv_iconst (v := nI 4) hx hb dX_nextAnsweringPort_17 (by decide) ?_
        refine gx_icmp_gt (a := (i + 1)) (b := 4) (tgt := 73) hx hb dX_nextAnsweringPort_18 (by decide) (by omega) (by omega) (fun h18 => ?_) (fun h18 => ?_)
        · refine lv_iconst (v := -1) hx hb dX_nextAnsweringPort_73 (by decide) ?_
          exact gx_iret hx hb hr hV hS ⟨by rw [show mq_ansD ρ m = none from (if_neg (by rw [hP.many ok5]; omega)).trans hf]; rfl, rfl⟩ dX_nextAnsweringPort_74 hlk
        · exact absurd h18 (by omega)
      | succ k ih =>
        intro i H locs ls hk hf hV hS hl
        refine lv_iload_n hx hb dX_nextAnsweringPort_16 rfl (lv_at hl 0 rfl) ?_
        refine lv_iconst (v := nI 4) hx hb dX_nextAnsweringPort_17 (by decide) ?_
        refine gx_icmp_gt (a := (i + 1)) (b := 4) (tgt := 73) hx hb dX_nextAnsweringPort_18 (by decide) (by omega) (by omega) (fun h18 => ?_) (fun h18 => ?_)
        · exact absurd h18 (by omega)
        · refine lv_aload_n hx hb dX_nextAnsweringPort_21 rfl (lv_at hl 1 rfl) ?_
          refine gx_get (C := mR_X) (T := mT_X) (N' := 7) hx hb ht mh_X hown hV (by decide) cx_E_X rfl 0 (by decide) (ht _ mw_129) (fun _ h => h) rfl dX_nextAnsweringPort_22 ?_
          refine lv_iload_n hx hb dX_nextAnsweringPort_25 rfl (lv_at hl 2 rfl) ?_
          refine gx_aald hx hb hV (by decide) 4 cx_E_Ms rfl m hm (by decide) rfl rfl dX_nextAnsweringPort_26 ?_
          refine gx_get (C := mR_M) (T := mT_M) (N' := 5) (v := .int (nI lp)) hx hb ht mh_M hown hV (show 2 + 5 * m < 70 by omega) (cx_E_M hm) rfl 4 (by decide) (ht _ mw_53) (fun _ h => h) (congrArg (fun z => some (Value.int z)) hlp1) dX_nextAnsweringPort_27 ?_
          refine lv_iload_n hx hb dX_nextAnsweringPort_30 rfl (lv_at hl 0 rfl) ?_
          refine lv_iconst (v := nI 4) hx hb dX_nextAnsweringPort_31 (by decide) ?_
          refine gx_callp (va_runS (As := [.int (nI lp), .int (nI (i + 1)), .int (nI 4)]) (rest := []) ⟨hx, hb, hml, hown, ht⟩ (k_X_stepBehind l (a := lp) (b := i + 1) (n := 4) (by omega) (by omega) (by omega)) (cwS 3 ht (mx_gS mw_290 mw_291 mw_1 mw_292) rfl rfl rfl (by decide +kernel) ⟨Nat.le_of_ble_eq_true rfl, Nat.le_of_ble_eq_true rfl⟩) (gx_preP [.int (nI lp), .int (nI (i + 1)), .int (nI 4)]) rfl rfl hl.1 rfl (lv_room (Nat.le_of_ble_eq_true rfl)) dX_nextAnsweringPort_32 ⟨Nat.le_of_ble_eq_true rfl, Nat.le_of_ble_eq_true rfl⟩) hV hS (fun r2 H locs hp hV hS => ?_)
          rw [show (if 4 ≤ lp + (i + 1) then lp + (i + 1) - 4 else lp + (i + 1)) = (ρ 10 m + i) % 4 by split <;> omega] at hp
          subst hp
          have hq4 : (ρ 10 m + i) % 4 < 4 := by omega
          have okq : mq_ok 4 (3 + (ρ 10 m + i) % 4) := Or.inr ⟨by simp, by omega, by omega⟩
          have hlq := hL 4 _ okq (by omega)
          have hfq := rr_firstI hL hP okq (by omega)
          rw [show rr_ln 4 (3 + (ρ 10 m + i) % 4) = 21 + 6 * ((ρ 10 m + i) % 4) by simp [rr_ln]] at hlq hfq
          refine lv_istore_n (lv' := [(3, .int (nI ((ρ 10 m + i) % 4))), (2, .int (nI (i + 1))), (0, .ref (ad 0)), (1, .int (nI m))]) hx hb dX_nextAnsweringPort_35 rfl hl (by decide) rfl (fun ls hl => ?_)
          refine lv_aload_n hx hb dX_nextAnsweringPort_36 rfl (lv_at hl 2 rfl) ?_
          refine gx_get (C := mR_X) (T := mT_X) (N' := 7) hx hb ht mh_X hown hV (by decide) cx_E_X rfl 1 (by decide) (ht _ mw_130) (fun _ h => h) rfl dX_nextAnsweringPort_37 ?_
          refine lv_iload_n hx hb dX_nextAnsweringPort_40 rfl (lv_at hl 0 rfl) ?_
          refine gx_aald hx hb hV (by decide) 5 cx_E_Ps rfl ((ρ 10 m + i) % 4) hq4 (by decide) rfl rfl dX_nextAnsweringPort_41 ?_
          refine gx_get (C := mR_P) (T := mT_P) (N' := 7) hx hb ht mh_P hown hV (show 18 + 6 * ((ρ 10 m + i) % 4) < 70 by omega) (cx_E_P hq4) rfl 1 (by decide) (ht _ mw_77) (fun _ h => h) rfl dX_nextAnsweringPort_42 ?_
          refine gx_calli (va_runV (As := []) (rest := []) ⟨hx, hb, hml, hown, ht⟩ (k_L_first l (cx_isL_A hq4) hlq.1.1 hlq.2) (cwV 0 ht (mx_gV (C := "MessageCrossbar$Line") mw_293 mw_294 mw_295 mw_3 mw_296) rfl rfl rfl (by decide +kernel) ⟨Nat.le_of_ble_eq_true rfl, Nat.le_of_ble_eq_true rfl⟩) (gx_preV cx_ok hV hZ hS (q := (mR_L, mT_L, 2)) ((cx_isL_A hq4)).lt.1 (cx_E_L (cx_isL_A hq4)).1 rfl []) rfl rfl hl.1 rfl (lv_room (Nat.le_of_ble_eq_true rfl)) dX_nextAnsweringPort_45 ⟨Nat.le_of_ble_eq_true rfl, Nat.le_of_ble_eq_true rfl⟩) hV hS (fun r3 σ' τ' H locs hp hV hS => ?_)
          obtain ⟨hp, hu⟩ := hp
          cases hu
          rw [hfq] at hp
          subst hp
          cases hq : mq_first ρ 4 (3 + (ρ 10 m + i) % 4) with
          | none =>
            refine lv_istore (lv' := [(4, .int (-1)), (3, .int (nI ((ρ 10 m + i) % 4))), (2, .int (nI (i + 1))), (0, .ref (ad 0)), (1, .int (nI m))]) hx hb dX_nextAnsweringPort_48 hl (by decide) rfl (fun ls hl => ?_)
            refine lv_iload hx hb dX_nextAnsweringPort_50 (lv_at hl 0 rfl) ?_
            refine lv_iconst (v := -1) hx hb dX_nextAnsweringPort_52 (by decide) ?_
            refine lv_icmp_eq (tgt := 67) hx hb dX_nextAnsweringPort_53 (by decide) (fun h53 => ?_) (fun h53 => ?_)
            · refine lv_iinc (k := 2) (v := (nI ((i + 1) + 1))) (lv' := [(2, .int (nI ((i + 1) + 1))), (4, .int (-1)), (3, .int (nI ((ρ 10 m + i) % 4))), (0, .ref (ad 0)), (1, .int (nI m))]) hx hb dX_nextAnsweringPort_67 hl rfl (nI_succ (i + 1)).symm (by decide) rfl (fun ls hl => ?_)
              refine lv_goto (tgt := 16) hx hb dX_nextAnsweringPort_70 (by decide) ?_
              exact ih (i + 1) H locs ls (by omega) (by rw [hf, mq_fnd_f (by simp [mq_ansK, hq])]) hV hS (lv_sub hl [0, 3, 4] rfl)
            · exact absurd rfl h53
          | some x =>
            have hx24 := rr_first_lt hP okq hq
            refine lv_istore (lv' := [(4, .int (nI x)), (3, .int (nI ((ρ 10 m + i) % 4))), (2, .int (nI (i + 1))), (0, .ref (ad 0)), (1, .int (nI m))]) hx hb dX_nextAnsweringPort_48 hl (by decide) rfl (fun ls hl => ?_)
            refine lv_iload hx hb dX_nextAnsweringPort_50 (lv_at hl 0 rfl) ?_
            refine lv_iconst (v := -1) hx hb dX_nextAnsweringPort_52 (by decide) ?_
            refine lv_icmp_eq (tgt := 67) hx hb dX_nextAnsweringPort_53 (by decide) (fun h53 => ?_) (fun h53 => ?_)
            · exact absurd h53 (rr_m1 hx24)
            · refine lv_iload hx hb dX_nextAnsweringPort_56 (lv_at hl 0 rfl) ?_
              refine gx_callp (va_runS (As := [.int (nI x)]) (rest := []) ⟨hx, hb, hml, hown, ht⟩ (k_X_masterOf l) (cwS 1 ht (mx_gS mw_297 mw_298 mw_1 mw_299) rfl rfl rfl (by decide +kernel) ⟨Nat.le_of_ble_eq_true rfl, Nat.le_of_ble_eq_true rfl⟩) (gx_preP [.int (nI x)]) rfl rfl hl.1 rfl (lv_room (Nat.le_of_ble_eq_true rfl)) dX_nextAnsweringPort_58 ⟨Nat.le_of_ble_eq_true rfl, Nat.le_of_ble_eq_true rfl⟩) hV hS (fun r4 H locs hp hV hS => ?_)
              rw [cx_m8 hx24] at hp
              subst hp
              refine lv_iload_n hx hb dX_nextAnsweringPort_61 rfl (lv_at hl 4 rfl) ?_
              refine gx_icmp_ne (a := (x / 8)) (b := m) (tgt := 67) hx hb dX_nextAnsweringPort_62 (by decide) (by omega) (by omega) (fun h62 => ?_) (fun h62 => ?_)
              · refine lv_iinc (k := 2) (v := (nI ((i + 1) + 1))) (lv' := [(2, .int (nI ((i + 1) + 1))), (4, .int (nI x)), (3, .int (nI ((ρ 10 m + i) % 4))), (0, .ref (ad 0)), (1, .int (nI m))]) hx hb dX_nextAnsweringPort_67 hl rfl (nI_succ (i + 1)).symm (by decide) rfl (fun ls hl => ?_)
                refine lv_goto (tgt := 16) hx hb dX_nextAnsweringPort_70 (by decide) ?_
                exact ih (i + 1) H locs ls (by omega) (by rw [hf, mq_fnd_f (by simp [mq_ansK, hq, h62])]) hV hS (lv_sub hl [0, 3, 4] rfl)
              · refine lv_iload_n hx hb dX_nextAnsweringPort_65 rfl (lv_at hl 1 rfl) ?_
                exact gx_iret hx hb hr hV hS ⟨by rw [show mq_ansD ρ m = some i from (if_neg (by rw [hP.many ok5]; omega)).trans (hf.trans (mq_fnd_t (by simp [mq_ansK, hq, h62])))]; rfl, rfl⟩ dX_nextAnsweringPort_66 hlk
    exact loop 4 0 _ _ ls (by omega) rfl hV hS hl
  · refine lv_iconst (v := -1) hx hb dX_nextAnsweringPort_12 (by decide) ?_
    exact gx_iret hx hb hr hV hS ⟨by rw [show mq_ansD ρ m = none from if_pos (by rw [hP.many ok5]; omega)]; rfl, rfl⟩ dX_nextAnsweringPort_13 hlk

set_option maxHeartbeats 4000000 in
set_option maxRecDepth 100000 in
theorem k_X_moveAnswer (l : Launch) {D : va_G} {K : Nat → ClassId} {ad : Nat → Nat} {σ : Nat → Nat → Int32} {τ : Nat → Nat → Int64} {p m x nb : Nat} {t : List Nat} (hp0 : p < 4) (hm : m < 3) (hA : cx_ln σ (21 + 6 * p) (x :: t)) (hl2 : t.length + 1 ≤ 2) (hbx : σ (5 + 5 * m) 1 = nI nb) (hnb : nb < 4) : Met l yX_moveAnswer (Cond.code yX_moveAnswer prog_1_method_18_code 4 none :: mx_T) { frames := 1, cells := 0, slots := 0, locals := 22 } (va_Pc [.ref (ad 0), .int (nI p), .int (nI m)] (cx_P D K ad σ τ)) (cx_Qv D K ad (fun u => u = (cx_mva σ p m t.length nb x, τ))) 0 0 (gx_A ad 70) := by
  refine gx_met (by decide) rfl (Nat.le_of_ble_eq_true rfl) ?_
  intro pg ev s mid as below mth c ls hx hb hr hml ht hown hlk hnm hargs hB hl
  obtain ⟨hV, hZ⟩ := hB
  have hS : va_S (gx_A ad 70) s.heap s.heap [] := va_S.rf
  have hl : lv_has ls 4 [(0, .ref (ad 0)), (1, .int (nI p)), (2, .int (nI m))] := hl
  refine lv_aload_n hx hb dX_moveAnswer_0 rfl (lv_at hl 0 rfl) ?_
  refine gx_get (C := mR_X) (T := mT_X) (N' := 7) hx hb ht mh_X hown hV (by decide) cx_E_X rfl 1 (by decide) (ht _ mw_130) (fun _ h => h) rfl dX_moveAnswer_1 ?_
  refine lv_iload_n hx hb dX_moveAnswer_4 rfl (lv_at hl 1 rfl) ?_
  refine gx_aald hx hb hV (by decide) 5 cx_E_Ps rfl p hp0 (by decide) rfl rfl dX_moveAnswer_5 ?_
  refine gx_get (C := mR_P) (T := mT_P) (N' := 7) hx hb ht mh_P hown hV (show 18 + 6 * p < 70 by omega) (cx_E_P hp0) rfl 1 (by decide) (ht _ mw_77) (fun _ h => h) rfl dX_moveAnswer_6 ?_
  refine gx_calli (va_runV (As := []) (rest := []) ⟨hx, hb, hml, hown, ht⟩ (k_L_removeFirst l (t := t.length) (cx_isL_A hp0) hA.1 hl2) (cwV 0 ht (mx_gV (C := "MessageCrossbar$Line") mw_304 mw_305 mw_306 mw_3 mw_307) rfl rfl rfl (by decide +kernel) ⟨Nat.le_of_ble_eq_true rfl, Nat.le_of_ble_eq_true rfl⟩) (gx_preV cx_ok hV hZ hS (q := (mR_L, mT_L, 2)) ((cx_isL_A hp0)).lt.1 (cx_E_L (cx_isL_A hp0)).1 rfl []) rfl rfl hl.1 rfl (lv_room (Nat.le_of_ble_eq_true rfl)) dX_moveAnswer_9 ⟨Nat.le_of_ble_eq_true rfl, Nat.le_of_ble_eq_true rfl⟩) hV hS (fun r1 σ' τ' H locs hp hV hS => ?_)
  obtain ⟨h9, hu⟩ := hp
  rw [hA.first] at h9
  subst h9
  cases hu
  refine lv_istore_n (lv' := [(3, .int (nI x)), (0, .ref (ad 0)), (1, .int (nI p)), (2, .int (nI m))]) hx hb dX_moveAnswer_12 rfl hl (by decide) rfl (fun ls hl => ?_)
  refine lv_aload_n hx hb dX_moveAnswer_13 rfl (lv_at hl 1 rfl) ?_
  refine gx_get (C := mR_X) (T := mT_X) (N' := 7) hx hb ht mh_X hown hV (by decide) cx_E_X rfl 1 (by decide) (ht _ mw_130) (fun _ h => h) rfl dX_moveAnswer_14 ?_
  refine lv_iload_n hx hb dX_moveAnswer_17 rfl (lv_at hl 2 rfl) ?_
  refine gx_aald hx hb hV (by decide) 5 cx_E_Ps rfl p hp0 (by decide) rfl rfl dX_moveAnswer_18 ?_
  refine lv_iload_n hx hb dX_moveAnswer_19 rfl (lv_at hl 0 rfl) ?_
  refine gx_callv (va_runV (As := [.int (nI x)]) (rest := []) ⟨hx, hb, hml, hown, ht⟩ (k_P_releaseId l hp0) (cwV 1 ht (mx_gV (C := "MessageCrossbar$Port") mw_308 mw_309 mw_310 mw_4 mw_311) rfl rfl rfl (by decide +kernel) ⟨Nat.le_of_ble_eq_true rfl, Nat.le_of_ble_eq_true rfl⟩) (gx_preV cx_ok hV hZ hS (q := (mR_P, mT_P, 7)) (show 18 + 6 * p < 70 by omega) (cx_E_P hp0) rfl [.int (nI x)]) rfl rfl hl.1 rfl (lv_room (Nat.le_of_ble_eq_true rfl)) dX_moveAnswer_20 ⟨Nat.le_of_ble_eq_true rfl, Nat.le_of_ble_eq_true rfl⟩) hV hS (fun σ' τ' H locs hp hV hS => ?_)
  cases hp
  refine lv_aload_n hx hb dX_moveAnswer_23 rfl (lv_at hl 1 rfl) ?_
  refine gx_get (C := mR_X) (T := mT_X) (N' := 7) hx hb ht mh_X hown hV (by decide) cx_E_X rfl 0 (by decide) (ht _ mw_129) (fun _ h => h) rfl dX_moveAnswer_24 ?_
  refine lv_iload_n hx hb dX_moveAnswer_27 rfl (lv_at hl 3 rfl) ?_
  refine gx_aald hx hb hV (by decide) 4 cx_E_Ms rfl m hm (by decide) rfl rfl dX_moveAnswer_28 ?_
  refine gx_get (C := mR_M) (T := mT_M) (N' := 5) hx hb ht mh_M hown hV (show 2 + 5 * m < 70 by omega) (cx_E_M hm) rfl 1 (by decide) (ht _ mw_47) (fun _ h => h) rfl dX_moveAnswer_29 ?_
  refine lv_iload_n hx hb dX_moveAnswer_32 rfl (lv_at hl 0 rfl) ?_
  refine gx_callv (va_runV (As := [.int (nI x)]) (rest := []) ⟨hx, hb, hml, hown, ht⟩ (k_L_append l (cx_isL_B hm) (by rw [cx_rel_n (by omega), cx_rem_n (by omega) (by omega)]; exact hbx) hnb) (cwV 1 ht (mx_gV (C := "MessageCrossbar$Line") mw_255 mw_256 mw_257 mw_3 mw_258) rfl rfl rfl (by decide +kernel) ⟨Nat.le_of_ble_eq_true rfl, Nat.le_of_ble_eq_true rfl⟩) (gx_preV cx_ok hV hZ hS (q := (mR_L, mT_L, 2)) ((cx_isL_B hm)).lt.1 (cx_E_L (cx_isL_B hm)).1 rfl [.int (nI x)]) rfl rfl hl.1 rfl (lv_room (Nat.le_of_ble_eq_true rfl)) dX_moveAnswer_33 ⟨Nat.le_of_ble_eq_true rfl, Nat.le_of_ble_eq_true rfl⟩) hV hS (fun σ' τ' H locs hp hV hS => ?_)
  cases hp
  refine lv_aload_n hx hb dX_moveAnswer_36 rfl (lv_at hl 1 rfl) ?_
  refine gx_get (C := mR_X) (T := mT_X) (N' := 7) hx hb ht mh_X hown hV (by decide) cx_E_X rfl 0 (by decide) (ht _ mw_129) (fun _ h => h) rfl dX_moveAnswer_37 ?_
  refine lv_iload_n hx hb dX_moveAnswer_40 rfl (lv_at hl 3 rfl) ?_
  refine gx_aald hx hb hV (by decide) 4 cx_E_Ms rfl m hm (by decide) rfl rfl dX_moveAnswer_41 ?_
  refine lv_iload_n hx hb dX_moveAnswer_42 rfl (lv_at hl 2 rfl) ?_
  refine gx_put cx_loc (C := mR_M) (T := mT_M) (N' := 5) (ty := .int) (v := .int (nI p)) hx hb ht mh_M mt_M mk_M mn_M hown hV hS (show 2 + 5 * m < 70 by omega) (cx_E_M hm) rfl 4 (by decide) (ht _ mw_53) (fun _ h => h) rfl (by decide +kernel) rfl rfl (Nat.le_of_ble_eq_true rfl) dX_moveAnswer_43 (cx_up (cx_app (cx_rel (cx_rem σ (21 + 6 * p) t.length) p (nI x)) (5 + 5 * m) nb (nI x)) (2 + 5 * m) 4 (nI p)) τ (by rw [cx_E_M hm]; simp [cx_up, gx_upL]) (fun _ h => cx_up_J h) (fun _ _ => rfl) (fun H locs hV hS => ?_)
  refine lv_aload_n hx hb dX_moveAnswer_46 rfl (lv_at hl 1 rfl) ?_
  refine gx_get (C := mR_X) (T := mT_X) (N' := 7) hx hb ht mh_X hown hV (by decide) cx_E_X rfl 5 (by decide) (ht _ mw_134) (fun _ h => h) rfl dX_moveAnswer_47 ?_
  refine lv_iconst (v := nI 4) hx hb dX_moveAnswer_50 (by decide) ?_
  refine lv_dup2_11 hx hb dX_moveAnswer_51 rfl rfl ?_
  refine gx_ialdv (v := σ 69 4) hx hb hV (by decide) 0 cx_E_Ct rfl 4 (by decide) (by decide) rfl (by simp (disch := omega) only [cx_up_J, cx_app_n, cx_rel_n, cx_rem_n]) dX_moveAnswer_52 ?_
  refine lv_iconst (v := nI 1) hx hb dX_moveAnswer_53 (by decide) ?_
  refine lv_iadd hx hb dX_moveAnswer_54 ?_
  refine gx_iast cx_loc hx hb hV hS (by decide) 0 cx_E_Ct rfl 4 (by decide) (by decide) rfl dX_moveAnswer_55 (cx_up (cx_up (cx_app (cx_rel (cx_rem σ (21 + 6 * p) t.length) p (nI x)) (5 + 5 * m) nb (nI x)) (2 + 5 * m) 4 (nI p)) 69 4 (σ 69 4 + (nI 1))) (by rw [cx_E_Ct, cx_up_upd]) (fun _ h => cx_up_J h) (fun H locs hV hS => ?_)
  exact gx_vret hx hb hr hV hS rfl dX_moveAnswer_56 hlk

theorem cx_nb1 {f : Nat} (h : f ≤ 1) : narrow .boolean (.int (nI f)) = .int (nI f) := by
  have : f = 0 ∨ f = 1 := by omega
  rcases this with rfl | rfl <;> rfl

set_option maxHeartbeats 4000000 in
set_option maxRecDepth 100000 in
theorem k_X_moveAnswers (l : Launch) {D : va_G} {K : Nat → ClassId} {ad : Nat → Nat} {σ : Nat → Nat → Int32} {τ : Nat → Nat → Int64} {ρ : Nat → Nat → Nat} {μ : Nat → Int64} {lt : Int64} {pl : Nat → Nat → List Nat} (hR : rr_R σ τ ρ μ lt pl) : Met l yX_moveAnswers (Cond.code yX_moveAnswers prog_1_method_16_code 4 (some .boolean) :: mx_T) { frames := 3, cells := 0, slots := 0, locals := 64 } (va_Pc [.ref (ad 0)] (cx_P D K ad σ τ)) (cx_Qi D K ad (fun rr u => ∃ (f : Nat) (pl' : Nat → Nat → List Nat), rr = nI f ∧ f ≤ 1 ∧ mq_ansN ρ 3 0 2 = (if f = 1 then 1 else ρ 0 2) ∧ rr_R u.1 u.2 (mq_ansN ρ 3) μ lt pl')) 0 0 (gx_A ad 70) := by
  refine gx_met (by decide) rfl (Nat.le_of_ble_eq_true rfl) ?_
  intro pg ev s mid as below mth c ls hx hb hr hml ht hown hlk hnm hargs hB hl
  obtain ⟨hV, hZ⟩ := hB
  have hS : va_S (gx_A ad 70) s.heap s.heap [] := va_S.rf
  have hl : lv_has ls 4 [(0, .ref (ad 0))] := hl
  refine lv_iconst (v := nI 0) hx hb dX_moveAnswers_0 (by decide) ?_
  refine lv_istore_n (lv' := [(1, .int (nI 0)), (0, .ref (ad 0))]) hx hb dX_moveAnswers_1 rfl hl (by decide) rfl (fun ls hl => ?_)
  refine lv_iconst (v := nI 0) hx hb dX_moveAnswers_2 (by decide) ?_
  refine lv_istore_n (lv' := [(2, .int (nI 0)), (1, .int (nI 0)), (0, .ref (ad 0))]) hx hb dX_moveAnswers_3 rfl hl (by decide) rfl (fun ls hl => ?_)
  have loop : ∀ (k : Nat) (i f : Nat) (σ1 : Nat → Nat → Int32) (pl1 : Nat → Nat → List Nat) (H : Heap) (locs : List Loc) (ls : Array Slot), i + k = 3 → f ≤ 1 → mq_ansN ρ i 0 2 = (if f = 1 then 1 else ρ 0 2) → rr_R σ1 τ (mq_ansN ρ i) μ lt pl1 → gx_V D mx_cl (mx_tys K) (cx_E ad K) ad 70 (σ1) (τ) s H → va_S (gx_A ad 70) s.heap H locs → lv_has ls 4 [(2, .int (nI i)), (1, .int (nI f)), (0, .ref (ad 0))] → W pg l ev (headSpec (Cond.code yX_moveAnswers prog_1_method_16_code 4 (some .boolean) :: mx_T) { frames := 3, cells := 0, slots := 0, locals := 64 }).room s mid as below mth c H locs 0 0 (MQ below (cx_Qi D K ad (fun rr u => ∃ (f : Nat) (pl' : Nat → Nat → List Nat), rr = nI f ∧ f ≤ 1 ∧ mq_ansN ρ 3 0 2 = (if f = 1 then 1 else ρ 0 2) ∧ rr_R u.1 u.2 (mq_ansN ρ 3) μ lt pl')) as s 0 0 (gx_A ad 70)) (F0 mid 4 ls []) := by
    intro k
    induction k with
    | zero =>
      intro i f σ1 pl1 H locs ls hk hf1 hf2 R1 hV hS hl
      refine lv_iload_n hx hb dX_moveAnswers_4 rfl (lv_at hl 0 rfl) ?_
      refine lv_iconst (v := nI 3) hx hb dX_moveAnswers_5 (by decide) ?_
      refine gx_icmp_ge (a := i) (b := 3) (tgt := 34) hx hb dX_moveAnswers_6 (by decide) (by omega) (by omega) (fun h6 => ?_) (fun h6 => ?_)
      · refine lv_iload_n hx hb dX_moveAnswers_34 rfl (lv_at hl 1 rfl) ?_
        exact gx_zret hx hb hr (cx_nb1 hf1) hV hS ⟨f, pl1, rfl, hf1, by rw [show 3 = i by omega]; exact hf2, by rw [show 3 = i by omega]; exact R1⟩ dX_moveAnswers_35 hlk
      · exact absurd h6 (by omega)
    | succ k ih =>
      intro i f σ1 pl1 H locs ls hk hf1 hf2 R1 hV hS hl
      refine lv_iload_n hx hb dX_moveAnswers_4 rfl (lv_at hl 0 rfl) ?_
      refine lv_iconst (v := nI 3) hx hb dX_moveAnswers_5 (by decide) ?_
      refine gx_icmp_ge (a := i) (b := 3) (tgt := 34) hx hb dX_moveAnswers_6 (by decide) (by omega) (by omega) (fun h6 => ?_) (fun h6 => ?_)
      · exact absurd h6 (by omega)
      · refine lv_aload_n hx hb dX_moveAnswers_9 rfl (lv_at hl 2 rfl) ?_
        refine lv_iload_n hx hb dX_moveAnswers_10 rfl (lv_at hl 0 rfl) ?_
        refine gx_calli (va_runV (As := [.int (nI i)]) (rest := []) ⟨hx, hb, hml, hown, ht⟩ (k_X_nextAnsweringPort l (m := i) (by omega) R1) (cwV 1 ht (mx_gV (C := "MessageCrossbar") mw_281 mw_283 ms_3 mw_1 mw_284) rfl rfl rfl (by decide +kernel) ⟨Nat.le_of_ble_eq_true rfl, Nat.le_of_ble_eq_true rfl⟩) (gx_preV cx_ok hV hZ hS (q := (mR_X, mT_X, 7)) (by decide) cx_E_X rfl [.int (nI i)]) rfl rfl hl.1 rfl (lv_room (Nat.le_of_ble_eq_true rfl)) dX_moveAnswers_11 ⟨Nat.le_of_ble_eq_true rfl, Nat.le_of_ble_eq_true rfl⟩) hV hS (fun r1 σ' τ' H locs hp hV hS => ?_)
        obtain ⟨rfl, hu⟩ := hp
        cases hu
        cases hd : mq_ansD (mq_ansN ρ i) i with
        | none =>
          refine lv_istore_n (lv' := [(3, .int (-1)), (2, .int (nI i)), (1, .int (nI f)), (0, .ref (ad 0))]) hx hb dX_moveAnswers_14 rfl hl (by decide) rfl (fun ls hl => ?_)
          refine lv_iload_n hx hb dX_moveAnswers_15 rfl (lv_at hl 0 rfl) ?_
          refine lv_iconst (v := -1) hx hb dX_moveAnswers_16 (by decide) ?_
          refine lv_icmp_eq (tgt := 28) hx hb dX_moveAnswers_17 (by decide) (fun h17 => ?_) (fun h17 => ?_)
          · refine lv_iinc (k := 1) (v := (nI (i + 1))) (lv' := [(2, .int (nI (i + 1))), (3, .int (-1)), (1, .int (nI f)), (0, .ref (ad 0))]) hx hb dX_moveAnswers_28 hl rfl (nI_succ i).symm (by decide) rfl (fun ls hl => ?_)
            refine lv_goto (tgt := 4) hx hb dX_moveAnswers_31 (by decide) ?_
            exact ih (i + 1) f σ1 pl1 H locs ls (by omega) hf1 (by show mq_answers (mq_ansN ρ i) i 0 2 = _; rw [rr_ansN hd]; exact hf2) (by show rr_R σ1 τ (mq_answers (mq_ansN ρ i) i) μ lt pl1; rw [rr_ansN hd]; exact R1) hV hS (lv_sub hl [0, 2, 3] rfl)
          · exact absurd rfl h17
        | some q =>
          obtain ⟨hq4, hbl, x, t, hxt, hx8, hgo⟩ := rr_ansD R1.2.1 (show i < 3 by omega) hd
          have hp4 : (mq_ansN ρ i 10 i + q) % 4 < 4 := by omega
          have ok4 : mq_ok 4 (3 + (mq_ansN ρ i 10 i + q) % 4) := Or.inr ⟨by simp, by omega, by omega⟩
          have ok5 : mq_ok 5 i := Or.inl ⟨by simp, by omega⟩
          have hA := R1.1 4 _ ok4 (by omega)
          rw [hxt, show rr_ln 4 (3 + (mq_ansN ρ i 10 i + q) % 4) = 21 + 6 * ((mq_ansN ρ i 10 i + q) % 4) by simp [rr_ln]] at hA
          have hB5 := (R1.1 5 i ok5 (by omega)).1.1
          rw [show rr_ln 5 i = 5 + 5 * i by simp [rr_ln]] at hB5
          have R2 := R1.ans (show i < 3 by omega) hp4 hxt hx8 hbl
          refine lv_istore_n (lv' := [(3, .int (nI ((mq_ansN ρ i 10 i + q) % 4))), (2, .int (nI i)), (1, .int (nI f)), (0, .ref (ad 0))]) hx hb dX_moveAnswers_14 rfl hl (by decide) rfl (fun ls hl => ?_)
          refine lv_iload_n hx hb dX_moveAnswers_15 rfl (lv_at hl 0 rfl) ?_
          refine lv_iconst (v := -1) hx hb dX_moveAnswers_16 (by decide) ?_
          refine lv_icmp_eq (tgt := 28) hx hb dX_moveAnswers_17 (by decide) (fun h17 => ?_) (fun h17 => ?_)
          · exact absurd h17 (rr_m1 (by omega))
          · refine lv_aload_n hx hb dX_moveAnswers_20 rfl (lv_at hl 3 rfl) ?_
            refine lv_iload_n hx hb dX_moveAnswers_21 rfl (lv_at hl 0 rfl) ?_
            refine lv_iload_n hx hb dX_moveAnswers_22 rfl (lv_at hl 1 rfl) ?_
            refine gx_callv (va_runV (As := [.int (nI ((mq_ansN ρ i 10 i + q) % 4)), .int (nI i)]) (rest := []) ⟨hx, hb, hml, hown, ht⟩ (k_X_moveAnswer l hp4 (show i < 3 by omega) hA.1 hA.2 hB5 hbl) (cwV 2 ht (mx_gV (C := "MessageCrossbar") mw_300 mw_302 ms_4 mw_1 mw_303) rfl rfl rfl (by decide +kernel) ⟨Nat.le_of_ble_eq_true rfl, Nat.le_of_ble_eq_true rfl⟩) (gx_preV cx_ok hV hZ hS (q := (mR_X, mT_X, 7)) (by decide) cx_E_X rfl [.int (nI ((mq_ansN ρ i 10 i + q) % 4)), .int (nI i)]) rfl rfl hl.1 rfl (lv_room (Nat.le_of_ble_eq_true rfl)) dX_moveAnswers_23 ⟨Nat.le_of_ble_eq_true rfl, Nat.le_of_ble_eq_true rfl⟩) hV hS (fun σ' τ' H locs hp hV hS => ?_)
            cases hp
            refine lv_iconst (v := nI 1) hx hb dX_moveAnswers_26 (by decide) ?_
            refine lv_istore_n (lv' := [(1, .int (nI 1)), (3, .int (nI ((mq_ansN ρ i 10 i + q) % 4))), (2, .int (nI i)), (0, .ref (ad 0))]) hx hb dX_moveAnswers_27 rfl hl (by decide) rfl (fun ls hl => ?_)
            refine lv_iinc (k := 2) (v := (nI (i + 1))) (lv' := [(2, .int (nI (i + 1))), (1, .int (nI 1)), (3, .int (nI ((mq_ansN ρ i 10 i + q) % 4))), (0, .ref (ad 0))]) hx hb dX_moveAnswers_28 hl rfl (nI_succ i).symm (by decide) rfl (fun ls hl => ?_)
            refine lv_goto (tgt := 4) hx hb dX_moveAnswers_31 (by decide) ?_
            exact ih (i + 1) 1 _ _ H locs ls (by omega) (Nat.le_refl 1) (by show mq_answers (mq_ansN ρ i) i 0 2 = 1; rw [hgo]; exact mq_ansM_sp.2.2.2.2.2.2) (by show rr_R _ τ (mq_answers (mq_ansN ρ i) i) μ lt _; rw [hgo]; exact R2) hV hS (lv_sub hl [0, 1, 3] rfl)
  exact loop 3 0 0 _ _ _ _ ls (by omega) (by omega) rfl hR hV hS hl
end
section
theorem wb_tb (n : Nat) : (lN n).toBitVec = BitVec.ofNat 64 n := rfl
theorem wb_inj {a b : Int64} (h : a.toBitVec = b.toBitVec) : a = b := Int64.toBitVec_inj.mp h
theorem wb_tn {n : Nat} (h : n < 2 ^ 64) : (lN n).toBitVec.toNat = n := by rw [wb_tb, BitVec.toNat_ofNat, Nat.mod_eq_of_lt h]
theorem wb_of (x : Int64) : ∃ n, n < 2 ^ 64 ∧ x = lN n := ⟨x.toBitVec.toNat, x.toBitVec.isLt, wb_inj (by rw [wb_tb]; simp)⟩
theorem wb_of32 (x : Int32) : ∃ n, n < 2 ^ 32 ∧ x = nI n := ⟨x.toBitVec.toNat, x.toBitVec.isLt, Int32.toBitVec_inj.mp (by show _ = BitVec.ofNat 32 _; simp)⟩
theorem wb_c : ∀ k, k < 64 → ((nI k).toInt64 &&& 63) = lN k := by decide +kernel
theorem wb_cu : ∀ k, k < 64 → ((nI k).toInt64.toUInt64 &&& Int64.toUInt64 63) = UInt64.ofNat k := by decide +kernel
theorem wb_sm : ∀ k, k < 64 → (BitVec.ofNat 64 k).smod 64 = BitVec.ofNat 64 k := by decide +kernel
theorem wb_pw {a b : Nat} (h : a ≤ b) : 2 ^ b = 2 ^ a * 2 ^ (b - a) := by rw [← Nat.pow_add]; congr 1; omega
theorem wb_lt2 {a b : Nat} (h : a < b) : 2 ^ a < 2 ^ b := Nat.pow_lt_pow_right (by decide) h
theorem wb_mod (n : Nat) : lN n = lN (n % 2 ^ 64) := wb_inj (by rw [wb_tb, wb_tb]; apply BitVec.eq_of_toNat_eq; rw [BitVec.toNat_ofNat, BitVec.toNat_ofNat, Nat.mod_mod])
theorem wb_shr {n k : Nat} (hn : n < 2 ^ 64) (hk : k < 64) : ((lN n).toUInt64 >>> ((nI k).toInt64.toUInt64 &&& Int64.toUInt64 63)).toInt64 = lN (n / 2 ^ k) := by
  rw [wb_cu k hk]
  apply wb_inj
  apply BitVec.eq_of_toNat_eq
  show ((lN n).toUInt64 >>> UInt64.ofNat k).toNat = (BitVec.ofNat 64 _).toNat
  have h1 : (UInt64.ofNat k).toNat = k := by
    show (BitVec.ofNat 64 k).toNat = k
    rw [BitVec.toNat_ofNat, Nat.mod_eq_of_lt (by omega)]
  have h2 : (lN n).toUInt64.toNat = n := wb_tn hn
  rw [UInt64.toNat_shiftRight, h1, h2, Nat.mod_eq_of_lt hk, Nat.shiftRight_eq_div_pow, BitVec.toNat_ofNat, Nat.mod_eq_of_lt (Nat.lt_of_le_of_lt (Nat.div_le_self _ _) hn)]
theorem wb_shl (n : Nat) {k : Nat} (hk : k < 64) : lN n <<< ((nI k).toInt64 &&& 63) = lN (n * 2 ^ k) := by
  rw [wb_c k hk]
  apply wb_inj
  rw [Int64.toBitVec_shiftLeft, wb_tb, wb_tb, wb_tb, wb_sm k hk]
  apply BitVec.eq_of_toNat_eq
  rw [BitVec.shiftLeft_eq', BitVec.toNat_shiftLeft, BitVec.toNat_ofNat, BitVec.toNat_ofNat, BitVec.toNat_ofNat, Nat.mod_eq_of_lt (show k < 2 ^ 64 by omega), Nat.shiftLeft_eq, Nat.mul_mod, Nat.mod_mod, ← Nat.mul_mod]
theorem wb_and {a b : Nat} (ha : a < 2 ^ 64) (hb : b < 2 ^ 64) : lN a &&& lN b = lN (a &&& b) := by
  apply wb_inj
  rw [Int64.toBitVec_and, wb_tb, wb_tb, wb_tb]
  apply BitVec.eq_of_toNat_eq
  rw [BitVec.toNat_and, BitVec.toNat_ofNat, BitVec.toNat_ofNat, BitVec.toNat_ofNat, Nat.mod_eq_of_lt ha, Nat.mod_eq_of_lt hb, Nat.mod_eq_of_lt (Nat.and_lt_two_pow _ hb)]
theorem wb_or {a b : Nat} (ha : a < 2 ^ 64) (hb : b < 2 ^ 64) : lN a ||| lN b = lN (a ||| b) := by
  apply wb_inj
  rw [Int64.toBitVec_or, wb_tb, wb_tb, wb_tb]
  apply BitVec.eq_of_toNat_eq
  rw [BitVec.toNat_or, BitVec.toNat_ofNat, BitVec.toNat_ofNat, BitVec.toNat_ofNat, Nat.mod_eq_of_lt ha, Nat.mod_eq_of_lt hb, Nat.mod_eq_of_lt (Nat.or_lt_two_pow ha hb)]
theorem wb_mask {n k : Nat} (hn : n < 2 ^ 64) (hk : k < 64) : lN n &&& lN (2 ^ k - 1) = lN (n % 2 ^ k) := by
  rw [wb_and hn (by have := wb_lt2 hk; omega), Nat.and_two_pow_sub_one_eq_mod]
theorem wb_a1 {n : Nat} (hn : n < 2 ^ 64) : lN n &&& 1 = lN (n % 2) := wb_mask (k := 1) hn (by decide)
theorem wb_bit {n k : Nat} (hn : n < 2 ^ 64) (hk : k < 64) : ((lN n).toUInt64 >>> ((nI k).toInt64.toUInt64 &&& Int64.toUInt64 63)).toInt64 &&& 1 = lN (n / 2 ^ k % 2) := by
  rw [wb_shr hn hk, wb_a1 (Nat.lt_of_le_of_lt (Nat.div_le_self _ _) hn)]
theorem wb_xor {q k : Nat} (hk : k < 63) (h : 2 ^ k ≤ q) (h2 : q < 2 ^ (k + 1)) : lN q ^^^ lN (2 ^ k) = lN (q - 2 ^ k) := by
  obtain ⟨r, rfl⟩ : ∃ r, q = 2 ^ k + r := ⟨q - 2 ^ k, by omega⟩
  have hr : r < 2 ^ k := by rw [Nat.pow_succ] at h2; omega
  have hx : (2 ^ k + r) ^^^ 2 ^ k = r := by
    apply Nat.eq_of_testBit_eq
    intro i
    rw [Nat.testBit_xor, Nat.testBit_two_pow]
    rcases Nat.lt_trichotomy i k with h | h | h
    · rw [Nat.testBit_two_pow_add_gt h]
      simp [show ¬ k = i by omega]
    · subst h
      rw [Nat.testBit_two_pow_add_eq]
      simp
    · have a1 : 2 ^ (k + 1) ≤ 2 ^ i := Nat.pow_le_pow_right (by decide) h
      rw [Nat.testBit_lt_two_pow (show 2 ^ k + r < 2 ^ i by omega), Nat.testBit_lt_two_pow (show r < 2 ^ i by omega)]
      simp [show ¬ k = i by omega]
  have b1 := wb_lt2 (show k + 1 < 64 by omega)
  have b2 := wb_lt2 (show k < 64 by omega)
  apply wb_inj
  rw [Int64.toBitVec_xor, wb_tb, wb_tb, wb_tb]
  apply BitVec.eq_of_toNat_eq
  rw [BitVec.toNat_xor, BitVec.toNat_ofNat, BitVec.toNat_ofNat, BitVec.toNat_ofNat, Nat.mod_eq_of_lt (by omega : 2 ^ k + r < 2 ^ 64), Nat.mod_eq_of_lt b2, hx, Nat.add_sub_cancel_left, Nat.mod_eq_of_lt (by omega)]
/-! ===== lN: masks, 'or' of parts that don't overlap is a sum ===== -/
theorem u_tn {n : Nat} (h : n < 2 ^ 64) : (UInt64.ofNat n).toNat = n := Nat.mod_eq_of_lt h
theorem g_and {a b c : Nat} (ha : a < 2 ^ 64) (hb : b < 2 ^ 64) (hc : a &&& b = c) : lN a &&& lN b = lN c := by
  subst hc
  have h : UInt64.ofNat a &&& UInt64.ofNat b = UInt64.ofNat (a &&& b) := UInt64.toNat_inj.mp (by rw [UInt64.toNat_and, u_tn ha, u_tn hb, u_tn (Nat.and_lt_two_pow a hb)])
  have h2 := congrArg UInt64.toInt64 h
  exact h2
theorem g_and1 {a : Nat} (ha : a < 2 ^ 64) : lN a &&& 1 = lN (a % 2) := g_and (b := 1) ha (by decide) (Nat.and_two_pow_sub_one_eq_mod a 1)
theorem g_mask {a s p : Nat} (hp : 2 ^ s = p) (hs : s < 64) (ha : a < 2 ^ 64) : lN a &&& lN (p - 1) = lN (a % p) := by
  subst hp
  have := Nat.pow_lt_pow_right (show 1 < 2 by decide) hs
  exact g_and ha (by omega) (Nat.and_two_pow_sub_one_eq_mod a s)
theorem g_or {k p a b : Nat} (hp : 2 ^ k = p) (ha : a < p) (h : b * p + a < 2 ^ 64) : lN (b * p) ||| lN a = lN (b * p + a) := by
  subst hp
  have h1 : b * 2 ^ k ||| a = b * 2 ^ k + a := by rw [← Nat.shiftLeft_eq, Nat.shiftLeft_add_eq_or_of_lt ha]
  have h3 : UInt64.ofNat (b * 2 ^ k) ||| UInt64.ofNat a = UInt64.ofNat (b * 2 ^ k + a) := UInt64.toNat_inj.mp (by rw [UInt64.toNat_or, u_tn (by omega), u_tn (by omega), u_tn h, h1])
  have h2 := congrArg UInt64.toInt64 h3
  exact h2
theorem g_or' {k p a b : Nat} (hp : 2 ^ k = p) (ha : a < p) (h : a + b * p < 2 ^ 64) : lN a ||| lN (b * p) = lN (a + b * p) := by
  rw [Int64.or_comm, g_or hp ha (by omega), Nat.add_comm]
theorem g_ushr {a k p : Nat} {y : UInt64} (hy : y = UInt64.ofNat k) (hk : k < 64) (hp : 2 ^ k = p) (ha : a < 2 ^ 64) : ((lN a).toUInt64 >>> y).toInt64 = lN (a / p) := by
  subst hy hp
  have h : UInt64.ofNat a >>> UInt64.ofNat k = UInt64.ofNat (a / 2 ^ k) := UInt64.toNat_inj.mp (by rw [UInt64.toNat_shiftRight, u_tn ha, u_tn (by omega), u_tn (Nat.lt_of_le_of_lt (Nat.div_le_self _ _) ha), Nat.mod_eq_of_lt hk, Nat.shiftRight_eq_div_pow])
  have h2 := congrArg UInt64.toInt64 h
  exact h2
/-! bytes of longs -/
theorem cx_sr (d : Int64) {k : Nat} (hk : k < 64) : (d >>> ((nI k).toInt64 &&& 63)).toBitVec = d.toBitVec.sshiftRight k := by
  rw [wb_c k hk, Int64.toBitVec_shiftRight, wb_tb, wb_sm k hk]
  show d.toBitVec.sshiftRight (BitVec.ofNat 64 k).toNat = _
  rw [BitVec.toNat_ofNat, Nat.mod_eq_of_lt (by omega)]
theorem cx_bt (d : Int64) {i j : Nat} (hi : i < 8) (hj : j < 8) : (d.toBitVec.sshiftRight (8 * i)).getLsbD j = (mq_byte d i).testBit j := by
  rw [BitVec.getLsbD_sshiftRight]
  have h1 : 8 * i + j < 64 := by omega
  have h2 : ¬ 64 ≤ j := by omega
  unfold mq_byte
  rw [show (256 : Nat) = 2 ^ 8 from rfl, ← Nat.pow_mul, Nat.testBit_mod_two_pow, Nat.testBit_div_two_pow, Nat.add_comm j]
  simp [h1, h2, hj, BitVec.getLsbD]
theorem cx_wb (d : Int64) {i : Nat} (hi : i < 8) : vp_nar .byte (d >>> ((nI (8 * i)).toInt64 &&& 63)).toInt32.toInt8.toInt32 = (nI (mq_byte d i)).toInt8.toInt32 := by
  rw [pk_vb]
  congr 1
  apply Int8.toBitVec_inj.mp
  apply BitVec.eq_of_getLsbD_eq
  intro j hj
  rw [Int32.toBitVec_toInt8, Int64.toBitVec_toInt32, cx_sr d (by omega), BitVec.signExtend_eq_setWidth_of_le _ (by decide), BitVec.signExtend_eq_setWidth_of_le _ (by decide), Int32.toBitVec_toInt8, BitVec.signExtend_eq_setWidth_of_le _ (by decide)]
  rw [BitVec.getLsbD_setWidth, BitVec.getLsbD_setWidth, BitVec.getLsbD_setWidth, cx_bt d hi hj]
  show _ = (_ && (BitVec.ofNat 32 (mq_byte d i)).getLsbD j)
  rw [BitVec.getLsbD_ofNat]
  first
  | done
  | simp [hj, show j < 32 by omega]
theorem cx_by : ∀ n, n < 256 → (nI n).toInt8.toInt32 &&& nI 255 = nI n := by decide +kernel
theorem mq_byte_lt (d : Int64) (i : Nat) : mq_byte d i < 256 := Nat.mod_lt _ (by omega)
/-- the byte that the reference keeps: shifted, masked, made an int -/
theorem mq_wb (d : Int64) {i : Nat} (hi : i < 8) : ((d >>> ((nI (8 * i)).toInt64 &&& 63)) &&& 255).toInt32 = nI (mq_byte d i) := by
  apply Int32.toBitVec_inj.mp
  apply BitVec.eq_of_getLsbD_eq
  intro j hj
  rw [Int64.toBitVec_toInt32, Int64.toBitVec_and, cx_sr d (by omega), BitVec.signExtend_eq_setWidth_of_le _ (by decide), BitVec.getLsbD_setWidth, BitVec.getLsbD_and]
  show _ = (BitVec.ofNat 32 (mq_byte d i)).getLsbD j
  rw [BitVec.getLsbD_ofNat]
  by_cases h8 : j < 8
  · rw [cx_bt d hi h8]
    have h255 : (Int64.toBitVec 255).getLsbD j = true := by
      have : j = 0 ∨ j = 1 ∨ j = 2 ∨ j = 3 ∨ j = 4 ∨ j = 5 ∨ j = 6 ∨ j = 7 := by omega
      rcases this with rfl | rfl | rfl | rfl | rfl | rfl | rfl | rfl <;> decide
    rw [h255]
    simp
  · have h0 : (mq_byte d i).testBit j = false := by
      unfold mq_byte
      rw [show (256 : Nat) = 2 ^ 8 from rfl, Nat.testBit_mod_two_pow]
      simp [h8]
    have h255 : (Int64.toBitVec 255).getLsbD j = false := by
      show (BitVec.ofNat 64 255).getLsbD j = false
      rw [BitVec.getLsbD_ofNat, show (255 : Nat) = 2 ^ 8 - 1 from rfl, Nat.testBit_two_pow_sub_one]
      simp [h8]
    rw [h0, h255]
    simp
/-- one more byte ahead of those read so far -/
theorem cx_rd {acc b : Nat} (hb : b < 256) (ha : acc * 256 + b < 2 ^ 64) : (lN acc <<< ((nI 8).toInt64 &&& 63)) ||| (nI b).toInt64 = lN (acc * 256 + b) := by
  rw [wb_shl acc (by decide), nI_l (by omega)]
  exact g_or (k := 8) rfl (by omega) (by omega)
theorem mq_got_lt {bt : Nat → Nat} {a : Nat} (h : ∀ k, bt (a + k) < 256) : ∀ n, mq_got bt a n < 256 ^ n := by
  intro n
  induction n with
  | zero => simp [mq_got]
  | succ n ih =>
    show mq_got bt a n + bt (a + n) * 256 ^ n < 256 ^ (n + 1)
    have h1 := h n
    have h2 : bt (a + n) * 256 ^ n ≤ 255 * 256 ^ n := Nat.mul_le_mul_right _ (by omega)
    rw [Nat.pow_succ]
    omega
end
section
/-! the crossbar's own methods: serving -/
def cx_ix (k : Nat) : Int32 := match k with
  | 0 => -1
  | k + 1 => nI k
theorem cx_ix_s (k : Nat) : nI k + Int32.ofInt (-1) = cx_ix k := by
  cases k with
  | zero => decide
  | succ k => exact pk_m1 k
theorem cx_ix_1 {n : Nat} (h : 0 < n) : nI n - nI 1 = cx_ix n := by
  cases n with
  | zero => omega
  | succ n => exact nI_pred n
theorem cx_p8 {z : Nat} (h : z < 4) : 0 < 2 ^ z ∧ 2 ^ z ≤ 8 := by
  have : z = 0 ∨ z = 1 ∨ z = 2 ∨ z = 3 := by omega
  rcases this with rfl | rfl | rfl | rfl <;> decide
theorem cx_acc {G Gk c acc k : Nat} (h : G = (Gk + c * 256 ^ k) + 256 ^ (k + 1) * acc) : G = Gk + 256 ^ k * (acc * 256 + c) := by
  rw [h, Nat.pow_succ, Nat.mul_add, Nat.mul_comm c, Nat.mul_assoc, Nat.mul_comm acc 256]
  omega
theorem cx_accb {n k acc c : Nat} (h : acc < 256 ^ (n - (k + 1))) (hk : k < n) (hc : c < 256) : acc * 256 + c < 256 ^ (n - k) := by
  rw [show n - k = (n - (k + 1)) + 1 by omega, Nat.pow_succ]
  omega
theorem cx_pow8 {n k : Nat} (h : n ≤ 8) : 256 ^ (n - k) ≤ 2 ^ 64 := by
  have : 256 ^ (n - k) ≤ 256 ^ 8 := Nat.pow_le_pow_right (by omega) (by omega)
  exact this

set_option maxHeartbeats 4000000 in
set_option maxRecDepth 100000 in
theorem k_X_readBytes (l : Launch) {D : va_G} {K : Nat → ClassId} {ad : Nat → Nat} {σ : Nat → Nat → Int32} {τ : Nat → Nat → Int64} {x z a : Nat} (hx2 : x < 24) (hz : σ (43 + x) 1 = nI z) (hz4 : z < 4) (ha : σ (43 + x) 2 = nI a) (hae : a + 2 ^ z ≤ 640) {bt : Nat → Nat} (hbt : ∀ q, q < 640 → bt q < 256 ∧ σ 67 q = (nI (bt q)).toInt8.toInt32) : Met l yX_readBytes (Cond.code yX_readBytes prog_1_method_23_code 5 (some .long) :: mx_T) { frames := 1, cells := 0, slots := 0, locals := 20 } (va_Pc [.ref (ad 0), .ref (ad (43 + x))] (cx_P D K ad σ τ)) (cx_Ql D K ad (fun rr u => rr = lN (mq_got bt a (2 ^ z)) ∧ u = (σ, τ))) 0 0 (gx_A ad 70) := by
  refine gx_met (by decide) rfl (Nat.le_of_ble_eq_true rfl) ?_
  intro pg ev s mid as below mth c ls hx hb hr hml ht hown hlk hnm hargs hB hl
  obtain ⟨hV, hZ⟩ := hB
  have hS : va_S (gx_A ad 70) s.heap s.heap [] := va_S.rf
  have hl : lv_has ls 5 [(0, .ref (ad 0)), (1, .ref (ad (43 + x)))] := hl
  have hz8 := cx_p8 hz4
  refine lv_lconst (v := 0) hx hb dX_readBytes_0 (by decide) ?_
  refine lv_lstore_n (lv' := [(2, .long 0), (0, .ref (ad 0)), (1, .ref (ad (43 + x)))]) hx hb dX_readBytes_1 rfl hl (by decide) rfl (fun ls hl => ?_)
  refine lv_aload_n hx hb dX_readBytes_2 rfl (lv_at hl 2 rfl) ?_
  refine gx_calli (va_runV (As := []) (rest := []) ⟨hx, hb, hml, hown, ht⟩ (k_G_size l hx2 hz hz4) (cwV 0 ht (mx_gV (C := "MessageCrossbar$Message") mw_346 mw_347 mw_348 mw_5 mw_349) rfl rfl rfl (by decide +kernel) ⟨Nat.le_of_ble_eq_true rfl, Nat.le_of_ble_eq_true rfl⟩) (gx_preV cx_ok hV hZ hS (q := (mR_G, mT_G, 5)) (show 43 + x < 70 by omega) (cx_E_G hx2) rfl []) rfl rfl hl.1 rfl (lv_room (Nat.le_of_ble_eq_true rfl)) dX_readBytes_3 ⟨Nat.le_of_ble_eq_true rfl, Nat.le_of_ble_eq_true rfl⟩) hV hS (fun r1 σ' τ' H locs hp hV hS => ?_)
  obtain ⟨rfl, hu⟩ := hp
  cases hu
  refine lv_iconst (v := nI 1) hx hb dX_readBytes_6 (by decide) ?_
  refine lv_isub hx hb dX_readBytes_7 ?_
  refine gx_top (cx_ix_1 hz8.1) ?_
  refine lv_istore (lv' := [(4, .int (cx_ix (2 ^ z))), (2, .long 0), (0, .ref (ad 0)), (1, .ref (ad (43 + x)))]) hx hb dX_readBytes_8 hl (by decide) rfl (fun ls hl => ?_)
  have loop : ∀ (k : Nat) (acc : Nat) (H : Heap) (locs : List Loc) (ls : Array Slot), k ≤ 2 ^ z → acc < 256 ^ (2 ^ z - k) → mq_got bt a (2 ^ z) = mq_got bt a k + 256 ^ k * acc → gx_V D mx_cl (mx_tys K) (cx_E ad K) ad 70 (σ) (τ) s H → va_S (gx_A ad 70) s.heap H locs → lv_has ls 5 [(4, .int (cx_ix k)), (2, .long (lN acc)), (0, .ref (ad 0)), (1, .ref (ad (43 + x)))] → W pg l ev (headSpec (Cond.code yX_readBytes prog_1_method_23_code 5 (some .long) :: mx_T) { frames := 1, cells := 0, slots := 0, locals := 20 }).room s mid as below mth c H locs 0 0 (MQ below (cx_Ql D K ad (fun rr u => rr = lN (mq_got bt a (2 ^ z)) ∧ u = (σ, τ))) as s 0 0 (gx_A ad 70)) (F0 mid 10 ls []) := by
    intro k
    induction k with
    | zero =>
      intro acc H locs ls hkn hac hga hV hS hl
      have hl : lv_has ls 5 [(4, .int (cx_ix 0)), (2, .long (lN acc)), (0, .ref (ad 0)), (1, .ref (ad (43 + x)))] := hl
      refine lv_iload hx hb dX_readBytes_10 (lv_at hl 0 rfl) ?_
      refine lv_if_lt (tgt := 44) hx hb dX_readBytes_12 (by decide) (fun h12 => ?_) (fun h12 => ?_)
      · refine lv_lload_n hx hb dX_readBytes_44 rfl (lv_at hl 1 rfl) ?_
        exact gx_lret hx hb hr hV hS ⟨by rw [hga]; simp [mq_got], rfl⟩ dX_readBytes_45 hlk
      · exact absurd (show cx_ix 0 < 0 by decide) h12
    | succ k ih =>
      intro acc H locs ls hkn hac hga hV hS hl
      have hl : lv_has ls 5 [(4, .int (nI k)), (2, .long (lN acc)), (0, .ref (ad 0)), (1, .ref (ad (43 + x)))] := hl
      have hga : mq_got bt a (2 ^ z) = (mq_got bt a k + bt (a + k) * 256 ^ k) + 256 ^ (k + 1) * acc := hga
      refine lv_iload hx hb dX_readBytes_10 (lv_at hl 0 rfl) ?_
      refine lv_if_lt (tgt := 44) hx hb dX_readBytes_12 (by decide) (fun h12 => ?_) (fun h12 => ?_)
      · exact absurd h12 (nI_pos (by omega))
      · refine lv_lload_n hx hb dX_readBytes_15 rfl (lv_at hl 1 rfl) ?_
        refine lv_bipush (v := nI 8) hx hb dX_readBytes_16 (by decide) ?_
        refine lv_lshl hx hb dX_readBytes_18 rfl ?_
        refine lv_aload_n hx hb dX_readBytes_19 rfl (lv_at hl 2 rfl) ?_
        refine gx_get (C := mR_X) (T := mT_X) (N' := 7) hx hb ht mh_X hown hV (by decide) cx_E_X rfl 3 (by decide) (ht _ mw_132) (fun _ h => h) rfl dX_readBytes_20 ?_
        refine lv_aload_n hx hb dX_readBytes_23 rfl (lv_at hl 3 rfl) ?_
        refine gx_get (C := mR_G) (T := mT_G) (N' := 5) (v := .int (nI a)) hx hb ht mh_G hown hV (show 43 + x < 70 by omega) (cx_E_G hx2) rfl 2 (by decide) (ht _ mw_114) (fun _ h => h) (congrArg (fun z => some (Value.int z)) ha) dX_readBytes_24 ?_
        refine lv_iload hx hb dX_readBytes_27 (lv_at hl 0 rfl) ?_
        refine gx_iadd (a := a) (b := k) hx hb dX_readBytes_29 ?_
        refine gx_bald hx hb hV (by decide) 1 cx_E_By rfl (a + k) (by omega) (by decide) rfl dX_readBytes_30 ?_
        refine lv_sipush (v := nI 255) hx hb dX_readBytes_31 (by decide) ?_
        refine lv_iand hx hb dX_readBytes_34 ?_
        refine gx_top (y := nI (bt (a + k))) (by rw [(hbt (a + k) (by omega)).2]; exact cx_by _ (hbt (a + k) (by omega)).1) ?_
        refine lv_i2l hx hb dX_readBytes_35 rfl ?_
        refine lv_lor hx hb dX_readBytes_36 ?_
        refine gx_topl (cx_rd (acc := acc) (b := bt (a + k)) (hbt (a + k) (by omega)).1 (by have := cx_accb hac (show k < 2 ^ z by omega) (hbt (a + k) (by omega)).1; have := cx_pow8 (n := 2 ^ z) (k := k) hz8.2; omega)) ?_
        refine lv_lstore_n (lv' := [(2, .long (lN (acc * 256 + bt (a + k)))), (4, .int (nI k)), (0, .ref (ad 0)), (1, .ref (ad (43 + x)))]) hx hb dX_readBytes_37 rfl hl (by decide) rfl (fun ls hl => ?_)
        refine lv_iinc (k := 1) (v := cx_ix k) (lv' := [(4, .int (cx_ix k)), (2, .long (lN (acc * 256 + bt (a + k)))), (0, .ref (ad 0)), (1, .ref (ad (43 + x)))]) hx hb dX_readBytes_38 hl rfl (cx_ix_s k) (by decide) rfl (fun ls hl => ?_)
        refine lv_goto (tgt := 10) hx hb dX_readBytes_41 (by decide) ?_
        exact ih (acc * 256 + bt (a + k)) H locs ls (by omega) (cx_accb hac (by omega) (hbt (a + k) (by omega)).1) (cx_acc hga) hV hS (lv_sub hl [0, 1, 2, 3] rfl)
  exact loop (2 ^ z) 0 _ _ ls (Nat.le_refl _) (by rw [Nat.sub_self]; decide) (by omega) hV hS hl

set_option maxHeartbeats 4000000 in
set_option maxRecDepth 100000 in
theorem k_X_writeBytes (l : Launch) {D : va_G} {K : Nat → ClassId} {ad : Nat → Nat} {σ : Nat → Nat → Int32} {τ : Nat → Nat → Int64} {x z a : Nat} (hx2 : x < 24) (hz : σ (43 + x) 1 = nI z) (hz4 : z < 4) (ha : σ (43 + x) 2 = nI a) (hae : a + 2 ^ z ≤ 640) {so mk : Nat} (hso : σ (43 + x) 0 = nI so) (hso3 : so < 3) (hmk : σ (43 + x) 4 = nI mk) (hmk2 : mk < 256) : Met l yX_writeBytes (Cond.code yX_writeBytes prog_1_method_24_code 3 none :: mx_T) { frames := 1, cells := 0, slots := 0, locals := 21 } (va_Pc [.ref (ad 0), .ref (ad (43 + x))] (cx_P D K ad σ τ)) (cx_Qv D K ad (fun u => u = (cx_wr σ so mk a (τ (43 + x) 0) (2 ^ z), τ))) 0 0 (gx_A ad 70) := by
  refine gx_met (by decide) rfl (Nat.le_of_ble_eq_true rfl) ?_
  intro pg ev s mid as below mth c ls hx hb hr hml ht hown hlk hnm hargs hB hl
  obtain ⟨hV, hZ⟩ := hB
  have hS : va_S (gx_A ad 70) s.heap s.heap [] := va_S.rf
  have hl : lv_has ls 3 [(0, .ref (ad 0)), (1, .ref (ad (43 + x)))] := hl
  have hz8 := cx_p8 hz4
  refine lv_iconst (v := nI 0) hx hb dX_writeBytes_0 (by decide) ?_
  refine lv_istore_n (lv' := [(2, .int (nI 0)), (0, .ref (ad 0)), (1, .ref (ad (43 + x)))]) hx hb dX_writeBytes_1 rfl hl (by decide) rfl (fun ls hl => ?_)
  have loop : ∀ (k : Nat) (i : Nat) (H : Heap) (locs : List Loc) (ls : Array Slot), i + k = 2 ^ z → gx_V D mx_cl (mx_tys K) (cx_E ad K) ad 70 (cx_wr σ so mk a (τ (43 + x) 0) i) (τ) s H → va_S (gx_A ad 70) s.heap H locs → lv_has ls 3 [(2, .int (nI i)), (0, .ref (ad 0)), (1, .ref (ad (43 + x)))] → W pg l ev (headSpec (Cond.code yX_writeBytes prog_1_method_24_code 3 none :: mx_T) { frames := 1, cells := 0, slots := 0, locals := 21 }).room s mid as below mth c H locs 0 0 (MQ below (cx_Qv D K ad (fun u => u = (cx_wr σ so mk a (τ (43 + x) 0) (2 ^ z), τ))) as s 0 0 (gx_A ad 70)) (F0 mid 2 ls []) := by
    intro k
    induction k with
    | zero =>
      intro i H locs ls hk hV hS hl
      refine lv_iload_n hx hb dX_writeBytes_2 rfl (lv_at hl 0 rfl) ?_
      refine lv_aload_n hx hb dX_writeBytes_3 rfl (lv_at hl 2 rfl) ?_
      refine gx_calli (va_runV (As := []) (rest := [.int (nI i)]) ⟨hx, hb, hml, hown, ht⟩ (k_G_size l hx2 (by rw [cx_wr_n (by omega)]; exact hz) hz4) (cwV 0 ht (mx_gV (C := "MessageCrossbar$Message") mw_346 mw_347 mw_348 mw_5 mw_349) rfl rfl rfl (by decide +kernel) ⟨Nat.le_of_ble_eq_true rfl, Nat.le_of_ble_eq_true rfl⟩) (gx_preV cx_ok hV hZ hS (q := (mR_G, mT_G, 5)) (show 43 + x < 70 by omega) (cx_E_G hx2) rfl []) rfl rfl hl.1 rfl (lv_room (Nat.le_of_ble_eq_true rfl)) dX_writeBytes_4 ⟨Nat.le_of_ble_eq_true rfl, Nat.le_of_ble_eq_true rfl⟩) hV hS (fun r1 σ' τ' H locs hp hV hS => ?_)
      obtain ⟨rfl, hu⟩ := hp
      cases hu
      refine gx_icmp_ge (a := i) (b := (2 ^ z)) (tgt := 46) hx hb dX_writeBytes_7 (by decide) (by omega) (by omega) (fun h7 => ?_) (fun h7 => ?_)
      · exact gx_vret hx hb hr hV hS (by rw [show i = 2 ^ z by omega]) dX_writeBytes_46 hlk
      · exact absurd h7 (by omega)
    | succ k ih =>
      intro i H locs ls hk hV hS hl
      refine lv_iload_n hx hb dX_writeBytes_2 rfl (lv_at hl 0 rfl) ?_
      refine lv_aload_n hx hb dX_writeBytes_3 rfl (lv_at hl 2 rfl) ?_
      refine gx_calli (va_runV (As := []) (rest := [.int (nI i)]) ⟨hx, hb, hml, hown, ht⟩ (k_G_size l hx2 (by rw [cx_wr_n (by omega)]; exact hz) hz4) (cwV 0 ht (mx_gV (C := "MessageCrossbar$Message") mw_346 mw_347 mw_348 mw_5 mw_349) rfl rfl rfl (by decide +kernel) ⟨Nat.le_of_ble_eq_true rfl, Nat.le_of_ble_eq_true rfl⟩) (gx_preV cx_ok hV hZ hS (q := (mR_G, mT_G, 5)) (show 43 + x < 70 by omega) (cx_E_G hx2) rfl []) rfl rfl hl.1 rfl (lv_room (Nat.le_of_ble_eq_true rfl)) dX_writeBytes_4 ⟨Nat.le_of_ble_eq_true rfl, Nat.le_of_ble_eq_true rfl⟩) hV hS (fun r2 σ' τ' H locs hp hV hS => ?_)
      obtain ⟨rfl, hu⟩ := hp
      cases hu
      refine gx_icmp_ge (a := i) (b := (2 ^ z)) (tgt := 46) hx hb dX_writeBytes_7 (by decide) (by omega) (by omega) (fun h7 => ?_) (fun h7 => ?_)
      · exact absurd h7 (by omega)
      · refine lv_aload_n hx hb dX_writeBytes_10 rfl (lv_at hl 2 rfl) ?_
        refine lv_iload_n hx hb dX_writeBytes_11 rfl (lv_at hl 0 rfl) ?_
        refine gx_calli (va_runV (As := [.int (nI i)]) (rest := []) ⟨hx, hb, hml, hown, ht⟩ (k_G_writesByte l hx2 (so := so) (mk := mk) (i := i) (by rw [cx_wr_n (by omega)]; exact hso) hso3 (by rw [cx_wr_n (by omega)]; exact hmk) hmk2 (by omega)) (cwV 1 ht (mx_gV (C := "MessageCrossbar$Message") mw_354 mw_355 mw_356 mw_5 mw_357) rfl rfl rfl (by decide +kernel) ⟨Nat.le_of_ble_eq_true rfl, Nat.le_of_ble_eq_true rfl⟩) (gx_preV cx_ok hV hZ hS (q := (mR_G, mT_G, 5)) (show 43 + x < 70 by omega) (cx_E_G hx2) rfl [.int (nI i)]) rfl rfl hl.1 rfl (lv_room (Nat.le_of_ble_eq_true rfl)) dX_writeBytes_12 ⟨Nat.le_of_ble_eq_true rfl, Nat.le_of_ble_eq_true rfl⟩) hV hS (fun r3 σ' τ' H locs hp hV hS => ?_)
        obtain ⟨rfl, hu⟩ := hp
        cases hu
        refine gx_ifb_eq (q := so = 1 ∨ mk / 2 ^ i % 2 = 1) (tgt := 40) hx hb dX_writeBytes_15 (by decide) (fun h15 => ?_) (fun h15 => ?_)
        · refine lv_iinc (k := 0) (v := (nI (i + 1))) (lv' := [(2, .int (nI (i + 1))), (0, .ref (ad 0)), (1, .ref (ad (43 + x)))]) hx hb dX_writeBytes_40 hl rfl (nI_succ i).symm (by decide) rfl (fun ls hl => ?_)
          refine lv_goto (tgt := 2) hx hb dX_writeBytes_43 (by decide) ?_
          exact ih (i + 1) H locs ls (by omega) (by show gx_V _ _ _ _ _ _ (if so = 1 ∨ mk / 2 ^ i % 2 = 1 then _ else _) _ _ _; rw [if_neg h15]; exact hV) hS (lv_sub hl [0, 1, 2] rfl)
        · refine lv_aload_n hx hb dX_writeBytes_18 rfl (lv_at hl 1 rfl) ?_
          refine gx_get (C := mR_X) (T := mT_X) (N' := 7) hx hb ht mh_X hown hV (by decide) cx_E_X rfl 3 (by decide) (ht _ mw_132) (fun _ h => h) rfl dX_writeBytes_19 ?_
          refine lv_aload_n hx hb dX_writeBytes_22 rfl (lv_at hl 2 rfl) ?_
          refine gx_get (C := mR_G) (T := mT_G) (N' := 5) (v := .int (nI a)) hx hb ht mh_G hown hV (show 43 + x < 70 by omega) (cx_E_G hx2) rfl 2 (by decide) (ht _ mw_114) (fun _ h => h) (congrArg (fun z => some (Value.int z)) ((congrFun (cx_wr_n (by omega)) 2).trans ha)) dX_writeBytes_23 ?_
          refine lv_iload_n hx hb dX_writeBytes_26 rfl (lv_at hl 0 rfl) ?_
          refine gx_iadd (a := a) (b := i) hx hb dX_writeBytes_27 ?_
          refine lv_aload_n hx hb dX_writeBytes_28 rfl (lv_at hl 2 rfl) ?_
          refine gx_get (C := mR_G) (T := mT_G) (N' := 5) hx hb ht mh_G hown hV (show 43 + x < 70 by omega) (cx_E_G hx2) rfl 3 (by decide) (ht _ mw_116) (fun _ h => h) rfl dX_writeBytes_29 ?_
          refine lv_bipush (v := nI 8) hx hb dX_writeBytes_32 (by decide) ?_
          refine lv_iload_n hx hb dX_writeBytes_34 rfl (lv_at hl 0 rfl) ?_
          refine gx_imul (a := 8) (b := i) hx hb dX_writeBytes_35 ?_
          refine lv_lshr hx hb dX_writeBytes_36 rfl ?_
          refine lv_l2i hx hb dX_writeBytes_37 rfl ?_
          refine lv_i2b hx hb dX_writeBytes_38 rfl ?_
          refine gx_bast cx_loc hx hb hV hS (by decide) 1 cx_E_By rfl (a + i) (by omega) (by decide) rfl dX_writeBytes_39 (cx_up (cx_wr σ so mk a (τ (43 + x) 0) i) 67 (a + i) ((nI (mq_byte (τ (43 + x) 0) i)).toInt8.toInt32)) (by rw [cx_E_By, cx_up_upd]; rw [cx_wb _ (by omega)]) (fun _ h => cx_up_J h) (fun H locs hV hS => ?_)
          refine lv_iinc (k := 0) (v := (nI (i + 1))) (lv' := [(2, .int (nI (i + 1))), (0, .ref (ad 0)), (1, .ref (ad (43 + x)))]) hx hb dX_writeBytes_40 hl rfl (nI_succ i).symm (by decide) rfl (fun ls hl => ?_)
          refine lv_goto (tgt := 2) hx hb dX_writeBytes_43 (by decide) ?_
          exact ih (i + 1) H locs ls (by omega) (by show gx_V _ _ _ _ _ _ (if so = 1 ∨ mk / 2 ^ i % 2 = 1 then _ else _) _ _ _; rw [if_pos h15]; exact hV) hS (lv_sub hl [0, 1, 2] rfl)
  exact loop (2 ^ z) 0 _ _ ls (by omega) hV hS hl

set_option maxHeartbeats 4000000 in
set_option maxRecDepth 100000 in
theorem k_X_carryOut (l : Launch) {D : va_G} {K : Nat → ClassId} {ad : Nat → Nat} {σ : Nat → Nat → Int32} {τ : Nat → Nat → Int64} {x z a : Nat} (hx2 : x < 24) (hz : σ (43 + x) 1 = nI z) (hz4 : z < 4) (ha : σ (43 + x) 2 = nI a) (ha4 : a < 1024) (hae : a < 640 → a + 2 ^ z ≤ 640) {so mk : Nat} (hso : σ (43 + x) 0 = nI so) (hso3 : so < 3) (hmk : σ (43 + x) 4 = nI mk) (hmk2 : mk < 256) {bt : Nat → Nat} (hbt : ∀ q, q < 640 → bt q < 256 ∧ σ 67 q = (nI (bt q)).toInt8.toInt32) : Met l yX_carryOut (Cond.code yX_carryOut prog_1_method_22_code 4 none :: mx_T) { frames := 2, cells := 0, slots := 0, locals := 44 } (va_Pc [.ref (ad 0), .ref (ad (43 + x))] (cx_P D K ad σ τ)) (cx_Qv D K ad (fun u => u = (cx_car σ so mk a (2 ^ z) (τ (43 + x) 0), gx_upL τ (43 + x) 0 (if 640 ≤ a then 0 else if so = 0 then lN (mq_got bt a (2 ^ z)) else 0)))) 0 0 (gx_A ad 70) := by
  refine gx_met (by decide) rfl (Nat.le_of_ble_eq_true rfl) ?_
  intro pg ev s mid as below mth c ls hx hb hr hml ht hown hlk hnm hargs hB hl
  obtain ⟨hV, hZ⟩ := hB
  have hS : va_S (gx_A ad 70) s.heap s.heap [] := va_S.rf
  have hl : lv_has ls 4 [(0, .ref (ad 0)), (1, .ref (ad (43 + x)))] := hl
  refine lv_lconst (v := 0) hx hb dX_carryOut_0 (by decide) ?_
  refine lv_lstore_n (lv' := [(2, .long 0), (0, .ref (ad 0)), (1, .ref (ad (43 + x)))]) hx hb dX_carryOut_1 rfl hl (by decide) rfl (fun ls hl => ?_)
  refine lv_aload_n hx hb dX_carryOut_2 rfl (lv_at hl 2 rfl) ?_
  refine gx_calli (va_runV (As := []) (rest := []) ⟨hx, hb, hml, hown, ht⟩ (k_G_isDenied l hx2 ha ha4) (cwV 0 ht (mx_gV (C := "MessageCrossbar$Message") mw_338 mw_339 mw_340 mw_5 mw_341) rfl rfl rfl (by decide +kernel) ⟨Nat.le_of_ble_eq_true rfl, Nat.le_of_ble_eq_true rfl⟩) (gx_preV cx_ok hV hZ hS (q := (mR_G, mT_G, 5)) (show 43 + x < 70 by omega) (cx_E_G hx2) rfl []) rfl rfl hl.1 rfl (lv_room (Nat.le_of_ble_eq_true rfl)) dX_carryOut_3 ⟨Nat.le_of_ble_eq_true rfl, Nat.le_of_ble_eq_true rfl⟩) hV hS (fun r1 σ' τ' H locs hp hV hS => ?_)
  obtain ⟨rfl, hu⟩ := hp
  cases hu
  refine gx_ifb_ne (q := 640 ≤ a) (tgt := 30) hx hb dX_carryOut_6 (by decide) (fun h6 => ?_) (fun h6 => ?_)
  · refine lv_aload_n hx hb dX_carryOut_30 rfl (lv_at hl 2 rfl) ?_
    refine lv_lload_n hx hb dX_carryOut_31 rfl (lv_at hl 0 rfl) ?_
    refine gx_put cx_loc (C := mR_G) (T := mT_G) (N' := 5) (ty := .long) (v := .long 0) hx hb ht mh_G mt_G mk_G mn_G hown hV hS (show 43 + x < 70 by omega) (cx_E_G hx2) rfl 3 (by decide) (ht _ mw_116) (fun _ h => h) rfl (by decide +kernel) rfl rfl (Nat.le_of_ble_eq_true rfl) dX_carryOut_32 σ (gx_upL τ (43 + x) 0 0) (by rw [cx_E_G hx2]; simp [cx_up, gx_upL]) (fun _ _ => rfl) (fun _ h => gx_upL_J h) (fun H locs hV hS => ?_)
    exact gx_vret hx hb hr hV hS (by rw [show cx_car σ so mk a (2 ^ z) (τ (43 + x) 0) = σ from if_pos (Or.inl h6), if_pos h6]) dX_carryOut_35 hlk
  · refine lv_aload_n hx hb dX_carryOut_9 rfl (lv_at hl 2 rfl) ?_
    refine gx_get (C := mR_G) (T := mT_G) (N' := 5) (v := .int (nI so)) hx hb ht mh_G hown hV (show 43 + x < 70 by omega) (cx_E_G hx2) rfl 0 (by decide) (ht _ mw_111) (fun _ h => h) (congrArg (fun z => some (Value.int z)) hso) dX_carryOut_10 ?_
    refine gx_if_ne (a := so) (tgt := 25) hx hb dX_carryOut_13 (by decide) (by omega) (fun h13 => ?_) (fun h13 => ?_)
    · refine lv_aload_n hx hb dX_carryOut_25 rfl (lv_at hl 1 rfl) ?_
      refine lv_aload_n hx hb dX_carryOut_26 rfl (lv_at hl 2 rfl) ?_
      refine gx_callv (va_runV (As := [.ref (ad (43 + x))]) (rest := []) ⟨hx, hb, hml, hown, ht⟩ (k_X_writeBytes l hx2 hz hz4 ha (hae (by omega)) hso hso3 hmk hmk2) (cwV 1 ht (mx_gV (C := "MessageCrossbar") mw_350 mw_352 ms_9 mw_1 mw_353) rfl rfl rfl (by decide +kernel) ⟨Nat.le_of_ble_eq_true rfl, Nat.le_of_ble_eq_true rfl⟩) (gx_preV cx_ok hV hZ hS (q := (mR_X, mT_X, 7)) (by decide) cx_E_X rfl [.ref (ad (43 + x))]) rfl rfl hl.1 rfl (lv_room (Nat.le_of_ble_eq_true rfl)) dX_carryOut_27 ⟨Nat.le_of_ble_eq_true rfl, Nat.le_of_ble_eq_true rfl⟩) hV hS (fun σ' τ' H locs hp hV hS => ?_)
      cases hp
      refine lv_aload_n hx hb dX_carryOut_30 rfl (lv_at hl 2 rfl) ?_
      refine lv_lload_n hx hb dX_carryOut_31 rfl (lv_at hl 0 rfl) ?_
      refine gx_put cx_loc (C := mR_G) (T := mT_G) (N' := 5) (ty := .long) (v := .long 0) hx hb ht mh_G mt_G mk_G mn_G hown hV hS (show 43 + x < 70 by omega) (cx_E_G hx2) rfl 3 (by decide) (ht _ mw_116) (fun _ h => h) rfl (by decide +kernel) rfl rfl (Nat.le_of_ble_eq_true rfl) dX_carryOut_32 (cx_wr σ so mk a (τ (43 + x) 0) (2 ^ z)) (gx_upL τ (43 + x) 0 0) (by rw [cx_E_G hx2]; simp [cx_up, gx_upL]) (fun _ _ => rfl) (fun _ h => gx_upL_J h) (fun H locs hV hS => ?_)
      exact gx_vret hx hb hr hV hS (by rw [show cx_car σ so mk a (2 ^ z) (τ (43 + x) 0) = cx_wr σ so mk a (τ (43 + x) 0) (2 ^ z) from if_neg (by omega), if_neg h6, if_neg h13]) dX_carryOut_35 hlk
    · refine lv_aload_n hx hb dX_carryOut_16 rfl (lv_at hl 1 rfl) ?_
      refine lv_aload_n hx hb dX_carryOut_17 rfl (lv_at hl 2 rfl) ?_
      refine gx_calll (va_runV (As := [.ref (ad (43 + x))]) (rest := []) ⟨hx, hb, hml, hown, ht⟩ (k_X_readBytes l hx2 hz hz4 ha (hae (by omega)) hbt) (cwV 1 ht (mx_gV (C := "MessageCrossbar") mw_342 mw_344 ms_8 mw_1 mw_345) rfl rfl rfl (by decide +kernel) ⟨Nat.le_of_ble_eq_true rfl, Nat.le_of_ble_eq_true rfl⟩) (gx_preV cx_ok hV hZ hS (q := (mR_X, mT_X, 7)) (by decide) cx_E_X rfl [.ref (ad (43 + x))]) rfl rfl hl.1 rfl (lv_room (Nat.le_of_ble_eq_true rfl)) dX_carryOut_18 ⟨Nat.le_of_ble_eq_true rfl, Nat.le_of_ble_eq_true rfl⟩) hV hS (fun r3 σ' τ' H locs hp hV hS => ?_)
      obtain ⟨rfl, hu⟩ := hp
      cases hu
      refine lv_lstore_n (lv' := [(2, .long (lN (mq_got bt a (2 ^ z)))), (0, .ref (ad 0)), (1, .ref (ad (43 + x)))]) hx hb dX_carryOut_21 rfl hl (by decide) rfl (fun ls hl => ?_)
      refine lv_goto (tgt := 30) hx hb dX_carryOut_22 (by decide) ?_
      refine lv_aload_n hx hb dX_carryOut_30 rfl (lv_at hl 2 rfl) ?_
      refine lv_lload_n hx hb dX_carryOut_31 rfl (lv_at hl 0 rfl) ?_
      refine gx_put cx_loc (C := mR_G) (T := mT_G) (N' := 5) (ty := .long) (v := .long (lN (mq_got bt a (2 ^ z)))) hx hb ht mh_G mt_G mk_G mn_G hown hV hS (show 43 + x < 70 by omega) (cx_E_G hx2) rfl 3 (by decide) (ht _ mw_116) (fun _ h => h) rfl (by decide +kernel) rfl rfl (Nat.le_of_ble_eq_true rfl) dX_carryOut_32 σ (gx_upL τ (43 + x) 0 (lN (mq_got bt a (2 ^ z)))) (by rw [cx_E_G hx2]; simp [cx_up, gx_upL]) (fun _ _ => rfl) (fun _ h => gx_upL_J h) (fun H locs hV hS => ?_)
      exact gx_vret hx hb hr hV hS (by rw [show cx_car σ so mk a (2 ^ z) (τ (43 + x) 0) = σ from if_pos (Or.inr h13), if_neg h6, if_pos h13]) dX_carryOut_35 hlk
end
section
/-! the crossbar's own methods: jobs -/
theorem cx_m32 {c : Nat} (h : c < 2 ^ 31) : nI c &&& nI 31 = nI (c % 32) := pk_andN (by omega) 5 (by decide)
theorem cx_wps_w {p : Nat} (hp : p < 4) : 2 ^ cx_wps p = mq_width p ∧ cx_wps p < 32 := by
  rcases cx_4 hp with rfl | rfl | rfl | rfl <;> decide
theorem cx_dls_d {p : Nat} (hp : p < 4) : cx_dls p = mq_delay p ∧ mq_delay p ≤ 3 := by
  rcases cx_4 hp with rfl | rfl | rfl | rfl <;> decide
theorem cx_max {n : Nat} (hn : n < 2 ^ 31) : (if nI 1 < nI n then nI n else nI 1) = nI (max 1 n) := by
  by_cases h : 1 < n
  · rw [if_pos ((nI_ltI (by omega) hn).mpr h), Nat.max_eq_right (by omega)]
  · rw [if_neg (fun q => h ((nI_ltI (by omega) hn).mp q)), Nat.max_eq_left (by omega)]
theorem cx_sh2 {z w : Nat} (hz : z < 4) (hw : w < 32) : nI (2 ^ z) >>> (nI w &&& 31) = nI (2 ^ z / 2 ^ w) := pk_shrN (by have := cx_p8 hz; omega) (nI w &&& 31) w (mb_s w hw)

set_option maxHeartbeats 4000000 in
set_option maxRecDepth 100000 in
theorem k_X_finishJob (l : Launch) {D : va_G} {K : Nat → ClassId} {ad : Nat → Nat} {σ : Nat → Nat → Int32} {τ : Nat → Nat → Int64} {p na c3 : Nat} (hp0 : p < 4) {x z a : Nat} (hx2 : x < 24) (hz : σ (43 + x) 1 = nI z) (hz4 : z < 4) (ha : σ (43 + x) 2 = nI a) (ha4 : a < 1024) (hae : a < 640 → a + 2 ^ z ≤ 640) {so mk : Nat} (hso : σ (43 + x) 0 = nI so) (hso3 : so < 3) (hmk : σ (43 + x) 4 = nI mk) (hmk2 : mk < 256) {bt : Nat → Nat} (hbt : ∀ q, q < 640 → bt q < 256 ∧ σ 67 q = (nI (bt q)).toInt8.toInt32) (hjb : σ (18 + 6 * p) 3 = nI x) (hna : σ (21 + 6 * p) 1 = nI na) (hna2 : na < 2) (hc3 : σ 69 3 = nI c3) (hc31 : c3 < 2 ^ 31) : Met l yX_finishJob (Cond.code yX_finishJob prog_1_method_20_code 3 none :: mx_T) { frames := 3, cells := 0, slots := 0, locals := 67 } (va_Pc [.ref (ad 0), .int (nI p)] (cx_P D K ad σ τ)) (cx_Qv D K ad (fun u => u = (cx_fin σ p na x so mk a (2 ^ z) c3 (τ (43 + x) 0), gx_upL τ (43 + x) 0 (if 640 ≤ a then 0 else if so = 0 then lN (mq_got bt a (2 ^ z)) else 0)))) 0 0 (gx_A ad 70) := by
  refine gx_met (by decide) rfl (Nat.le_of_ble_eq_true rfl) ?_
  intro pg ev s mid as below mth c ls hx hb hr hml ht hown hlk hnm hargs hB hl
  obtain ⟨hV, hZ⟩ := hB
  have hS : va_S (gx_A ad 70) s.heap s.heap [] := va_S.rf
  have hl : lv_has ls 3 [(0, .ref (ad 0)), (1, .int (nI p))] := hl
  refine lv_aload_n hx hb dX_finishJob_0 rfl (lv_at hl 0 rfl) ?_
  refine gx_get (C := mR_X) (T := mT_X) (N' := 7) hx hb ht mh_X hown hV (by decide) cx_E_X rfl 1 (by decide) (ht _ mw_130) (fun _ h => h) rfl dX_finishJob_1 ?_
  refine lv_iload_n hx hb dX_finishJob_4 rfl (lv_at hl 1 rfl) ?_
  refine gx_aald hx hb hV (by decide) 5 cx_E_Ps rfl p hp0 (by decide) rfl rfl dX_finishJob_5 ?_
  refine gx_calli (va_runV (As := []) (rest := []) ⟨hx, hb, hml, hown, ht⟩ (k_P_finishJob l hp0 hx2 hjb hna hna2) (cwV 0 ht (mx_gV (C := "MessageCrossbar$Port") mw_329 mw_330 mw_331 mw_4 mw_332) rfl rfl rfl (by decide +kernel) ⟨Nat.le_of_ble_eq_true rfl, Nat.le_of_ble_eq_true rfl⟩) (gx_preV cx_ok hV hZ hS (q := (mR_P, mT_P, 7)) (show 18 + 6 * p < 70 by omega) (cx_E_P hp0) rfl []) rfl rfl hl.1 rfl (lv_room (Nat.le_of_ble_eq_true rfl)) dX_finishJob_6 ⟨Nat.le_of_ble_eq_true rfl, Nat.le_of_ble_eq_true rfl⟩) hV hS (fun r1 σ' τ' H locs hp hV hS => ?_)
  obtain ⟨rfl, hu⟩ := hp
  cases hu
  refine lv_istore_n (lv' := [(2, .int (nI x)), (0, .ref (ad 0)), (1, .int (nI p))]) hx hb dX_finishJob_9 rfl hl (by decide) rfl (fun ls hl => ?_)
  refine lv_iload_n hx hb dX_finishJob_10 rfl (lv_at hl 0 rfl) ?_
  refine lv_iconst (v := -1) hx hb dX_finishJob_11 (by decide) ?_
  refine lv_icmp_ne (tgt := 16) hx hb dX_finishJob_12 (by decide) (fun h12 => ?_) (fun h12 => ?_)
  · refine lv_aload_n hx hb dX_finishJob_16 rfl (lv_at hl 1 rfl) ?_
    refine lv_aload_n hx hb dX_finishJob_17 rfl (lv_at hl 1 rfl) ?_
    refine gx_get (C := mR_X) (T := mT_X) (N' := 7) hx hb ht mh_X hown hV (by decide) cx_E_X rfl 2 (by decide) (ht _ mw_131) (fun _ h => h) rfl dX_finishJob_18 ?_
    refine lv_iload_n hx hb dX_finishJob_21 rfl (lv_at hl 0 rfl) ?_
    refine gx_aald hx hb hV (by decide) 6 cx_E_Gs rfl x hx2 (by decide) rfl rfl dX_finishJob_22 ?_
    refine gx_callv (va_runV (As := [.ref (ad (43 + x))]) (rest := []) ⟨hx, hb, hml, hown, ht⟩ (k_X_carryOut l (σ := (cx_up (cx_up (cx_app σ (21 + 6 * p) na (nI x)) (18 + 6 * p) 3 (-1)) (18 + 6 * p) 5 (σ (18 + 6 * p) 5 + 1))) hx2 (by rw [cx_up_J (by omega), cx_up_J (by omega), cx_app_n (by omega) (by omega)]; exact hz) hz4 (by rw [cx_up_J (by omega), cx_up_J (by omega), cx_app_n (by omega) (by omega)]; exact ha) ha4 hae (by rw [cx_up_J (by omega), cx_up_J (by omega), cx_app_n (by omega) (by omega)]; exact hso) hso3 (by rw [cx_up_J (by omega), cx_up_J (by omega), cx_app_n (by omega) (by omega)]; exact hmk) hmk2 (fun q hq => (by rw [cx_up_J (by omega), cx_up_J (by omega), cx_app_n (by omega) (by omega)]; exact hbt q hq))) (cwV 1 ht (mx_gV (C := "MessageCrossbar") mw_334 mw_336 ms_7 mw_1 mw_337) rfl rfl rfl (by decide +kernel) ⟨Nat.le_of_ble_eq_true rfl, Nat.le_of_ble_eq_true rfl⟩) (gx_preV cx_ok hV hZ hS (q := (mR_X, mT_X, 7)) (by decide) cx_E_X rfl [.ref (ad (43 + x))]) rfl rfl hl.1 rfl (lv_room (Nat.le_of_ble_eq_true rfl)) dX_finishJob_23 ⟨Nat.le_of_ble_eq_true rfl, Nat.le_of_ble_eq_true rfl⟩) hV hS (fun σ' τ' H locs hp hV hS => ?_)
    cases hp
    refine lv_aload_n hx hb dX_finishJob_26 rfl (lv_at hl 1 rfl) ?_
    refine gx_get (C := mR_X) (T := mT_X) (N' := 7) hx hb ht mh_X hown hV (by decide) cx_E_X rfl 4 (by decide) (ht _ mw_133) (fun _ h => h) rfl dX_finishJob_27 ?_
    refine lv_aload_n hx hb dX_finishJob_30 rfl (lv_at hl 1 rfl) ?_
    refine gx_get (C := mR_X) (T := mT_X) (N' := 7) hx hb ht mh_X hown hV (by decide) cx_E_X rfl 5 (by decide) (ht _ mw_134) (fun _ h => h) rfl dX_finishJob_31 ?_
    refine lv_iconst (v := nI 3) hx hb dX_finishJob_34 (by decide) ?_
    refine gx_ialdv (v := nI c3) hx hb hV (by decide) 0 cx_E_Ct rfl 3 (by decide) (by decide) rfl (by rw [cx_car_n (by omega), cx_up_J (by omega), cx_up_J (by omega), cx_app_n (by omega) (by omega)]; exact hc3) dX_finishJob_35 ?_
    refine gx_callp (va_runS (As := [.int (nI c3)]) (rest := [.ref (ad 68)]) ⟨hx, hb, hml, hown, ht⟩ (k_X_logPlace l) (cwS 1 ht (mx_gS mw_163 mw_164 mw_1 mw_165) rfl rfl rfl (by decide +kernel) ⟨Nat.le_of_ble_eq_true rfl, Nat.le_of_ble_eq_true rfl⟩) (gx_preP [.int (nI c3)]) rfl rfl hl.1 rfl (lv_room (Nat.le_of_ble_eq_true rfl)) dX_finishJob_36 ⟨Nat.le_of_ble_eq_true rfl, Nat.le_of_ble_eq_true rfl⟩) hV hS (fun r3 H locs hp hV hS => ?_)
    rw [cx_m32 hc31] at hp
    subst hp
    refine lv_bipush (v := nI 64) hx hb dX_finishJob_39 (by decide) ?_
    refine lv_iload_n hx hb dX_finishJob_41 rfl (lv_at hl 2 rfl) ?_
    refine gx_imul (a := 64) (b := p) hx hb dX_finishJob_42 ?_
    refine lv_iload_n hx hb dX_finishJob_43 rfl (lv_at hl 0 rfl) ?_
    refine gx_iadd (a := (64 * p)) (b := x) hx hb dX_finishJob_44 ?_
    refine gx_iast cx_loc hx hb hV hS (by decide) 0 cx_E_Lg rfl (c3 % 32) (Nat.mod_lt _ (by decide)) (by decide) rfl dX_finishJob_45 (cx_up (cx_car (cx_up (cx_up (cx_app σ (21 + 6 * p) na (nI x)) (18 + 6 * p) 3 (-1)) (18 + 6 * p) 5 (σ (18 + 6 * p) 5 + 1)) so mk a (2 ^ z) (τ (43 + x) 0)) 68 (c3 % 32) (nI ((64 * p) + x))) (by rw [cx_E_Lg, cx_up_upd]) (fun _ h => cx_up_J h) (fun H locs hV hS => ?_)
    refine lv_aload_n hx hb dX_finishJob_46 rfl (lv_at hl 1 rfl) ?_
    refine gx_get (C := mR_X) (T := mT_X) (N' := 7) hx hb ht mh_X hown hV (by decide) cx_E_X rfl 5 (by decide) (ht _ mw_134) (fun _ h => h) rfl dX_finishJob_47 ?_
    refine lv_iconst (v := nI 3) hx hb dX_finishJob_50 (by decide) ?_
    refine lv_dup2_11 hx hb dX_finishJob_51 rfl rfl ?_
    refine gx_ialdv (v := σ 69 3) hx hb hV (by decide) 0 cx_E_Ct rfl 3 (by decide) (by decide) rfl (by rw [cx_up_J (by omega), cx_car_n (by omega), cx_up_J (by omega), cx_up_J (by omega), cx_app_n (by omega) (by omega)]) dX_finishJob_52 ?_
    refine lv_iconst (v := nI 1) hx hb dX_finishJob_53 (by decide) ?_
    refine lv_iadd hx hb dX_finishJob_54 ?_
    refine gx_iast cx_loc hx hb hV hS (by decide) 0 cx_E_Ct rfl 3 (by decide) (by decide) rfl dX_finishJob_55 (cx_up (cx_up (cx_car (cx_up (cx_up (cx_app σ (21 + 6 * p) na (nI x)) (18 + 6 * p) 3 (-1)) (18 + 6 * p) 5 (σ (18 + 6 * p) 5 + 1)) so mk a (2 ^ z) (τ (43 + x) 0)) 68 (c3 % 32) (nI ((64 * p) + x))) 69 3 (σ 69 3 + (nI 1))) (by rw [cx_E_Ct, cx_up_upd]) (fun _ h => cx_up_J h) (fun H locs hV hS => ?_)
    exact gx_vret hx hb hr hV hS rfl dX_finishJob_56 hlk
  · exact absurd h12 (rr_m1 hx2)

set_option maxHeartbeats 4000000 in
set_option maxRecDepth 100000 in
theorem k_X_beginJob (l : Launch) {D : va_G} {K : Nat → ClassId} {ad : Nat → Nat} {σ : Nat → Nat → Int32} {τ : Nat → Nat → Int64} {p x z : Nat} {t : List Nat} (hp0 : p < 4) (hx2 : x < 24) (hz : σ (43 + x) 1 = nI z) (hz4 : z < 4) (hA : cx_ln σ (19 + 6 * p) (x :: t)) (hl2 : t.length + 1 ≤ 2) : Met l yX_beginJob (Cond.code yX_beginJob prog_1_method_21_code 3 none :: mx_T) { frames := 1, cells := 0, slots := 0, locals := 40 } (va_Pc [.ref (ad 0), .int (nI p)] (cx_P D K ad σ τ)) (cx_Qv D K ad (fun u => u = (cx_beg σ p t.length x (mq_delay p + max 1 (2 ^ z / mq_width p)), τ))) 0 0 (gx_A ad 70) := by
  refine gx_met (by decide) rfl (Nat.le_of_ble_eq_true rfl) ?_
  intro pg ev s mid as below mth c ls hx hb hr hml ht hown hlk hnm hargs hB hl
  obtain ⟨hV, hZ⟩ := hB
  have hS : va_S (gx_A ad 70) s.heap s.heap [] := va_S.rf
  have hl : lv_has ls 3 [(0, .ref (ad 0)), (1, .int (nI p))] := hl
  obtain ⟨t2, hz2, ht2⟩ := hZ.2.1
  obtain ⟨t3, hz3, ht3⟩ := hZ.2.2.1
  have hz8 := cx_p8 hz4
  have hdv : 2 ^ z / mq_width p ≤ 2 ^ z := Nat.div_le_self _ _
  refine lv_aload_n hx hb dX_beginJob_0 rfl (lv_at hl 0 rfl) ?_
  refine gx_get (C := mR_X) (T := mT_X) (N' := 7) hx hb ht mh_X hown hV (by decide) cx_E_X rfl 1 (by decide) (ht _ mw_130) (fun _ h => h) rfl dX_beginJob_1 ?_
  refine lv_iload_n hx hb dX_beginJob_4 rfl (lv_at hl 1 rfl) ?_
  refine gx_aald hx hb hV (by decide) 5 cx_E_Ps rfl p hp0 (by decide) rfl rfl dX_beginJob_5 ?_
  refine gx_get (C := mR_P) (T := mT_P) (N' := 7) hx hb ht mh_P hown hV (show 18 + 6 * p < 70 by omega) (cx_E_P hp0) rfl 0 (by decide) (ht _ mw_75) (fun _ h => h) rfl dX_beginJob_6 ?_
  refine gx_calli (va_runV (As := []) (rest := []) ⟨hx, hb, hml, hown, ht⟩ (k_L_removeFirst l (t := t.length) (cx_isL_Q hp0) hA.1 hl2) (cwV 0 ht (mx_gV (C := "MessageCrossbar$Line") mw_304 mw_305 mw_306 mw_3 mw_307) rfl rfl rfl (by decide +kernel) ⟨Nat.le_of_ble_eq_true rfl, Nat.le_of_ble_eq_true rfl⟩) (gx_preV cx_ok hV hZ hS (q := (mR_L, mT_L, 2)) ((cx_isL_Q hp0)).lt.1 (cx_E_L (cx_isL_Q hp0)).1 rfl []) rfl rfl hl.1 rfl (lv_room (Nat.le_of_ble_eq_true rfl)) dX_beginJob_9 ⟨Nat.le_of_ble_eq_true rfl, Nat.le_of_ble_eq_true rfl⟩) hV hS (fun r1 σ' τ' H locs hp hV hS => ?_)
  obtain ⟨h9, hu⟩ := hp
  rw [hA.first] at h9
  subst h9
  cases hu
  refine lv_istore_n (lv' := [(2, .int (nI x)), (0, .ref (ad 0)), (1, .int (nI p))]) hx hb dX_beginJob_12 rfl hl (by decide) rfl (fun ls hl => ?_)
  refine lv_iload_n hx hb dX_beginJob_13 rfl (lv_at hl 0 rfl) ?_
  refine lv_iconst (v := -1) hx hb dX_beginJob_14 (by decide) ?_
  refine lv_icmp_ne (tgt := 19) hx hb dX_beginJob_15 (by decide) (fun h15 => ?_) (fun h15 => ?_)
  · refine lv_aload_n hx hb dX_beginJob_19 rfl (lv_at hl 1 rfl) ?_
    refine gx_get (C := mR_X) (T := mT_X) (N' := 7) hx hb ht mh_X hown hV (by decide) cx_E_X rfl 1 (by decide) (ht _ mw_130) (fun _ h => h) rfl dX_beginJob_20 ?_
    refine lv_iload_n hx hb dX_beginJob_23 rfl (lv_at hl 2 rfl) ?_
    refine gx_aald hx hb hV (by decide) 5 cx_E_Ps rfl p hp0 (by decide) rfl rfl dX_beginJob_24 ?_
    refine lv_iload_n hx hb dX_beginJob_25 rfl (lv_at hl 0 rfl) ?_
    refine gx_put cx_loc (C := mR_P) (T := mT_P) (N' := 7) (ty := .int) (v := .int (nI x)) hx hb ht mh_P mt_P mk_P mn_P hown hV hS (show 18 + 6 * p < 70 by omega) (cx_E_P hp0) rfl 3 (by decide) (ht _ mw_81) (fun _ h => h) rfl (by decide +kernel) rfl rfl (Nat.le_of_ble_eq_true rfl) dX_beginJob_26 (cx_up (cx_rem σ (19 + 6 * p) t.length) (18 + 6 * p) 3 (nI x)) τ (by rw [cx_E_P hp0]; simp [cx_up, gx_upL]) (fun _ h => cx_up_J h) (fun _ _ => rfl) (fun H locs hV hS => ?_)
    refine lv_aload_n hx hb dX_beginJob_29 rfl (lv_at hl 1 rfl) ?_
    refine gx_get (C := mR_X) (T := mT_X) (N' := 7) hx hb ht mh_X hown hV (by decide) cx_E_X rfl 1 (by decide) (ht _ mw_130) (fun _ h => h) rfl dX_beginJob_30 ?_
    refine lv_iload_n hx hb dX_beginJob_33 rfl (lv_at hl 2 rfl) ?_
    refine gx_aald hx hb hV (by decide) 5 cx_E_Ps rfl p hp0 (by decide) rfl rfl dX_beginJob_34 ?_
    refine va_gets hx hb hz3 hS hown (ht _ mw_366) (fun _ h => h) dX_beginJob_35 ?_
    refine lv_iload_n hx hb dX_beginJob_38 rfl (lv_at hl 2 rfl) ?_
    refine va_ti hx hb ht3 hS (v := .int (nI (cx_dls p))) (gx_ia (k := p) (n := 4) hp0 (by omega) rfl).1 (by rw [(gx_ia (k := p) (n := 4) hp0 (by omega) rfl).2]) dX_beginJob_39 ?_
    refine lv_iconst (v := nI 1) hx hb dX_beginJob_40 (by decide) ?_
    refine lv_aload_n hx hb dX_beginJob_41 rfl (lv_at hl 1 rfl) ?_
    refine gx_get (C := mR_X) (T := mT_X) (N' := 7) hx hb ht mh_X hown hV (by decide) cx_E_X rfl 2 (by decide) (ht _ mw_131) (fun _ h => h) rfl dX_beginJob_42 ?_
    refine lv_iload_n hx hb dX_beginJob_45 rfl (lv_at hl 0 rfl) ?_
    refine gx_aald hx hb hV (by decide) 6 cx_E_Gs rfl x hx2 (by decide) rfl rfl dX_beginJob_46 ?_
    refine gx_calli (va_runV (As := []) (rest := [.int (nI 1), .int (nI (cx_dls p)), .ref (ad (18 + 6 * p))]) ⟨hx, hb, hml, hown, ht⟩ (k_G_size l hx2 (by rw [cx_up_J (by omega), cx_rem_n (by omega) (by omega)]; exact hz) hz4) (cwV 0 ht (mx_gV (C := "MessageCrossbar$Message") mw_346 mw_347 mw_348 mw_5 mw_349) rfl rfl rfl (by decide +kernel) ⟨Nat.le_of_ble_eq_true rfl, Nat.le_of_ble_eq_true rfl⟩) (gx_preV cx_ok hV hZ hS (q := (mR_G, mT_G, 5)) (show 43 + x < 70 by omega) (cx_E_G hx2) rfl []) rfl rfl hl.1 rfl (lv_room (Nat.le_of_ble_eq_true rfl)) dX_beginJob_47 ⟨Nat.le_of_ble_eq_true rfl, Nat.le_of_ble_eq_true rfl⟩) hV hS (fun r2 σ' τ' H locs hp hV hS => ?_)
    obtain ⟨rfl, hu⟩ := hp
    cases hu
    refine va_gets hx hb hz2 hS hown (ht _ mw_368) (fun _ h => h) dX_beginJob_50 ?_
    refine lv_iload_n hx hb dX_beginJob_53 rfl (lv_at hl 2 rfl) ?_
    refine va_ti hx hb ht2 hS (v := .int (nI (cx_wps p))) (gx_ia (k := p) (n := 4) hp0 (by omega) rfl).1 (by rw [(gx_ia (k := p) (n := 4) hp0 (by omega) rfl).2]) dX_beginJob_54 ?_
    refine lv_ishr hx hb dX_beginJob_55 ?_
    refine gx_top (by rw [cx_sh2 hz4 (cx_wps_w hp0).2, (cx_wps_w hp0).1]) ?_
    refine va_mmax hx hb (by rw [hml]; exact hl.1.symm) hown (ht _ mw_370) (ht _ mw_371) (ht _ mw_11) (ht _ mw_372) (Nat.le_of_ble_eq_true rfl) (Nat.le_of_ble_eq_true rfl) (Nat.le_refl _) (Nat.le_refl _) dX_beginJob_56 ?_
    refine gx_top (cx_max (by omega)) ?_
    refine gx_iadd (a := (cx_dls p)) (b := (max 1 (2 ^ z / mq_width p))) hx hb dX_beginJob_59 ?_
    refine gx_top (by rw [(cx_dls_d hp0).1]) ?_
    refine gx_put cx_loc (C := mR_P) (T := mT_P) (N' := 7) (ty := .int) (v := .int (nI (mq_delay p + max 1 (2 ^ z / mq_width p)))) hx hb ht mh_P mt_P mk_P mn_P hown hV hS (show 18 + 6 * p < 70 by omega) (cx_E_P hp0) rfl 4 (by decide) (ht _ mw_83) (fun _ h => h) rfl (by decide +kernel) rfl rfl (Nat.le_of_ble_eq_true rfl) dX_beginJob_60 (cx_up (cx_up (cx_rem σ (19 + 6 * p) t.length) (18 + 6 * p) 3 (nI x)) (18 + 6 * p) 4 (nI (mq_delay p + max 1 (2 ^ z / mq_width p)))) τ (by rw [cx_E_P hp0]; simp [cx_up, gx_upL]) (fun _ h => cx_up_J h) (fun _ _ => rfl) (fun H locs hV hS => ?_)
    exact gx_vret hx hb hr hV hS rfl dX_beginJob_63 hlk
  · exact absurd h15 (rr_m1 hx2)
end
section
/-! the crossbar's own methods: all ports are served -/
theorem mq_nc (xs : List Nat) : xs = [] ∨ ∃ y t, xs = y :: t := by
  cases xs with
  | nil => exact Or.inl rfl
  | cons y t => exact Or.inr ⟨y, t, rfl⟩
theorem mq_sv0 {ρ : Nat → Nat → Nat} {μ : Nat → Int64} {p : Nat} (h3 : mq_first ρ 3 (3 + p) = none) (h2 : mq_first ρ 2 (3 + p) = none) : mq_serve ρ μ p = (ρ, μ) := by
  unfold mq_serve
  rw [h3]
  show (mq_begin ρ p, μ) = _
  unfold mq_begin
  rw [h2]
theorem mq_bg {ρ : Nat → Nat → Nat} {p y : Nat} (h2 : mq_first ρ 2 (3 + p) = some y) : mq_begin ρ p = mq_go (mq_up ρ 12 p (mq_delay p + max 1 (ρ 4 y / mq_width p))) y 3 := by
  unfold mq_begin
  rw [h2]
theorem mq_bg0 {ρ : Nat → Nat → Nat} {p : Nat} (h2 : mq_first ρ 2 (3 + p) = none) : mq_begin ρ p = ρ := by
  unfold mq_begin
  rw [h2]
theorem mq_sv1 {ρ : Nat → Nat → Nat} {μ : Nat → Int64} {p : Nat} (h3 : mq_first ρ 3 (3 + p) = none) : mq_serve ρ μ p = (mq_begin ρ p, μ) := by
  unfold mq_serve
  rw [h3]
theorem mq_sv2 {ρ : Nat → Nat → Nat} {μ : Nat → Int64} {p x : Nat} (h3 : mq_first ρ 3 (3 + p) = some x) (hd : mq_finD (mq_cd ρ p) p = none) : mq_serve ρ μ p = (mq_cd ρ p, μ) := by
  unfold mq_serve
  rw [h3]
  show (match mq_finD (mq_cd ρ p) p with | none => (mq_cd ρ p, μ) | some _ => _) = _
  rw [hd]
theorem mq_sv3 {ρ : Nat → Nat → Nat} {μ : Nat → Int64} {p x y : Nat} (h3 : mq_first ρ 3 (3 + p) = some x) (hd : mq_finD (mq_cd ρ p) p = some y) : mq_serve ρ μ p = (mq_begin (mq_fin (mq_work (mq_cd ρ p) (μ x) x).1 p x) p, mq_upL μ x (mq_work (mq_cd ρ p) (μ x) x).2) := by
  unfold mq_serve
  rw [h3]
  show (match mq_finD (mq_cd ρ p) p with | none => (mq_cd ρ p, μ) | some _ => _) = _
  rw [hd]
theorem mq_work2 {ρ : Nat → Nat → Nat} {d : Int64} {x : Nat} : (mq_work ρ d x).2 = (if 640 ≤ ρ 5 x then 0 else if ρ 3 x = 0 then lN (mq_got (ρ 14) (ρ 5 x) (ρ 4 x)) else 0) := by
  unfold mq_work
  by_cases h1 : 640 ≤ ρ 5 x
  · rw [if_pos h1, if_pos h1]
  · rw [if_neg h1, if_neg h1]
    by_cases h2 : ρ 3 x = 0
    · rw [if_pos h2, if_pos h2]
    · rw [if_neg h2, if_neg h2]
theorem mq_al {a z : Nat} (hz : z < 4) (h : a % 2 ^ z = 0) (ha : a < 640) : a + 2 ^ z ≤ 640 := by
  have : z = 0 ∨ z = 1 ∨ z = 2 ∨ z = 3 := by omega
  rcases this with rfl | rfl | rfl | rfl <;> omega
theorem mq_vlt {p z : Nat} (hp : p < 4) (hz : z < 4) : mq_delay p + max 1 (2 ^ z / mq_width p) < 16 := by
  have h1 := (cx_dls_d hp).2
  have h2 := cx_p8 hz
  have h3 : 2 ^ z / mq_width p ≤ 2 ^ z := Nat.div_le_self _ _
  omega
theorem mq_work_01 {ρ : Nat → Nat → Nat} {d : Int64} {x p : Nat} : mq_fin (mq_work ρ d x).1 p x 0 1 = ρ 0 1 + 1 := by
  rw [mq_fin_sp.2.2.2.2.2.2.1, mq_work_n (by omega)]

set_option maxHeartbeats 4000000 in
set_option maxRecDepth 100000 in
theorem k_X_servePorts (l : Launch) {D : va_G} {K : Nat → ClassId} {ad : Nat → Nat} {σ : Nat → Nat → Int32} {τ : Nat → Nat → Int64} {ρ : Nat → Nat → Nat} {μ : Nat → Int64} {lt : Int64} {pl : Nat → Nat → List Nat} (hR : rr_R σ τ ρ μ lt pl) (hmv : ρ 0 1 + 16 < 2 ^ 31) : Met l yX_servePorts (Cond.code yX_servePorts prog_1_method_19_code 3 (some .boolean) :: mx_T) { frames := 4, cells := 0, slots := 0, locals := 89 } (va_Pc [.ref (ad 0)] (cx_P D K ad σ τ)) (cx_Qi D K ad (fun rr u => ∃ (f : Nat) (pl' : Nat → Nat → List Nat), rr = nI f ∧ f ≤ 1 ∧ (mq_srv ρ μ 4).1 0 2 = (if f = 1 then 1 else ρ 0 2) ∧ rr_R u.1 u.2 (mq_srv ρ μ 4).1 (mq_srv ρ μ 4).2 lt pl')) 0 0 (gx_A ad 70) := by
  refine gx_met (by decide) rfl (Nat.le_of_ble_eq_true rfl) ?_
  intro pg ev s mid as below mth c ls hx hb hr hml ht hown hlk hnm hargs hB hl
  obtain ⟨hV, hZ⟩ := hB
  have hS : va_S (gx_A ad 70) s.heap s.heap [] := va_S.rf
  have hl : lv_has ls 3 [(0, .ref (ad 0))] := hl
  refine lv_iconst (v := nI 0) hx hb dX_servePorts_0 (by decide) ?_
  refine lv_istore_n (lv' := [(1, .int (nI 0)), (0, .ref (ad 0))]) hx hb dX_servePorts_1 rfl hl (by decide) rfl (fun ls hl => ?_)
  refine lv_iconst (v := nI 0) hx hb dX_servePorts_2 (by decide) ?_
  refine lv_istore_n (lv' := [(2, .int (nI 0)), (1, .int (nI 0)), (0, .ref (ad 0))]) hx hb dX_servePorts_3 rfl hl (by decide) rfl (fun ls hl => ?_)
  have loop : ∀ (k : Nat) (i f : Nat) (σ1 : Nat → Nat → Int32) (τ1 : Nat → Nat → Int64) (ρ1 : Nat → Nat → Nat) (μ1 : Nat → Int64) (pl1 : Nat → Nat → List Nat) (H : Heap) (locs : List Loc) (ls : Array Slot), i + k = 4 → f ≤ 1 → mq_srv ρ μ i = (ρ1, μ1) → ρ1 0 2 = (if f = 1 then 1 else ρ 0 2) → ρ1 0 1 ≤ ρ 0 1 + 2 * i → rr_R σ1 τ1 ρ1 μ1 lt pl1 → gx_V D mx_cl (mx_tys K) (cx_E ad K) ad 70 (σ1) (τ1) s H → va_S (gx_A ad 70) s.heap H locs → lv_has ls 3 [(2, .int (nI i)), (1, .int (nI f)), (0, .ref (ad 0))] → W pg l ev (headSpec (Cond.code yX_servePorts prog_1_method_19_code 3 (some .boolean) :: mx_T) { frames := 4, cells := 0, slots := 0, locals := 89 }).room s mid as below mth c H locs 0 0 (MQ below (cx_Qi D K ad (fun rr u => ∃ (f : Nat) (pl' : Nat → Nat → List Nat), rr = nI f ∧ f ≤ 1 ∧ (mq_srv ρ μ 4).1 0 2 = (if f = 1 then 1 else ρ 0 2) ∧ rr_R u.1 u.2 (mq_srv ρ μ 4).1 (mq_srv ρ μ 4).2 lt pl')) as s 0 0 (gx_A ad 70)) (F0 mid 4 ls []) := by
    intro k
    induction k with
    | zero =>
      intro i f σ1 τ1 ρ1 μ1 pl1 H locs ls hk hf1 hs hf2 hm1 R1 hV hS hl
      refine lv_iload_n hx hb dX_servePorts_4 rfl (lv_at hl 0 rfl) ?_
      refine lv_iconst (v := nI 4) hx hb dX_servePorts_5 (by decide) ?_
      refine gx_icmp_ge (a := i) (b := 4) (tgt := 62) hx hb dX_servePorts_6 (by decide) (by omega) (by omega) (fun h6 => ?_) (fun h6 => ?_)
      · refine lv_iload_n hx hb dX_servePorts_62 rfl (lv_at hl 1 rfl) ?_
        exact gx_zret hx hb hr (cx_nb1 hf1) hV hS ⟨f, pl1, rfl, hf1, by rw [show 4 = i by omega, hs]; exact hf2, by rw [show 4 = i by omega, hs]; exact R1⟩ dX_servePorts_63 hlk
      · exact absurd h6 (by omega)
    | succ k ih =>
      intro i f σ1 τ1 ρ1 μ1 pl1 H locs ls hk hf1 hs hf2 hm1 R1 hV hS hl
      refine lv_iload_n hx hb dX_servePorts_4 rfl (lv_at hl 0 rfl) ?_
      refine lv_iconst (v := nI 4) hx hb dX_servePorts_5 (by decide) ?_
      refine gx_icmp_ge (a := i) (b := 4) (tgt := 62) hx hb dX_servePorts_6 (by decide) (by omega) (by omega) (fun h6 => ?_) (fun h6 => ?_)
      · exact absurd h6 (by omega)
      · have hi4 : i < 4 := by omega
        have Ra := R1.cd hi4
        obtain ⟨j1, j2, j3, j4, j5, -⟩ := R1.2.2.1 i hi4
        refine lv_aload_n hx hb dX_servePorts_9 rfl (lv_at hl 2 rfl) ?_
        refine gx_get (C := mR_X) (T := mT_X) (N' := 7) hx hb ht mh_X hown hV (by decide) cx_E_X rfl 1 (by decide) (ht _ mw_130) (fun _ h => h) rfl dX_servePorts_10 ?_
        refine lv_iload_n hx hb dX_servePorts_13 rfl (lv_at hl 0 rfl) ?_
        refine gx_aald hx hb hV (by decide) 5 cx_E_Ps rfl i hi4 (by decide) rfl rfl dX_servePorts_14 ?_
        refine gx_callv (va_runV (As := []) (rest := []) ⟨hx, hb, hml, hown, ht⟩ (k_P_countDown l hi4 (t := ρ1 12 i) j3 j5) (cwV 0 ht (mx_gV (C := "MessageCrossbar$Port") mw_316 mw_317 mw_318 mw_4 mw_319) rfl rfl rfl (by decide +kernel) ⟨Nat.le_of_ble_eq_true rfl, Nat.le_of_ble_eq_true rfl⟩) (gx_preV cx_ok hV hZ hS (q := (mR_P, mT_P, 7)) (show 18 + 6 * i < 70 by omega) (cx_E_P hi4) rfl []) rfl rfl hl.1 rfl (lv_room (Nat.le_of_ble_eq_true rfl)) dX_servePorts_15 ⟨Nat.le_of_ble_eq_true rfl, Nat.le_of_ble_eq_true rfl⟩) hV hS (fun σ' τ' H locs hp hV hS => ?_)
        cases hp
        generalize hga : cx_up σ1 (18 + 6 * i) 4 (nI (ρ1 12 i - 1)) = σa at hV Ra
        generalize hgr : mq_up ρ1 12 i (ρ1 12 i - 1) = ρa at Ra
        obtain ⟨-, ja2, ja3, ja4, ja5, -⟩ := Ra.2.2.1 i hi4
        have ok4 : mq_ok 4 (3 + i) := Or.inr ⟨by simp, by omega, by omega⟩
        have ok3 : mq_ok 3 (3 + i) := Or.inr ⟨by simp, by omega, by omega⟩
        have ok2 : mq_ok 2 (3 + i) := Or.inr ⟨by simp, by omega, by omega⟩
        have hl4 := Ra.1 4 (3 + i) ok4 (by omega)
        have hl2 := Ra.1 2 (3 + i) ok2 (by omega)
        rw [show rr_ln 4 (3 + i) = 21 + 6 * i by simp [rr_ln], show rr_room 4 = 2 from rfl] at hl4
        rw [show rr_ln 2 (3 + i) = 19 + 6 * i by simp [rr_ln], show rr_room 2 = 2 from rfl] at hl2
        have ha01 : ρa 0 1 = ρ1 0 1 := by rw [← hgr]; exact mq_up_j (by omega)
        have ha02 : ρa 0 2 = ρ1 0 2 := by rw [← hgr]; exact mq_up_j (by omega)
        refine lv_aload_n hx hb dX_servePorts_18 rfl (lv_at hl 2 rfl) ?_
        refine gx_get (C := mR_X) (T := mT_X) (N' := 7) hx hb ht mh_X hown hV (by decide) cx_E_X rfl 1 (by decide) (ht _ mw_130) (fun _ h => h) rfl dX_servePorts_19 ?_
        refine lv_iload_n hx hb dX_servePorts_22 rfl (lv_at hl 0 rfl) ?_
        refine gx_aald hx hb hV (by decide) 5 cx_E_Ps rfl i hi4 (by decide) rfl rfl dX_servePorts_23 ?_
        refine gx_calli (va_runV (As := []) (rest := []) ⟨hx, hb, hml, hown, ht⟩ (k_P_canFinishJob l hi4 ja3 ja5 hl4.1.1 hl4.2) (cwV 0 ht (mx_gV (C := "MessageCrossbar$Port") mw_320 mw_321 mw_322 mw_4 mw_323) rfl rfl rfl (by decide +kernel) ⟨Nat.le_of_ble_eq_true rfl, Nat.le_of_ble_eq_true rfl⟩) (gx_preV cx_ok hV hZ hS (q := (mR_P, mT_P, 7)) (show 18 + 6 * i < 70 by omega) (cx_E_P hi4) rfl []) rfl rfl hl.1 rfl (lv_room (Nat.le_of_ble_eq_true rfl)) dX_servePorts_24 ⟨Nat.le_of_ble_eq_true rfl, Nat.le_of_ble_eq_true rfl⟩) hV hS (fun r2 σ' τ' H locs hp hV hS => ?_)
        obtain ⟨rfl, hu⟩ := hp
        cases hu
        rcases mq_nc (pl1 3 (3 + i)) with hj | ⟨x, tl, hj⟩
        · have hcd : ρa = ρ1 := by rw [← hgr]; exact mq_up_same (by rw [j4 hj])
          have h3n : mq_first ρ1 3 (3 + i) = none := by rw [R1.2.1.first ok3, hj]; rfl
          refine gx_ifb_eq (q := σa (18 + 6 * i) 3 ≠ -1 ∧ ρa 12 i = 0 ∧ (pl1 4 (3 + i)).length < 2) (tgt := 37) hx hb dX_servePorts_27 (by decide) (fun h27 => ?_) (fun h27 => ?_)
          · refine lv_aload_n hx hb dX_servePorts_37 rfl (lv_at hl 2 rfl) ?_
            refine gx_get (C := mR_X) (T := mT_X) (N' := 7) hx hb ht mh_X hown hV (by decide) cx_E_X rfl 1 (by decide) (ht _ mw_130) (fun _ h => h) rfl dX_servePorts_38 ?_
            refine lv_iload_n hx hb dX_servePorts_41 rfl (lv_at hl 0 rfl) ?_
            refine gx_aald hx hb hV (by decide) 5 cx_E_Ps rfl i hi4 (by decide) rfl rfl dX_servePorts_42 ?_
            refine gx_calli (va_runV (As := []) (rest := []) ⟨hx, hb, hml, hown, ht⟩ (k_P_canBeginJob l hi4 hl2.1.1 hl2.2) (cwV 0 ht (mx_gV (C := "MessageCrossbar$Port") mw_358 mw_359 mw_360 mw_4 mw_361) rfl rfl rfl (by decide +kernel) ⟨Nat.le_of_ble_eq_true rfl, Nat.le_of_ble_eq_true rfl⟩) (gx_preV cx_ok hV hZ hS (q := (mR_P, mT_P, 7)) (show 18 + 6 * i < 70 by omega) (cx_E_P hi4) rfl []) rfl rfl hl.1 rfl (lv_room (Nat.le_of_ble_eq_true rfl)) dX_servePorts_43 ⟨Nat.le_of_ble_eq_true rfl, Nat.le_of_ble_eq_true rfl⟩) hV hS (fun r3 σ' τ' H locs hp hV hS => ?_)
            obtain ⟨rfl, hu⟩ := hp
            cases hu
            rcases mq_nc (pl1 2 (3 + i)) with hq | ⟨y, t, hq⟩
            · have h2n : mq_first ρ1 2 (3 + i) = none := by rw [R1.2.1.first ok2, hq]; rfl
              refine gx_ifb_eq (q := σa (18 + 6 * i) 3 = -1 ∧ 0 < (pl1 2 (3 + i)).length) (tgt := 56) hx hb dX_servePorts_46 (by decide) (fun h46 => ?_) (fun h46 => ?_)
              · refine lv_iinc (k := 0) (v := (nI (i + 1))) (lv' := [(2, .int (nI (i + 1))), (1, .int (nI f)), (0, .ref (ad 0))]) hx hb dX_servePorts_56 hl rfl (nI_succ i).symm (by decide) rfl (fun ls hl => ?_)
                refine lv_goto (tgt := 4) hx hb dX_servePorts_59 (by decide) ?_
                exact ih (i + 1) f σa τ1 ρa μ1 pl1 H locs ls (by omega) hf1 (by show mq_serve (mq_srv ρ μ i).1 (mq_srv ρ μ i).2 i = _; rw [hs]; show mq_serve ρ1 μ1 i = _; rw [hcd]; exact mq_sv0 h3n h2n) (by rw [ha02]; exact hf2) (by omega) Ra hV hS (lv_sub hl [0, 1, 2] rfl)
              · exact absurd h46.2 (by rw [hq]; decide)
            · obtain ⟨hy24, hy2, -⟩ := Ra.2.1.mem (w := 2) (g := 3 + i) (Or.inr ⟨by simp, by omega, by omega⟩) (x := y) (by rw [hq]; simp)
              obtain ⟨-, ⟨zz, hzz4, hzz, hzz2⟩, -⟩ := Ra.2.2.2.2.2.1 y hy24 (by rw [hy2]; decide)
              have hQ := Ra.1 2 (3 + i) (Or.inr ⟨by simp, by omega, by omega⟩) (by omega)
              rw [hq, show rr_ln 2 (3 + i) = 19 + 6 * i by simp [rr_ln], show rr_room 2 = 2 from rfl] at hQ
              have R2 := Ra.beg hi4 hq hj (mq_vlt (z := zz) hi4 hzz4)
              have h2s : mq_first ρ1 2 (3 + i) = some y := by rw [R1.2.1.first ok2, hq]; rfl
              refine gx_ifb_eq (q := σa (18 + 6 * i) 3 = -1 ∧ 0 < (pl1 2 (3 + i)).length) (tgt := 56) hx hb dX_servePorts_46 (by decide) (fun h46 => ?_) (fun h46 => ?_)
              · exact absurd ⟨by rw [ja2, hj]; rfl, by rw [hq]; exact Nat.succ_pos _⟩ h46
              · refine lv_aload_n hx hb dX_servePorts_49 rfl (lv_at hl 2 rfl) ?_
                refine lv_iload_n hx hb dX_servePorts_50 rfl (lv_at hl 0 rfl) ?_
                refine gx_callv (va_runV (As := [.int (nI i)]) (rest := []) ⟨hx, hb, hml, hown, ht⟩ (k_X_beginJob l hi4 hy24 hzz hzz4 hQ.1 hQ.2) (cwV 1 ht (mx_gV (C := "MessageCrossbar") mw_362 mw_364 ms_10 mw_1 mw_365) rfl rfl rfl (by decide +kernel) ⟨Nat.le_of_ble_eq_true rfl, Nat.le_of_ble_eq_true rfl⟩) (gx_preV cx_ok hV hZ hS (q := (mR_X, mT_X, 7)) (by decide) cx_E_X rfl [.int (nI i)]) rfl rfl hl.1 rfl (lv_room (Nat.le_of_ble_eq_true rfl)) dX_servePorts_51 ⟨Nat.le_of_ble_eq_true rfl, Nat.le_of_ble_eq_true rfl⟩) hV hS (fun σ' τ' H locs hp hV hS => ?_)
                cases hp
                refine lv_iconst (v := nI 1) hx hb dX_servePorts_54 (by decide) ?_
                refine lv_istore_n (lv' := [(1, .int (nI 1)), (2, .int (nI i)), (0, .ref (ad 0))]) hx hb dX_servePorts_55 rfl hl (by decide) rfl (fun ls hl => ?_)
                refine lv_iinc (k := 1) (v := (nI (i + 1))) (lv' := [(2, .int (nI (i + 1))), (1, .int (nI 1)), (0, .ref (ad 0))]) hx hb dX_servePorts_56 hl rfl (nI_succ i).symm (by decide) rfl (fun ls hl => ?_)
                refine lv_goto (tgt := 4) hx hb dX_servePorts_59 (by decide) ?_
                exact ih (i + 1) 1 _ τ1 _ μ1 _ H locs ls (by omega) (Nat.le_refl 1) (by show mq_serve (mq_srv ρ μ i).1 (mq_srv ρ μ i).2 i = _; rw [hs]; show mq_serve ρ1 μ1 i = _; rw [mq_sv1 h3n, mq_bg h2s, ← hcd, hzz2]) mq_go_02 (by rw [mq_go_01, mq_up_j (by omega)]; omega) R2 hV hS (lv_sub hl [0, 1, 2] rfl)
          · exact absurd (by rw [ja2, hj]; rfl) h27.1
        · have htl : tl = [] := by rw [hj] at j1; simpa using j1
          subst htl
          obtain ⟨hx24, hx3, -⟩ := Ra.2.1.mem ok3 (x := x) (by rw [hj]; simp)
          have h3s : mq_first ρ1 3 (3 + i) = some x := by rw [R1.2.1.first ok3, hj]; rfl
          have h3a : mq_first ρa 3 (3 + i) = some x := by rw [Ra.2.1.first ok3, hj]; rfl
          have hja : σa (18 + 6 * i) 3 = nI x := by rw [ja2, hj]; rfl
          obtain ⟨⟨hso, hso3⟩, ⟨zx, hzx4, hzx, hzx2⟩, ⟨had, had4, hal⟩, ⟨hmk, hmk2⟩, hdt⟩ := Ra.2.2.2.2.2.1 x hx24 (by rw [hx3]; decide)
          refine gx_ifb_eq (q := σa (18 + 6 * i) 3 ≠ -1 ∧ ρa 12 i = 0 ∧ (pl1 4 (3 + i)).length < 2) (tgt := 37) hx hb dX_servePorts_27 (by decide) (fun h27 => ?_) (fun h27 => ?_)
          · refine lv_aload_n hx hb dX_servePorts_37 rfl (lv_at hl 2 rfl) ?_
            refine gx_get (C := mR_X) (T := mT_X) (N' := 7) hx hb ht mh_X hown hV (by decide) cx_E_X rfl 1 (by decide) (ht _ mw_130) (fun _ h => h) rfl dX_servePorts_38 ?_
            refine lv_iload_n hx hb dX_servePorts_41 rfl (lv_at hl 0 rfl) ?_
            refine gx_aald hx hb hV (by decide) 5 cx_E_Ps rfl i hi4 (by decide) rfl rfl dX_servePorts_42 ?_
            refine gx_calli (va_runV (As := []) (rest := []) ⟨hx, hb, hml, hown, ht⟩ (k_P_canBeginJob l hi4 hl2.1.1 hl2.2) (cwV 0 ht (mx_gV (C := "MessageCrossbar$Port") mw_358 mw_359 mw_360 mw_4 mw_361) rfl rfl rfl (by decide +kernel) ⟨Nat.le_of_ble_eq_true rfl, Nat.le_of_ble_eq_true rfl⟩) (gx_preV cx_ok hV hZ hS (q := (mR_P, mT_P, 7)) (show 18 + 6 * i < 70 by omega) (cx_E_P hi4) rfl []) rfl rfl hl.1 rfl (lv_room (Nat.le_of_ble_eq_true rfl)) dX_servePorts_43 ⟨Nat.le_of_ble_eq_true rfl, Nat.le_of_ble_eq_true rfl⟩) hV hS (fun r5 σ' τ' H locs hp hV hS => ?_)
            obtain ⟨rfl, hu⟩ := hp
            cases hu
            refine gx_ifb_eq (q := σa (18 + 6 * i) 3 = -1 ∧ 0 < (pl1 2 (3 + i)).length) (tgt := 56) hx hb dX_servePorts_46 (by decide) (fun h46 => ?_) (fun h46 => ?_)
            · refine lv_iinc (k := 0) (v := (nI (i + 1))) (lv' := [(2, .int (nI (i + 1))), (1, .int (nI f)), (0, .ref (ad 0))]) hx hb dX_servePorts_56 hl rfl (nI_succ i).symm (by decide) rfl (fun ls hl => ?_)
              refine lv_goto (tgt := 4) hx hb dX_servePorts_59 (by decide) ?_
              exact ih (i + 1) f σa τ1 ρa μ1 pl1 H locs ls (by omega) hf1 (by show mq_serve (mq_srv ρ μ i).1 (mq_srv ρ μ i).2 i = _; rw [hs]; show mq_serve ρ1 μ1 i = _; rw [← hgr]; exact mq_sv2 h3s (by show mq_finD (mq_up ρ1 12 i (ρ1 12 i - 1)) i = _; rw [hgr]; unfold mq_finD; rw [if_pos]; rw [Ra.2.1.many ok4]; have : ¬ (ρa 12 i = 0 ∧ (pl1 4 (3 + i)).length < 2) := fun q => h27 ⟨by rw [hja]; exact rr_m1 hx24, q⟩; omega)) (by rw [ha02]; exact hf2) (by omega) Ra hV hS (lv_sub hl [0, 1, 2] rfl)
            · exact absurd (hja.symm.trans h46.1) (rr_m1 hx24)
          · refine lv_aload_n hx hb dX_servePorts_30 rfl (lv_at hl 2 rfl) ?_
            refine lv_iload_n hx hb dX_servePorts_31 rfl (lv_at hl 0 rfl) ?_
            have Rf := Ra.fin hi4 hj h27.2.1 h27.2.2
            have hc31 : ρa 16 3 < 2 ^ 31 := by have := Ra.2.2.2.2.2.2.1.2.2.2; omega
            refine gx_callv (va_runV (As := [.int (nI i)]) (rest := []) ⟨hx, hb, hml, hown, ht⟩ (k_X_finishJob l (bt := ρa 14) (c3 := ρa 16 3) hi4 hx24 hzx hzx4 had had4 (fun q => mq_al hzx4 (by rw [← hzx2]; exact hal) q) hso hso3 hmk hmk2 Ra.2.2.2.2.2.2.1.1 hja hl4.1.1 h27.2.2 (Ra.2.2.2.2.2.2.1.2.2.1 3 (by omega)) hc31) (cwV 1 ht (mx_gV (C := "MessageCrossbar") mw_325 mw_327 ms_6 mw_1 mw_328) rfl rfl rfl (by decide +kernel) ⟨Nat.le_of_ble_eq_true rfl, Nat.le_of_ble_eq_true rfl⟩) (gx_preV cx_ok hV hZ hS (q := (mR_X, mT_X, 7)) (by decide) cx_E_X rfl [.int (nI i)]) rfl rfl hl.1 rfl (lv_room (Nat.le_of_ble_eq_true rfl)) dX_servePorts_32 ⟨Nat.le_of_ble_eq_true rfl, Nat.le_of_ble_eq_true rfl⟩) hV hS (fun σ' τ' H locs hp hV hS => ?_)
            cases hp
            rw [← hzx2, hdt, ← mq_work2 (d := μ1 x)] at hV
            generalize hgf : cx_fin σa i (pl1 4 (3 + i)).length x (ρa 3 x) (ρa 7 x) (ρa 5 x) (ρa 4 x) (ρa 16 3) (μ1 x) = σf at hV Rf
            generalize hgt : gx_upL τ1 (43 + x) 0 (mq_work ρa (μ1 x) x).2 = τf at hV Rf
            have hjf0 : mq_set (mq_set pl1 3 (3 + i) []) 4 (3 + i) (pl1 4 (3 + i) ++ [x]) 3 (3 + i) = [] := by rw [mq_set_n (by omega), mq_set_s]
            generalize hgp : mq_set (mq_set pl1 3 (3 + i) []) 4 (3 + i) (pl1 4 (3 + i) ++ [x]) = plf at Rf hjf0
            have hjf := hjf0
            have hf01 : mq_fin (mq_work ρa (μ1 x) x).1 i x 0 1 = ρa 0 1 + 1 := mq_work_01
            have hf02 : mq_fin (mq_work ρa (μ1 x) x).1 i x 0 2 = 1 := mq_fin_sp.2.2.2.2.2.2.2
            have hsv : mq_serve ρ1 μ1 i = (mq_begin (mq_fin (mq_work ρa (μ1 x) x).1 i x) i, mq_upL μ1 x (mq_work ρa (μ1 x) x).2) := by rw [← hgr]; exact mq_sv3 (y := x) h3s (by show mq_finD (mq_up ρ1 12 i (ρ1 12 i - 1)) i = _; rw [hgr]; unfold mq_finD; rw [if_neg (by rw [Ra.2.1.many ok4]; omega)]; exact h3a)
            generalize hgq : mq_fin (mq_work ρa (μ1 x) x).1 i x = ρf at Rf hf01 hf02 hsv
            refine lv_iconst (v := nI 1) hx hb dX_servePorts_35 (by decide) ?_
            refine lv_istore_n (lv' := [(1, .int (nI 1)), (2, .int (nI i)), (0, .ref (ad 0))]) hx hb dX_servePorts_36 rfl hl (by decide) rfl (fun ls hl => ?_)
            refine lv_aload_n hx hb dX_servePorts_37 rfl (lv_at hl 2 rfl) ?_
            refine gx_get (C := mR_X) (T := mT_X) (N' := 7) hx hb ht mh_X hown hV (by decide) cx_E_X rfl 1 (by decide) (ht _ mw_130) (fun _ h => h) rfl dX_servePorts_38 ?_
            refine lv_iload_n hx hb dX_servePorts_41 rfl (lv_at hl 1 rfl) ?_
            refine gx_aald hx hb hV (by decide) 5 cx_E_Ps rfl i hi4 (by decide) rfl rfl dX_servePorts_42 ?_
            have hlf := Rf.1 2 (3 + i) ok2 (by omega)
            rw [show rr_ln 2 (3 + i) = 19 + 6 * i by simp [rr_ln], show rr_room 2 = 2 from rfl] at hlf
            refine gx_calli (va_runV (As := []) (rest := []) ⟨hx, hb, hml, hown, ht⟩ (k_P_canBeginJob l hi4 hlf.1.1 hlf.2) (cwV 0 ht (mx_gV (C := "MessageCrossbar$Port") mw_358 mw_359 mw_360 mw_4 mw_361) rfl rfl rfl (by decide +kernel) ⟨Nat.le_of_ble_eq_true rfl, Nat.le_of_ble_eq_true rfl⟩) (gx_preV cx_ok hV hZ hS (q := (mR_P, mT_P, 7)) (show 18 + 6 * i < 70 by omega) (cx_E_P hi4) rfl []) rfl rfl hl.1 rfl (lv_room (Nat.le_of_ble_eq_true rfl)) dX_servePorts_43 ⟨Nat.le_of_ble_eq_true rfl, Nat.le_of_ble_eq_true rfl⟩) hV hS (fun r7 σ' τ' H locs hp hV hS => ?_)
            obtain ⟨rfl, hu⟩ := hp
            cases hu
            rcases mq_nc (plf 2 (3 + i)) with hq | ⟨y, t, hq⟩
            · have h2n : mq_first ρf 2 (3 + i) = none := by rw [Rf.2.1.first ok2, hq]; rfl
              refine gx_ifb_eq (q := σf (18 + 6 * i) 3 = -1 ∧ 0 < (plf 2 (3 + i)).length) (tgt := 56) hx hb dX_servePorts_46 (by decide) (fun h46 => ?_) (fun h46 => ?_)
              · refine lv_iinc (k := 1) (v := (nI (i + 1))) (lv' := [(2, .int (nI (i + 1))), (1, .int (nI 1)), (0, .ref (ad 0))]) hx hb dX_servePorts_56 hl rfl (nI_succ i).symm (by decide) rfl (fun ls hl => ?_)
                refine lv_goto (tgt := 4) hx hb dX_servePorts_59 (by decide) ?_
                exact ih (i + 1) 1 σf τf ρf _ plf H locs ls (by omega) (Nat.le_refl 1) (by show mq_serve (mq_srv ρ μ i).1 (mq_srv ρ μ i).2 i = _; rw [hs]; show mq_serve ρ1 μ1 i = _; rw [hsv, mq_bg0 h2n]) hf02 (by omega) Rf hV hS (lv_sub hl [0, 1, 2] rfl)
              · exact absurd h46.2 (by rw [hq]; decide)
            · obtain ⟨hy24, hy2, -⟩ := Rf.2.1.mem (w := 2) (g := 3 + i) (Or.inr ⟨by simp, by omega, by omega⟩) (x := y) (by rw [hq]; simp)
              obtain ⟨-, ⟨zz, hzz4, hzz, hzz2⟩, -⟩ := Rf.2.2.2.2.2.1 y hy24 (by rw [hy2]; decide)
              have hQ := Rf.1 2 (3 + i) (Or.inr ⟨by simp, by omega, by omega⟩) (by omega)
              rw [hq, show rr_ln 2 (3 + i) = 19 + 6 * i by simp [rr_ln], show rr_room 2 = 2 from rfl] at hQ
              have R2 := Rf.beg hi4 hq hjf (mq_vlt (z := zz) hi4 hzz4)
              have h2s : mq_first ρf 2 (3 + i) = some y := by rw [Rf.2.1.first ok2, hq]; rfl
              refine gx_ifb_eq (q := σf (18 + 6 * i) 3 = -1 ∧ 0 < (plf 2 (3 + i)).length) (tgt := 56) hx hb dX_servePorts_46 (by decide) (fun h46 => ?_) (fun h46 => ?_)
              · exact absurd ⟨by rw [(Rf.2.2.1 i hi4).2.1, hjf]; rfl, by rw [hq]; exact Nat.succ_pos _⟩ h46
              · refine lv_aload_n hx hb dX_servePorts_49 rfl (lv_at hl 2 rfl) ?_
                refine lv_iload_n hx hb dX_servePorts_50 rfl (lv_at hl 1 rfl) ?_
                refine gx_callv (va_runV (As := [.int (nI i)]) (rest := []) ⟨hx, hb, hml, hown, ht⟩ (k_X_beginJob l hi4 hy24 hzz hzz4 hQ.1 hQ.2) (cwV 1 ht (mx_gV (C := "MessageCrossbar") mw_362 mw_364 ms_10 mw_1 mw_365) rfl rfl rfl (by decide +kernel) ⟨Nat.le_of_ble_eq_true rfl, Nat.le_of_ble_eq_true rfl⟩) (gx_preV cx_ok hV hZ hS (q := (mR_X, mT_X, 7)) (by decide) cx_E_X rfl [.int (nI i)]) rfl rfl hl.1 rfl (lv_room (Nat.le_of_ble_eq_true rfl)) dX_servePorts_51 ⟨Nat.le_of_ble_eq_true rfl, Nat.le_of_ble_eq_true rfl⟩) hV hS (fun σ' τ' H locs hp hV hS => ?_)
                cases hp
                refine lv_iconst (v := nI 1) hx hb dX_servePorts_54 (by decide) ?_
                refine lv_istore_n (lv' := [(1, .int (nI 1)), (2, .int (nI i)), (0, .ref (ad 0))]) hx hb dX_servePorts_55 rfl hl (by decide) rfl (fun ls hl => ?_)
                refine lv_iinc (k := 1) (v := (nI (i + 1))) (lv' := [(2, .int (nI (i + 1))), (1, .int (nI 1)), (0, .ref (ad 0))]) hx hb dX_servePorts_56 hl rfl (nI_succ i).symm (by decide) rfl (fun ls hl => ?_)
                refine lv_goto (tgt := 4) hx hb dX_servePorts_59 (by decide) ?_
                exact ih (i + 1) 1 _ τf _ _ _ H locs ls (by omega) (Nat.le_refl 1) (by show mq_serve (mq_srv ρ μ i).1 (mq_srv ρ μ i).2 i = _; rw [hs]; show mq_serve ρ1 μ1 i = _; rw [hsv, mq_bg h2s, hzz2]) mq_go_02 (by rw [mq_go_01, mq_up_j (by omega)]; omega) R2 hV hS (lv_sub hl [0, 1, 2] rfl)
  exact loop 4 0 0 _ _ _ _ _ _ _ ls (by omega) (by omega) rfl rfl (by omega) hR hV hS hl
end
section
/-! the crossbar's own methods: requests; a tick -/
theorem mq_cnt4_iff {f : Nat → Bool} : mq_cnt f 4 < 4 ↔ mq_fnd (fun i => !f i) 0 4 ≠ none := by
  cases h0 : f 0 <;> cases h1 : f 1 <;> cases h2 : f 2 <;> cases h3 : f 3 <;> simp [mq_cnt, mq_fnd, h0, h1, h2, h3]
theorem rr_fr4 {σ : Nat → Nat → Int32} {τ : Nat → Nat → Int64} {ρ : Nat → Nat → Nat} {μ : Nat → Int64} {lt : Int64} {pl : Nat → Nat → List Nat} (h : rr_R σ τ ρ μ lt pl) {p : Nat} (hp : p < 4) : mq_fnd (fun q => decide (σ (23 + 6 * p) q = -1)) 0 4 = mq_free ρ p := by
  unfold mq_free
  refine mq_fnd_congr 4 0 (fun j _ hj => ?_)
  have := h.freeB hp (i := j) (by omega)
  cases hh : (mq_holder ρ p j).isNone with
  | true => rw [hh] at this; simpa using this
  | false => rw [hh] at this; simpa using this
theorem rr_room4 {σ : Nat → Nat → Int32} {τ : Nat → Nat → Int64} {ρ : Nat → Nat → Nat} {μ : Nat → Int64} {lt : Int64} {pl : Nat → Nat → List Nat} (h : rr_R σ τ ρ μ lt pl) {p : Nat} (hp : p < 4) : mq_cnt (fun q => decide (σ (23 + 6 * p) q ≠ -1)) 4 < 4 ↔ mq_free ρ p ≠ none := by
  rw [mq_cnt4_iff, ← rr_fr4 h hp]
  have : (fun i => !decide (σ (23 + 6 * p) i ≠ -1)) = fun q => decide (σ (23 + 6 * p) q = -1) := by
    funext q
    simp
  rw [this]

set_option maxHeartbeats 4000000 in
set_option maxRecDepth 100000 in
theorem k_X_nextRequestingMaster (l : Launch) {D : va_G} {K : Nat → ClassId} {ad : Nat → Nat} {σ : Nat → Nat → Int32} {τ : Nat → Nat → Int64} {p : Nat} (hp0 : p < 4) {ρ : Nat → Nat → Nat} {μ : Nat → Int64} {lt : Int64} {pl : Nat → Nat → List Nat} (hR : rr_R σ τ ρ μ lt pl) : Met l yX_nextRequestingMaster (Cond.code yX_nextRequestingMaster prog_1_method_26_code 5 (some .int) :: mx_T) { frames := 2, cells := 0, slots := 0, locals := 42 } (va_Pc [.ref (ad 0), .int (nI p)] (cx_P D K ad σ τ)) (cx_Qi D K ad (fun rr u => rr = mq_oI ((mq_reqD ρ p).map (fun k => (ρ 11 p + k) % 3)) ∧ u = (σ, τ))) 0 0 (gx_A ad 70) := by
  refine gx_met (by decide) rfl (Nat.le_of_ble_eq_true rfl) ?_
  intro pg ev s mid as below mth c ls hx hb hr hml ht hown hlk hnm hargs hB hl
  obtain ⟨hV, hZ⟩ := hB
  have hS : va_S (gx_A ad 70) s.heap s.heap [] := va_S.rf
  have hl : lv_has ls 5 [(0, .ref (ad 0)), (1, .int (nI p))] := hl
  have hR0 := hR
  obtain ⟨hL, hP, hJ, hM, hO, hG, hBB, hT⟩ := hR
  obtain ⟨-, -, -, -, -, -, lm, hlm, hlm1, hlm2⟩ := hJ p hp0
  have ok2 : mq_ok 2 (3 + p) := Or.inr ⟨by simp, by omega, by omega⟩
  have hrq := hL 2 (3 + p) ok2 (by omega)
  rw [show rr_ln 2 (3 + p) = 19 + 6 * p by simp [rr_ln], show rr_room 2 = 2 from rfl] at hrq
  refine lv_aload_n hx hb dX_nextRequestingMaster_0 rfl (lv_at hl 0 rfl) ?_
  refine gx_get (C := mR_X) (T := mT_X) (N' := 7) hx hb ht mh_X hown hV (by decide) cx_E_X rfl 1 (by decide) (ht _ mw_130) (fun _ h => h) rfl dX_nextRequestingMaster_1 ?_
  refine lv_iload_n hx hb dX_nextRequestingMaster_4 rfl (lv_at hl 1 rfl) ?_
  refine gx_aald hx hb hV (by decide) 5 cx_E_Ps rfl p hp0 (by decide) rfl rfl dX_nextRequestingMaster_5 ?_
  refine gx_calli (va_runV (As := []) (rest := []) ⟨hx, hb, hml, hown, ht⟩ (k_P_hasRoomForRequest l hp0 hrq.1.1 hrq.2) (cwV 0 ht (mx_gV (C := "MessageCrossbar$Port") mw_381 mw_382 mw_383 mw_4 mw_384) rfl rfl rfl (by decide +kernel) ⟨Nat.le_of_ble_eq_true rfl, Nat.le_of_ble_eq_true rfl⟩) (gx_preV cx_ok hV hZ hS (q := (mR_P, mT_P, 7)) (show 18 + 6 * p < 70 by omega) (cx_E_P hp0) rfl []) rfl rfl hl.1 rfl (lv_room (Nat.le_of_ble_eq_true rfl)) dX_nextRequestingMaster_6 ⟨Nat.le_of_ble_eq_true rfl, Nat.le_of_ble_eq_true rfl⟩) hV hS (fun r1 σ' τ' H locs hp hV hS => ?_)
  obtain ⟨rfl, hu⟩ := hp
  cases hu
  refine gx_ifb_ne (q := (pl 2 (3 + p)).length < 2 ∧ mq_cnt (fun q => decide (σ (23 + 6 * p) q ≠ -1)) 4 < 4) (tgt := 14) hx hb dX_nextRequestingMaster_9 (by decide) (fun h9 => ?_) (fun h9 => ?_)
  · refine lv_iconst (v := nI 1) hx hb dX_nextRequestingMaster_14 (by decide) ?_
    refine lv_istore_n (lv' := [(2, .int (nI 1)), (0, .ref (ad 0)), (1, .int (nI p))]) hx hb dX_nextRequestingMaster_15 rfl hl (by decide) rfl (fun ls hl => ?_)
    have loop : ∀ (k : Nat) (i : Nat) (H : Heap) (locs : List Loc) (ls : Array Slot), i + k = 3 → mq_fnd (mq_reqK ρ p) 0 3 = mq_fnd (mq_reqK ρ p) i k → gx_V D mx_cl (mx_tys K) (cx_E ad K) ad 70 (σ) (τ) s H → va_S (gx_A ad 70) s.heap H locs → lv_has ls 5 [(2, .int (nI (i + 1))), (0, .ref (ad 0)), (1, .int (nI p))] → W pg l ev (headSpec (Cond.code yX_nextRequestingMaster prog_1_method_26_code 5 (some .int) :: mx_T) { frames := 2, cells := 0, slots := 0, locals := 42 }).room s mid as below mth c H locs 0 0 (MQ below (cx_Qi D K ad (fun rr u => rr = mq_oI ((mq_reqD ρ p).map (fun k => (ρ 11 p + k) % 3)) ∧ u = (σ, τ))) as s 0 0 (gx_A ad 70)) (F0 mid 16 ls []) := by
      intro k
      induction k with
      | zero =>
        intro i H locs ls hk hf hV hS hl
        refine lv_iload_n hx hb dX_nextRequestingMaster_16 rfl (lv_at hl 0 rfl) ?_
        refine lv_iconst (v := nI 3) hx hb dX_nextRequestingMaster_17 (by decide) ?_
        refine gx_icmp_gt (a := (i + 1)) (b := 3) (tgt := 78) hx hb dX_nextRequestingMaster_18 (by decide) (by omega) (by omega) (fun h18 => ?_) (fun h18 => ?_)
        · refine lv_iconst (v := -1) hx hb dX_nextRequestingMaster_78 (by decide) ?_
          exact gx_iret hx hb hr hV hS ⟨by rw [show mq_reqD ρ p = none from (if_neg (by rw [hP.many ok2]; have := (rr_room4 hR0 hp0).mp h9.2; intro q; rcases q with q | q; exact this q; omega)).trans hf]; rfl, rfl⟩ dX_nextRequestingMaster_79 hlk
        · exact absurd h18 (by omega)
      | succ k ih =>
        intro i H locs ls hk hf hV hS hl
        refine lv_iload_n hx hb dX_nextRequestingMaster_16 rfl (lv_at hl 0 rfl) ?_
        refine lv_iconst (v := nI 3) hx hb dX_nextRequestingMaster_17 (by decide) ?_
        refine gx_icmp_gt (a := (i + 1)) (b := 3) (tgt := 78) hx hb dX_nextRequestingMaster_18 (by decide) (by omega) (by omega) (fun h18 => ?_) (fun h18 => ?_)
        · exact absurd h18 (by omega)
        · refine lv_aload_n hx hb dX_nextRequestingMaster_21 rfl (lv_at hl 1 rfl) ?_
          refine gx_get (C := mR_X) (T := mT_X) (N' := 7) hx hb ht mh_X hown hV (by decide) cx_E_X rfl 1 (by decide) (ht _ mw_130) (fun _ h => h) rfl dX_nextRequestingMaster_22 ?_
          refine lv_iload_n hx hb dX_nextRequestingMaster_25 rfl (lv_at hl 2 rfl) ?_
          refine gx_aald hx hb hV (by decide) 5 cx_E_Ps rfl p hp0 (by decide) rfl rfl dX_nextRequestingMaster_26 ?_
          refine gx_get (C := mR_P) (T := mT_P) (N' := 7) (v := .int (nI lm)) hx hb ht mh_P hown hV (show 18 + 6 * p < 70 by omega) (cx_E_P hp0) rfl 6 (by decide) (ht _ mw_87) (fun _ h => h) (congrArg (fun z => some (Value.int z)) hlm1) dX_nextRequestingMaster_27 ?_
          refine lv_iload_n hx hb dX_nextRequestingMaster_30 rfl (lv_at hl 0 rfl) ?_
          refine lv_iconst (v := nI 3) hx hb dX_nextRequestingMaster_31 (by decide) ?_
          refine gx_callp (va_runS (As := [.int (nI lm), .int (nI (i + 1)), .int (nI 3)]) (rest := []) ⟨hx, hb, hml, hown, ht⟩ (k_X_stepBehind l (a := lm) (b := i + 1) (n := 3) (by omega) (by omega) (by omega)) (cwS 3 ht (mx_gS mw_290 mw_291 mw_1 mw_292) rfl rfl rfl (by decide +kernel) ⟨Nat.le_of_ble_eq_true rfl, Nat.le_of_ble_eq_true rfl⟩) (gx_preP [.int (nI lm), .int (nI (i + 1)), .int (nI 3)]) rfl rfl hl.1 rfl (lv_room (Nat.le_of_ble_eq_true rfl)) dX_nextRequestingMaster_32 ⟨Nat.le_of_ble_eq_true rfl, Nat.le_of_ble_eq_true rfl⟩) hV hS (fun r2 H locs hp hV hS => ?_)
          rw [show (if 3 ≤ lm + (i + 1) then lm + (i + 1) - 3 else lm + (i + 1)) = (ρ 11 p + i) % 3 by split <;> omega] at hp
          subst hp
          have hq4 : (ρ 11 p + i) % 3 < 3 := by omega
          have okq : mq_ok 1 ((ρ 11 p + i) % 3) := Or.inl ⟨by simp, hq4⟩
          have hlq := hL 1 _ okq (by omega)
          have hfq := rr_firstI hL hP okq (by omega)
          rw [show rr_ln 1 ((ρ 11 p + i) % 3) = 3 + 5 * ((ρ 11 p + i) % 3) by simp [rr_ln]] at hlq hfq
          refine lv_istore_n (lv' := [(3, .int (nI ((ρ 11 p + i) % 3))), (2, .int (nI (i + 1))), (0, .ref (ad 0)), (1, .int (nI p))]) hx hb dX_nextRequestingMaster_35 rfl hl (by decide) rfl (fun ls hl => ?_)
          refine lv_aload_n hx hb dX_nextRequestingMaster_36 rfl (lv_at hl 2 rfl) ?_
          refine gx_get (C := mR_X) (T := mT_X) (N' := 7) hx hb ht mh_X hown hV (by decide) cx_E_X rfl 0 (by decide) (ht _ mw_129) (fun _ h => h) rfl dX_nextRequestingMaster_37 ?_
          refine lv_iload_n hx hb dX_nextRequestingMaster_40 rfl (lv_at hl 0 rfl) ?_
          refine gx_aald hx hb hV (by decide) 4 cx_E_Ms rfl ((ρ 11 p + i) % 3) hq4 (by decide) rfl rfl dX_nextRequestingMaster_41 ?_
          refine gx_get (C := mR_M) (T := mT_M) (N' := 5) hx hb ht mh_M hown hV (show 2 + 5 * ((ρ 11 p + i) % 3) < 70 by omega) (cx_E_M hq4) rfl 0 (by decide) (ht _ mw_45) (fun _ h => h) rfl dX_nextRequestingMaster_42 ?_
          refine gx_calli (va_runV (As := []) (rest := []) ⟨hx, hb, hml, hown, ht⟩ (k_L_first l (cx_isL_W hq4) hlq.1.1 hlq.2) (cwV 0 ht (mx_gV (C := "MessageCrossbar$Line") mw_293 mw_294 mw_295 mw_3 mw_296) rfl rfl rfl (by decide +kernel) ⟨Nat.le_of_ble_eq_true rfl, Nat.le_of_ble_eq_true rfl⟩) (gx_preV cx_ok hV hZ hS (q := (mR_L, mT_L, 2)) ((cx_isL_W hq4)).lt.1 (cx_E_L (cx_isL_W hq4)).1 rfl []) rfl rfl hl.1 rfl (lv_room (Nat.le_of_ble_eq_true rfl)) dX_nextRequestingMaster_45 ⟨Nat.le_of_ble_eq_true rfl, Nat.le_of_ble_eq_true rfl⟩) hV hS (fun r3 σ' τ' H locs hp hV hS => ?_)
          obtain ⟨hp, hu⟩ := hp
          cases hu
          rw [hfq] at hp
          subst hp
          cases hq : mq_first ρ 1 ((ρ 11 p + i) % 3) with
          | none =>
            refine lv_istore (lv' := [(4, .int (-1)), (3, .int (nI ((ρ 11 p + i) % 3))), (2, .int (nI (i + 1))), (0, .ref (ad 0)), (1, .int (nI p))]) hx hb dX_nextRequestingMaster_48 hl (by decide) rfl (fun ls hl => ?_)
            refine lv_iload hx hb dX_nextRequestingMaster_50 (lv_at hl 0 rfl) ?_
            refine lv_iconst (v := -1) hx hb dX_nextRequestingMaster_52 (by decide) ?_
            refine lv_icmp_eq (tgt := 72) hx hb dX_nextRequestingMaster_53 (by decide) (fun h53 => ?_) (fun h53 => ?_)
            · refine lv_iinc (k := 2) (v := (nI ((i + 1) + 1))) (lv' := [(2, .int (nI ((i + 1) + 1))), (4, .int (-1)), (3, .int (nI ((ρ 11 p + i) % 3))), (0, .ref (ad 0)), (1, .int (nI p))]) hx hb dX_nextRequestingMaster_72 hl rfl (nI_succ (i + 1)).symm (by decide) rfl (fun ls hl => ?_)
              refine lv_goto (tgt := 16) hx hb dX_nextRequestingMaster_75 (by decide) ?_
              exact ih (i + 1) H locs ls (by omega) (by rw [hf, mq_fnd_f (by simp [mq_reqK, hq])]) hV hS (lv_sub hl [0, 3, 4] rfl)
            · exact absurd rfl h53
          | some x =>
            have hx24 := rr_first_lt hP okq hq
            obtain ⟨tx, htx⟩ := mq_first_of hP okq hq
            have hx1 := (hP.mem okq (x := x) (by rw [htx]; simp)).2.1
            obtain ⟨-, -, ⟨had, had4, -⟩, -⟩ := hG x hx24 (by rw [hx1]; decide)
            refine lv_istore (lv' := [(4, .int (nI x)), (3, .int (nI ((ρ 11 p + i) % 3))), (2, .int (nI (i + 1))), (0, .ref (ad 0)), (1, .int (nI p))]) hx hb dX_nextRequestingMaster_48 hl (by decide) rfl (fun ls hl => ?_)
            refine lv_iload hx hb dX_nextRequestingMaster_50 (lv_at hl 0 rfl) ?_
            refine lv_iconst (v := -1) hx hb dX_nextRequestingMaster_52 (by decide) ?_
            refine lv_icmp_eq (tgt := 72) hx hb dX_nextRequestingMaster_53 (by decide) (fun h53 => ?_) (fun h53 => ?_)
            · exact absurd h53 (rr_m1 hx24)
            · refine lv_aload_n hx hb dX_nextRequestingMaster_56 rfl (lv_at hl 3 rfl) ?_
              refine gx_get (C := mR_X) (T := mT_X) (N' := 7) hx hb ht mh_X hown hV (by decide) cx_E_X rfl 2 (by decide) (ht _ mw_131) (fun _ h => h) rfl dX_nextRequestingMaster_57 ?_
              refine lv_iload hx hb dX_nextRequestingMaster_60 (lv_at hl 0 rfl) ?_
              refine gx_aald hx hb hV (by decide) 6 cx_E_Gs rfl x hx24 (by decide) rfl rfl dX_nextRequestingMaster_62 ?_
              refine lv_iload_n hx hb dX_nextRequestingMaster_63 rfl (lv_at hl 4 rfl) ?_
              refine gx_calli (va_runV (As := [.int (nI p)]) (rest := []) ⟨hx, hb, hml, hown, ht⟩ (k_G_goesTo l hx24 had had4 hp0) (cwV 1 ht (mx_gV (C := "MessageCrossbar$Message") mw_389 mw_390 mw_391 mw_5 mw_392) rfl rfl rfl (by decide +kernel) ⟨Nat.le_of_ble_eq_true rfl, Nat.le_of_ble_eq_true rfl⟩) (gx_preV cx_ok hV hZ hS (q := (mR_G, mT_G, 5)) (show 43 + x < 70 by omega) (cx_E_G hx24) rfl [.int (nI p)]) rfl rfl hl.1 rfl (lv_room (Nat.le_of_ble_eq_true rfl)) dX_nextRequestingMaster_64 ⟨Nat.le_of_ble_eq_true rfl, Nat.le_of_ble_eq_true rfl⟩) hV hS (fun r4 σ' τ' H locs hp hV hS => ?_)
              obtain ⟨rfl, hu⟩ := hp
              cases hu
              refine gx_ifb_eq (q := mq_port (ρ 5 x) = p) (tgt := 72) hx hb dX_nextRequestingMaster_67 (by decide) (fun h67 => ?_) (fun h67 => ?_)
              · refine lv_iinc (k := 2) (v := (nI ((i + 1) + 1))) (lv' := [(2, .int (nI ((i + 1) + 1))), (4, .int (nI x)), (3, .int (nI ((ρ 11 p + i) % 3))), (0, .ref (ad 0)), (1, .int (nI p))]) hx hb dX_nextRequestingMaster_72 hl rfl (nI_succ (i + 1)).symm (by decide) rfl (fun ls hl => ?_)
                refine lv_goto (tgt := 16) hx hb dX_nextRequestingMaster_75 (by decide) ?_
                exact ih (i + 1) H locs ls (by omega) (by rw [hf, mq_fnd_f (by simp [mq_reqK, hq, h67])]) hV hS (lv_sub hl [0, 3, 4] rfl)
              · refine lv_iload_n hx hb dX_nextRequestingMaster_70 rfl (lv_at hl 1 rfl) ?_
                exact gx_iret hx hb hr hV hS ⟨by rw [show mq_reqD ρ p = some i from (if_neg (by rw [hP.many ok2]; have := (rr_room4 hR0 hp0).mp h9.2; intro q; rcases q with q | q; exact this q; omega)).trans (hf.trans (mq_fnd_t (by simp [mq_reqK, hq, h67])))]; rfl, rfl⟩ dX_nextRequestingMaster_71 hlk
    exact loop 3 0 _ _ ls (by omega) rfl hV hS hl
  · refine lv_iconst (v := -1) hx hb dX_nextRequestingMaster_12 (by decide) ?_
    exact gx_iret hx hb hr hV hS ⟨by rw [show mq_reqD ρ p = none from if_pos (by rw [hP.many ok2]; by_cases hz : mq_free ρ p = none; exact Or.inl hz; exact Or.inr (Nat.not_le.mp fun q => h9 ⟨by omega, (rr_room4 hR0 hp0).mpr hz⟩))]; rfl, rfl⟩ dX_nextRequestingMaster_13 hlk

set_option maxHeartbeats 4000000 in
set_option maxRecDepth 100000 in
theorem k_X_moveRequest (l : Launch) {D : va_G} {K : Nat → ClassId} {ad : Nat → Nat} {σ : Nat → Nat → Int32} {τ : Nat → Nat → Int64} {p m x nq i : Nat} {t : List Nat} (hp0 : p < 4) (hm : m < 3) (hA : cx_ln σ (3 + 5 * m) (x :: t)) (hl8 : t.length + 1 ≤ 8) (hqn : σ (19 + 6 * p) 1 = nI nq) (hnq : nq < 2) (hfr : mq_fnd (fun q => decide (σ (23 + 6 * p) q = -1)) 0 4 = some i) : Met l yX_moveRequest (Cond.code yX_moveRequest prog_1_method_27_code 4 none :: mx_T) { frames := 1, cells := 0, slots := 0, locals := 22 } (va_Pc [.ref (ad 0), .int (nI m), .int (nI p)] (cx_P D K ad σ τ)) (cx_Qv D K ad (fun u => u = (cx_mvr σ p m t.length nq x i, τ))) 0 0 (gx_A ad 70) := by
  refine gx_met (by decide) rfl (Nat.le_of_ble_eq_true rfl) ?_
  intro pg ev s mid as below mth c ls hx hb hr hml ht hown hlk hnm hargs hB hl
  obtain ⟨hV, hZ⟩ := hB
  have hS : va_S (gx_A ad 70) s.heap s.heap [] := va_S.rf
  have hl : lv_has ls 4 [(0, .ref (ad 0)), (1, .int (nI m)), (2, .int (nI p))] := hl
  refine lv_aload_n hx hb dX_moveRequest_0 rfl (lv_at hl 0 rfl) ?_
  refine gx_get (C := mR_X) (T := mT_X) (N' := 7) hx hb ht mh_X hown hV (by decide) cx_E_X rfl 0 (by decide) (ht _ mw_129) (fun _ h => h) rfl dX_moveRequest_1 ?_
  refine lv_iload_n hx hb dX_moveRequest_4 rfl (lv_at hl 1 rfl) ?_
  refine gx_aald hx hb hV (by decide) 4 cx_E_Ms rfl m hm (by decide) rfl rfl dX_moveRequest_5 ?_
  refine gx_get (C := mR_M) (T := mT_M) (N' := 5) hx hb ht mh_M hown hV (show 2 + 5 * m < 70 by omega) (cx_E_M hm) rfl 0 (by decide) (ht _ mw_45) (fun _ h => h) rfl dX_moveRequest_6 ?_
  refine gx_calli (va_runV (As := []) (rest := []) ⟨hx, hb, hml, hown, ht⟩ (k_L_removeFirst l (t := t.length) (cx_isL_W hm) hA.1 hl8) (cwV 0 ht (mx_gV (C := "MessageCrossbar$Line") mw_304 mw_305 mw_306 mw_3 mw_307) rfl rfl rfl (by decide +kernel) ⟨Nat.le_of_ble_eq_true rfl, Nat.le_of_ble_eq_true rfl⟩) (gx_preV cx_ok hV hZ hS (q := (mR_L, mT_L, 2)) ((cx_isL_W hm)).lt.1 (cx_E_L (cx_isL_W hm)).1 rfl []) rfl rfl hl.1 rfl (lv_room (Nat.le_of_ble_eq_true rfl)) dX_moveRequest_9 ⟨Nat.le_of_ble_eq_true rfl, Nat.le_of_ble_eq_true rfl⟩) hV hS (fun r1 σ' τ' H locs hp hV hS => ?_)
  obtain ⟨h9, hu⟩ := hp
  rw [hA.first] at h9
  subst h9
  cases hu
  refine lv_istore_n (lv' := [(3, .int (nI x)), (0, .ref (ad 0)), (1, .int (nI m)), (2, .int (nI p))]) hx hb dX_moveRequest_12 rfl hl (by decide) rfl (fun ls hl => ?_)
  refine lv_aload_n hx hb dX_moveRequest_13 rfl (lv_at hl 1 rfl) ?_
  refine gx_get (C := mR_X) (T := mT_X) (N' := 7) hx hb ht mh_X hown hV (by decide) cx_E_X rfl 1 (by decide) (ht _ mw_130) (fun _ h => h) rfl dX_moveRequest_14 ?_
  refine lv_iload_n hx hb dX_moveRequest_17 rfl (lv_at hl 3 rfl) ?_
  refine gx_aald hx hb hV (by decide) 5 cx_E_Ps rfl p hp0 (by decide) rfl rfl dX_moveRequest_18 ?_
  refine lv_iload_n hx hb dX_moveRequest_19 rfl (lv_at hl 0 rfl) ?_
  refine gx_callv (va_runV (As := [.int (nI x)]) (rest := []) ⟨hx, hb, hml, hown, ht⟩ (k_P_takeLeastId l hp0) (cwV 1 ht (mx_gV (C := "MessageCrossbar$Port") mw_399 mw_400 mw_401 mw_4 mw_402) rfl rfl rfl (by decide +kernel) ⟨Nat.le_of_ble_eq_true rfl, Nat.le_of_ble_eq_true rfl⟩) (gx_preV cx_ok hV hZ hS (q := (mR_P, mT_P, 7)) (show 18 + 6 * p < 70 by omega) (cx_E_P hp0) rfl [.int (nI x)]) rfl rfl hl.1 rfl (lv_room (Nat.le_of_ble_eq_true rfl)) dX_moveRequest_20 ⟨Nat.le_of_ble_eq_true rfl, Nat.le_of_ble_eq_true rfl⟩) hV hS (fun σ' τ' H locs hp hV hS => ?_)
  rw [cx_rem_n (by omega) (by omega), hfr] at hp
  cases hp
  have hV : gx_V D mx_cl (mx_tys K) (cx_E ad K) ad 70 (cx_up (cx_rem σ (3 + 5 * m) t.length) (23 + 6 * p) i (nI x)) τ s H := hV
  refine lv_aload_n hx hb dX_moveRequest_23 rfl (lv_at hl 1 rfl) ?_
  refine gx_get (C := mR_X) (T := mT_X) (N' := 7) hx hb ht mh_X hown hV (by decide) cx_E_X rfl 1 (by decide) (ht _ mw_130) (fun _ h => h) rfl dX_moveRequest_24 ?_
  refine lv_iload_n hx hb dX_moveRequest_27 rfl (lv_at hl 3 rfl) ?_
  refine gx_aald hx hb hV (by decide) 5 cx_E_Ps rfl p hp0 (by decide) rfl rfl dX_moveRequest_28 ?_
  refine gx_get (C := mR_P) (T := mT_P) (N' := 7) hx hb ht mh_P hown hV (show 18 + 6 * p < 70 by omega) (cx_E_P hp0) rfl 0 (by decide) (ht _ mw_75) (fun _ h => h) rfl dX_moveRequest_29 ?_
  refine lv_iload_n hx hb dX_moveRequest_32 rfl (lv_at hl 0 rfl) ?_
  refine gx_callv (va_runV (As := [.int (nI x)]) (rest := []) ⟨hx, hb, hml, hown, ht⟩ (k_L_append l (cx_isL_Q hp0) (by rw [cx_up_J (by omega), cx_rem_n (by omega) (by omega)]; exact hqn) hnq) (cwV 1 ht (mx_gV (C := "MessageCrossbar$Line") mw_255 mw_256 mw_257 mw_3 mw_258) rfl rfl rfl (by decide +kernel) ⟨Nat.le_of_ble_eq_true rfl, Nat.le_of_ble_eq_true rfl⟩) (gx_preV cx_ok hV hZ hS (q := (mR_L, mT_L, 2)) ((cx_isL_Q hp0)).lt.1 (cx_E_L (cx_isL_Q hp0)).1 rfl [.int (nI x)]) rfl rfl hl.1 rfl (lv_room (Nat.le_of_ble_eq_true rfl)) dX_moveRequest_33 ⟨Nat.le_of_ble_eq_true rfl, Nat.le_of_ble_eq_true rfl⟩) hV hS (fun σ' τ' H locs hp hV hS => ?_)
  cases hp
  refine lv_aload_n hx hb dX_moveRequest_36 rfl (lv_at hl 1 rfl) ?_
  refine gx_get (C := mR_X) (T := mT_X) (N' := 7) hx hb ht mh_X hown hV (by decide) cx_E_X rfl 1 (by decide) (ht _ mw_130) (fun _ h => h) rfl dX_moveRequest_37 ?_
  refine lv_iload_n hx hb dX_moveRequest_40 rfl (lv_at hl 3 rfl) ?_
  refine gx_aald hx hb hV (by decide) 5 cx_E_Ps rfl p hp0 (by decide) rfl rfl dX_moveRequest_41 ?_
  refine lv_iload_n hx hb dX_moveRequest_42 rfl (lv_at hl 2 rfl) ?_
  refine gx_put cx_loc (C := mR_P) (T := mT_P) (N' := 7) (ty := .int) (v := .int (nI m)) hx hb ht mh_P mt_P mk_P mn_P hown hV hS (show 18 + 6 * p < 70 by omega) (cx_E_P hp0) rfl 6 (by decide) (ht _ mw_87) (fun _ h => h) rfl (by decide +kernel) rfl rfl (Nat.le_of_ble_eq_true rfl) dX_moveRequest_43 (cx_up (cx_app (cx_up (cx_rem σ (3 + 5 * m) t.length) (23 + 6 * p) i (nI x)) (19 + 6 * p) nq (nI x)) (18 + 6 * p) 6 (nI m)) τ (by rw [cx_E_P hp0]; simp [cx_up, gx_upL]) (fun _ h => cx_up_J h) (fun _ _ => rfl) (fun H locs hV hS => ?_)
  refine lv_aload_n hx hb dX_moveRequest_46 rfl (lv_at hl 1 rfl) ?_
  refine gx_get (C := mR_X) (T := mT_X) (N' := 7) hx hb ht mh_X hown hV (by decide) cx_E_X rfl 5 (by decide) (ht _ mw_134) (fun _ h => h) rfl dX_moveRequest_47 ?_
  refine lv_iconst (v := nI 2) hx hb dX_moveRequest_50 (by decide) ?_
  refine lv_dup2_11 hx hb dX_moveRequest_51 rfl rfl ?_
  refine gx_ialdv (v := σ 69 2) hx hb hV (by decide) 0 cx_E_Ct rfl 2 (by decide) (by decide) rfl (by simp (disch := omega) only [cx_up_J, cx_app_n, cx_rel_n, cx_rem_n]) dX_moveRequest_52 ?_
  refine lv_iconst (v := nI 1) hx hb dX_moveRequest_53 (by decide) ?_
  refine lv_iadd hx hb dX_moveRequest_54 ?_
  refine gx_iast cx_loc hx hb hV hS (by decide) 0 cx_E_Ct rfl 2 (by decide) (by decide) rfl dX_moveRequest_55 (cx_up (cx_up (cx_app (cx_up (cx_rem σ (3 + 5 * m) t.length) (23 + 6 * p) i (nI x)) (19 + 6 * p) nq (nI x)) (18 + 6 * p) 6 (nI m)) 69 2 (σ 69 2 + (nI 1))) (by rw [cx_E_Ct, cx_up_upd]) (fun _ h => cx_up_J h) (fun H locs hV hS => ?_)
  exact gx_vret hx hb hr hV hS rfl dX_moveRequest_56 hlk

set_option maxHeartbeats 4000000 in
set_option maxRecDepth 100000 in
theorem k_X_moveRequests (l : Launch) {D : va_G} {K : Nat → ClassId} {ad : Nat → Nat} {σ : Nat → Nat → Int32} {τ : Nat → Nat → Int64} {ρ : Nat → Nat → Nat} {μ : Nat → Int64} {lt : Int64} {pl : Nat → Nat → List Nat} (hR : rr_R σ τ ρ μ lt pl) : Met l yX_moveRequests (Cond.code yX_moveRequests prog_1_method_25_code 4 (some .boolean) :: mx_T) { frames := 3, cells := 0, slots := 0, locals := 66 } (va_Pc [.ref (ad 0)] (cx_P D K ad σ τ)) (cx_Qi D K ad (fun rr u => ∃ (f : Nat) (pl' : Nat → Nat → List Nat), rr = nI f ∧ f ≤ 1 ∧ mq_ftc ρ 4 0 2 = (if f = 1 then 1 else ρ 0 2) ∧ rr_R u.1 u.2 (mq_ftc ρ 4) μ lt pl')) 0 0 (gx_A ad 70) := by
  refine gx_met (by decide) rfl (Nat.le_of_ble_eq_true rfl) ?_
  intro pg ev s mid as below mth c ls hx hb hr hml ht hown hlk hnm hargs hB hl
  obtain ⟨hV, hZ⟩ := hB
  have hS : va_S (gx_A ad 70) s.heap s.heap [] := va_S.rf
  have hl : lv_has ls 4 [(0, .ref (ad 0))] := hl
  refine lv_iconst (v := nI 0) hx hb dX_moveRequests_0 (by decide) ?_
  refine lv_istore_n (lv' := [(1, .int (nI 0)), (0, .ref (ad 0))]) hx hb dX_moveRequests_1 rfl hl (by decide) rfl (fun ls hl => ?_)
  refine lv_iconst (v := nI 0) hx hb dX_moveRequests_2 (by decide) ?_
  refine lv_istore_n (lv' := [(2, .int (nI 0)), (1, .int (nI 0)), (0, .ref (ad 0))]) hx hb dX_moveRequests_3 rfl hl (by decide) rfl (fun ls hl => ?_)
  have loop : ∀ (k : Nat) (i f : Nat) (σ1 : Nat → Nat → Int32) (pl1 : Nat → Nat → List Nat) (H : Heap) (locs : List Loc) (ls : Array Slot), i + k = 4 → f ≤ 1 → mq_ftc ρ i 0 2 = (if f = 1 then 1 else ρ 0 2) → rr_R σ1 τ (mq_ftc ρ i) μ lt pl1 → gx_V D mx_cl (mx_tys K) (cx_E ad K) ad 70 (σ1) (τ) s H → va_S (gx_A ad 70) s.heap H locs → lv_has ls 4 [(2, .int (nI i)), (1, .int (nI f)), (0, .ref (ad 0))] → W pg l ev (headSpec (Cond.code yX_moveRequests prog_1_method_25_code 4 (some .boolean) :: mx_T) { frames := 3, cells := 0, slots := 0, locals := 66 }).room s mid as below mth c H locs 0 0 (MQ below (cx_Qi D K ad (fun rr u => ∃ (f : Nat) (pl' : Nat → Nat → List Nat), rr = nI f ∧ f ≤ 1 ∧ mq_ftc ρ 4 0 2 = (if f = 1 then 1 else ρ 0 2) ∧ rr_R u.1 u.2 (mq_ftc ρ 4) μ lt pl')) as s 0 0 (gx_A ad 70)) (F0 mid 4 ls []) := by
    intro k
    induction k with
    | zero =>
      intro i f σ1 pl1 H locs ls hk hf1 hf2 R1 hV hS hl
      refine lv_iload_n hx hb dX_moveRequests_4 rfl (lv_at hl 0 rfl) ?_
      refine lv_iconst (v := nI 4) hx hb dX_moveRequests_5 (by decide) ?_
      refine gx_icmp_ge (a := i) (b := 4) (tgt := 34) hx hb dX_moveRequests_6 (by decide) (by omega) (by omega) (fun h6 => ?_) (fun h6 => ?_)
      · refine lv_iload_n hx hb dX_moveRequests_34 rfl (lv_at hl 1 rfl) ?_
        exact gx_zret hx hb hr (cx_nb1 hf1) hV hS ⟨f, pl1, rfl, hf1, by rw [show 4 = i by omega]; exact hf2, by rw [show 4 = i by omega]; exact R1⟩ dX_moveRequests_35 hlk
      · exact absurd h6 (by omega)
    | succ k ih =>
      intro i f σ1 pl1 H locs ls hk hf1 hf2 R1 hV hS hl
      refine lv_iload_n hx hb dX_moveRequests_4 rfl (lv_at hl 0 rfl) ?_
      refine lv_iconst (v := nI 4) hx hb dX_moveRequests_5 (by decide) ?_
      refine gx_icmp_ge (a := i) (b := 4) (tgt := 34) hx hb dX_moveRequests_6 (by decide) (by omega) (by omega) (fun h6 => ?_) (fun h6 => ?_)
      · exact absurd h6 (by omega)
      · refine lv_aload_n hx hb dX_moveRequests_9 rfl (lv_at hl 2 rfl) ?_
        refine lv_iload_n hx hb dX_moveRequests_10 rfl (lv_at hl 0 rfl) ?_
        refine gx_calli (va_runV (As := [.int (nI i)]) (rest := []) ⟨hx, hb, hml, hown, ht⟩ (k_X_nextRequestingMaster l (p := i) (by omega) R1) (cwV 1 ht (mx_gV (C := "MessageCrossbar") mw_377 mw_379 ms_12 mw_1 mw_380) rfl rfl rfl (by decide +kernel) ⟨Nat.le_of_ble_eq_true rfl, Nat.le_of_ble_eq_true rfl⟩) (gx_preV cx_ok hV hZ hS (q := (mR_X, mT_X, 7)) (by decide) cx_E_X rfl [.int (nI i)]) rfl rfl hl.1 rfl (lv_room (Nat.le_of_ble_eq_true rfl)) dX_moveRequests_11 ⟨Nat.le_of_ble_eq_true rfl, Nat.le_of_ble_eq_true rfl⟩) hV hS (fun r1 σ' τ' H locs hp hV hS => ?_)
        obtain ⟨rfl, hu⟩ := hp
        cases hu
        cases hd : mq_reqD (mq_ftc ρ i) i with
        | none =>
          refine lv_istore_n (lv' := [(3, .int (-1)), (2, .int (nI i)), (1, .int (nI f)), (0, .ref (ad 0))]) hx hb dX_moveRequests_14 rfl hl (by decide) rfl (fun ls hl => ?_)
          refine lv_iload_n hx hb dX_moveRequests_15 rfl (lv_at hl 0 rfl) ?_
          refine lv_iconst (v := -1) hx hb dX_moveRequests_16 (by decide) ?_
          refine lv_icmp_eq (tgt := 28) hx hb dX_moveRequests_17 (by decide) (fun h17 => ?_) (fun h17 => ?_)
          · refine lv_iinc (k := 1) (v := (nI (i + 1))) (lv' := [(2, .int (nI (i + 1))), (3, .int (-1)), (1, .int (nI f)), (0, .ref (ad 0))]) hx hb dX_moveRequests_28 hl rfl (nI_succ i).symm (by decide) rfl (fun ls hl => ?_)
            refine lv_goto (tgt := 4) hx hb dX_moveRequests_31 (by decide) ?_
            exact ih (i + 1) f σ1 pl1 H locs ls (by omega) hf1 (by show mq_fetch (mq_ftc ρ i) i 0 2 = _; rw [rr_reqN hd]; exact hf2) (by show rr_R σ1 τ (mq_fetch (mq_ftc ρ i) i) μ lt pl1; rw [rr_reqN hd]; exact R1) hV hS (lv_sub hl [0, 2, 3] rfl)
          · exact absurd rfl h17
        | some q =>
          obtain ⟨hq3, hl2, id, x, t, hfree, hid, hno, hxt, hxp, hgo⟩ := rr_reqD R1.2.1 (show i < 4 by omega) hd
          have hp3 : (mq_ftc ρ i 11 i + q) % 3 < 3 := by omega
          have ok1 : mq_ok 1 ((mq_ftc ρ i 11 i + q) % 3) := Or.inl ⟨by simp, hp3⟩
          have ok2 : mq_ok 2 (3 + i) := Or.inr ⟨by simp, by omega, by omega⟩
          have hA := R1.1 1 _ ok1 (by omega)
          rw [hxt, show rr_ln 1 ((mq_ftc ρ i 11 i + q) % 3) = 3 + 5 * ((mq_ftc ρ i 11 i + q) % 3) by simp [rr_ln]] at hA
          have hQ := (R1.1 2 (3 + i) ok2 (by omega)).1.1
          rw [show rr_ln 2 (3 + i) = 19 + 6 * i by simp [rr_ln]] at hQ
          have R2 := R1.req (show i < 4 by omega) hp3 hxt hxp hl2 hid hno
          refine lv_istore_n (lv' := [(3, .int (nI ((mq_ftc ρ i 11 i + q) % 3))), (2, .int (nI i)), (1, .int (nI f)), (0, .ref (ad 0))]) hx hb dX_moveRequests_14 rfl hl (by decide) rfl (fun ls hl => ?_)
          refine lv_iload_n hx hb dX_moveRequests_15 rfl (lv_at hl 0 rfl) ?_
          refine lv_iconst (v := -1) hx hb dX_moveRequests_16 (by decide) ?_
          refine lv_icmp_eq (tgt := 28) hx hb dX_moveRequests_17 (by decide) (fun h17 => ?_) (fun h17 => ?_)
          · exact absurd h17 (rr_m1 (by omega))
          · refine lv_aload_n hx hb dX_moveRequests_20 rfl (lv_at hl 3 rfl) ?_
            refine lv_iload_n hx hb dX_moveRequests_21 rfl (lv_at hl 0 rfl) ?_
            refine lv_iload_n hx hb dX_moveRequests_22 rfl (lv_at hl 1 rfl) ?_
            refine gx_callv (va_runV (As := [.int (nI ((mq_ftc ρ i 11 i + q) % 3)), .int (nI i)]) (rest := []) ⟨hx, hb, hml, hown, ht⟩ (k_X_moveRequest l (show i < 4 by omega) hp3 hA.1 hA.2 hQ hl2 ((rr_fr4 R1 (show i < 4 by omega)).trans hfree)) (cwV 2 ht (mx_gV (C := "MessageCrossbar") mw_395 mw_397 ms_13 mw_1 mw_398) rfl rfl rfl (by decide +kernel) ⟨Nat.le_of_ble_eq_true rfl, Nat.le_of_ble_eq_true rfl⟩) (gx_preV cx_ok hV hZ hS (q := (mR_X, mT_X, 7)) (by decide) cx_E_X rfl [.int (nI ((mq_ftc ρ i 11 i + q) % 3)), .int (nI i)]) rfl rfl hl.1 rfl (lv_room (Nat.le_of_ble_eq_true rfl)) dX_moveRequests_23 ⟨Nat.le_of_ble_eq_true rfl, Nat.le_of_ble_eq_true rfl⟩) hV hS (fun σ' τ' H locs hp hV hS => ?_)
            cases hp
            refine lv_iconst (v := nI 1) hx hb dX_moveRequests_26 (by decide) ?_
            refine lv_istore_n (lv' := [(1, .int (nI 1)), (3, .int (nI ((mq_ftc ρ i 11 i + q) % 3))), (2, .int (nI i)), (0, .ref (ad 0))]) hx hb dX_moveRequests_27 rfl hl (by decide) rfl (fun ls hl => ?_)
            refine lv_iinc (k := 2) (v := (nI (i + 1))) (lv' := [(2, .int (nI (i + 1))), (1, .int (nI 1)), (3, .int (nI ((mq_ftc ρ i 11 i + q) % 3))), (0, .ref (ad 0))]) hx hb dX_moveRequests_28 hl rfl (nI_succ i).symm (by decide) rfl (fun ls hl => ?_)
            refine lv_goto (tgt := 4) hx hb dX_moveRequests_31 (by decide) ?_
            exact ih (i + 1) 1 _ _ H locs ls (by omega) (Nat.le_refl 1) (by show mq_fetch (mq_ftc ρ i) i 0 2 = 1; rw [hgo]; exact mq_reqM_sp.2.2.2.2.2.2.2) (by show rr_R _ τ (mq_fetch (mq_ftc ρ i) i) μ lt _; rw [hgo]; exact R2) hV hS (lv_sub hl [0, 1, 3] rfl)
  exact loop 4 0 0 _ _ _ _ ls (by omega) (by omega) rfl hR hV hS hl

theorem mq_mid_eq {ρ ρa ρf : Nat → Nat → Nat} {μ μs : Nat → Int64} {ρs : Nat → Nat → Nat} (ha : mq_ansN (mq_up ρ 0 2 0) 3 = ρa) (hs : mq_srv ρa μ 4 = (ρs, μs)) (hf : mq_ftc ρs 4 = ρf) : mq_mid ρ μ = (ρf, μs) := by
  unfold mq_mid
  rw [ha, hs, hf]
theorem rr_R.flag {σ : Nat → Nat → Int32} {τ : Nat → Nat → Int64} {ρ : Nat → Nat → Nat} {μ : Nat → Int64} {lt : Int64} {pl : Nat → Nat → List Nat} (h : rr_R σ τ ρ μ lt pl) (v : Nat) : rr_R σ τ (mq_up ρ 0 2 v) μ lt pl := h
theorem rr_R.tickEnd {σ : Nat → Nat → Int32} {τ : Nat → Nat → Int64} {ρ : Nat → Nat → Nat} {μ : Nat → Int64} {lt : Int64} {pl : Nat → Nat → List Nat} (h : rr_R σ τ ρ μ lt pl) {a b : Nat} : rr_R (cx_up (cx_up σ 69 0 (σ 69 0 + nI a)) 69 7 (σ 69 7 + nI b)) τ (mq_up (mq_up ρ 16 0 (ρ 16 0 + a)) 16 7 (ρ 16 7 + b)) μ lt pl := by
  obtain ⟨hL, hP, hJ, hM, hO, hG, hB, hT⟩ := h
  refine ⟨(hL.upF (rr_freeB (by omega))).upF (rr_freeB (by omega)), hP, ?_, ?_, ?_, ?_, ?_, hT⟩
  · intro q hq
    rw [cx_up_J (by omega), cx_up_J (by omega)]
    exact hJ q hq
  · exact hM.keep (fun q hq => by rw [cx_up_J (by omega), cx_up_J (by omega)]) (fun _ => Iff.rfl) (fun _ => rfl) (fun _ => rfl)
  · exact hO.keep (fun q hq => by rw [cx_up_J (by omega), cx_up_J (by omega)]) (fun _ _ => Iff.rfl) (fun _ => rfl) (fun _ => rfl)
  · exact hG.keep (fun _ _ z => z) (fun q hq => by rw [cx_up_J (by omega), cx_up_J (by omega)]) (fun _ => rfl) (fun _ => rfl) (fun _ => rfl) (fun _ => rfl) (fun _ _ => rfl) (fun _ _ => rfl)
  · obtain ⟨h1, h2, h3, h4⟩ := hB
    refine ⟨fun q hq => ?_, fun q hq => ?_, fun q hq => ?_, ?_⟩
    · rw [cx_up_J (by omega), cx_up_J (by omega)]
      exact h1 q hq
    · rw [cx_up_J (by omega), cx_up_J (by omega)]
      exact h2 q hq
    · have e0 := h3 0 (by omega)
      have e7 := h3 7 (by omega)
      by_cases q7 : q = 7
      · subst q7
        rw [cx_up_s, mq_up_s, e7, nI_add]
      · rw [cx_up_k q7, mq_up_k q7]
        by_cases q0 : q = 0
        · subst q0
          rw [cx_up_s, mq_up_s, e0, nI_add]
        · rw [cx_up_k q0, mq_up_k q0]
          exact h3 q hq
    · rw [mq_up_k (by omega), mq_up_k (by omega)]
      exact h4
theorem mq_flag3 {a b c : Nat} (ha : a ≤ 1) (hb : b ≤ 1) (hc : c ≤ 1) {x y z : Nat} (h1 : x = if a = 1 then 1 else 0) (h2 : y = if b = 1 then 1 else x) (h3 : z = if c = 1 then 1 else y) : z = if a = 1 ∨ b = 1 ∨ c = 1 then 1 else 0 := by
  subst h1 h2 h3
  by_cases q1 : a = 1 <;> by_cases q2 : b = 1 <;> by_cases q3 : c = 1 <;> simp [q1, q2, q3]

theorem mq_end1 {ρ : Nat → Nat → Nat} (h : ρ 0 2 = 1) : mq_end ρ = mq_up (mq_up ρ 16 0 (ρ 16 0 + 1)) 16 7 (ρ 16 7 + 0) := by
  unfold mq_end mq_inc
  rw [h]
  rfl
theorem mq_end0 {ρ : Nat → Nat → Nat} (h : ρ 0 2 = 0) : mq_end ρ = mq_up (mq_up ρ 16 0 (ρ 16 0 + 1)) 16 7 (ρ 16 7 + 1) := by
  unfold mq_end mq_inc
  rw [h]
  rfl
theorem cx_t0 {σ : Nat → Nat → Int32} {v : Int32} : cx_up (cx_up σ 69 0 v) 69 7 (σ 69 7 + nI 0) = cx_up σ 69 0 v := by
  apply cx_up_same
  rw [cx_up_k (by omega)]
  show σ 69 7 = σ 69 7 + 0
  rw [Int32.add_zero]
theorem mq_ans_01 {ρ : Nat → Nat → Nat} {m : Nat} : mq_answers ρ m 0 1 ≤ ρ 0 1 + 1 := by
  unfold mq_answers
  cases mq_ansD ρ m with
  | none => exact Nat.le_succ _
  | some k => exact Nat.le_of_eq mq_ansM_sp.2.2.2.2.2.1
theorem mq_ansN_01 {ρ : Nat → Nat → Nat} {v : Nat} : ∀ n, mq_ansN (mq_up ρ 0 2 v) n 0 1 ≤ ρ 0 1 + n := by
  intro n
  induction n with
  | zero => exact Nat.le_of_eq (mq_up_k (by omega))
  | succ n ih =>
    show mq_answers (mq_ansN (mq_up ρ 0 2 v) n) n 0 1 ≤ _
    have := mq_ans_01 (ρ := mq_ansN (mq_up ρ 0 2 v) n) (m := n)
    omega

set_option maxHeartbeats 4000000 in
set_option maxRecDepth 100000 in
theorem k_X_runTick (l : Launch) {D : va_G} {K : Nat → ClassId} {ad : Nat → Nat} {σ : Nat → Nat → Int32} {τ : Nat → Nat → Int64} {ρ : Nat → Nat → Nat} {μ : Nat → Int64} {lt : Int64} {pl : Nat → Nat → List Nat} (hR : rr_R σ τ ρ μ lt pl) (hmv : ρ 0 1 + 32 < 2 ^ 31) : Met l yX_runTick (Cond.code yX_runTick prog_1_method_13_code 5 (some .boolean) :: mx_T) { frames := 5, cells := 0, slots := 0, locals := 111 } (va_Pc [.ref (ad 0)] (cx_P D K ad σ τ)) (cx_Qi D K ad (fun rr u => ∃ pl' : Nat → Nat → List Nat, rr = (if (mq_mid ρ μ).1 0 2 = 0 then nI 0 else nI 1) ∧ rr_R u.1 u.2 (mq_tick1 ρ μ).1 (mq_tick1 ρ μ).2 lt pl')) 0 0 (gx_A ad 70) := by
  refine gx_met (by decide) rfl (Nat.le_of_ble_eq_true rfl) ?_
  intro pg ev s mid as below mth c ls hx hb hr hml ht hown hlk hnm hargs hB hl
  obtain ⟨hV, hZ⟩ := hB
  have hS : va_S (gx_A ad 70) s.heap s.heap [] := va_S.rf
  have hl : lv_has ls 5 [(0, .ref (ad 0))] := hl
  refine lv_aload_n hx hb dX_runTick_0 rfl (lv_at hl 0 rfl) ?_
  refine gx_calli (va_runV (As := []) (rest := []) ⟨hx, hb, hml, hown, ht⟩ (k_X_moveAnswers l (hR.flag 0)) (cwV 0 ht (mx_gV (C := "MessageCrossbar") mw_277 mw_279 ms_2 mw_1 mw_280) rfl rfl rfl (by decide +kernel) ⟨Nat.le_of_ble_eq_true rfl, Nat.le_of_ble_eq_true rfl⟩) (gx_preV cx_ok hV hZ hS (q := (mR_X, mT_X, 7)) (by decide) cx_E_X rfl []) rfl rfl hl.1 rfl (lv_room (Nat.le_of_ble_eq_true rfl)) dX_runTick_1 ⟨Nat.le_of_ble_eq_true rfl, Nat.le_of_ble_eq_true rfl⟩) hV hS (fun r1 σ' τ' H locs hp hV hS => ?_)
  obtain ⟨fa, pla, rfl, hfa, hfa2, Ra⟩ := hp
  generalize hga : mq_ansN (mq_up ρ 0 2 0) 3 = ρa at hfa2 Ra
  have hm1 : ρa 0 1 ≤ ρ 0 1 + 3 := by rw [← hga]; exact mq_ansN_01 3
  generalize hσa : σ' = σa at hV Ra
  generalize hτa : τ' = τa at hV Ra
  refine lv_istore_n (lv' := [(1, .int (nI fa)), (0, .ref (ad 0))]) hx hb dX_runTick_4 rfl hl (by decide) rfl (fun ls hl => ?_)
  refine lv_aload_n hx hb dX_runTick_5 rfl (lv_at hl 1 rfl) ?_
  refine gx_calli (va_runV (As := []) (rest := []) ⟨hx, hb, hml, hown, ht⟩ (k_X_servePorts l Ra (by omega)) (cwV 0 ht (mx_gV (C := "MessageCrossbar") mw_312 mw_314 ms_5 mw_1 mw_315) rfl rfl rfl (by decide +kernel) ⟨Nat.le_of_ble_eq_true rfl, Nat.le_of_ble_eq_true rfl⟩) (gx_preV cx_ok hV hZ hS (q := (mR_X, mT_X, 7)) (by decide) cx_E_X rfl []) rfl rfl hl.1 rfl (lv_room (Nat.le_of_ble_eq_true rfl)) dX_runTick_6 ⟨Nat.le_of_ble_eq_true rfl, Nat.le_of_ble_eq_true rfl⟩) hV hS (fun r2 σ' τ' H locs hp hV hS => ?_)
  obtain ⟨fb, plb, rfl, hfb, hfb2, Rb⟩ := hp
  obtain ⟨ρb, μb, hgb⟩ : ∃ x y, mq_srv ρa μ 4 = (x, y) := ⟨_, _, rfl⟩
  rw [hgb] at hfb2 Rb
  generalize hσb : σ' = σb at hV Rb
  generalize hτb : τ' = τb at hV Rb
  refine lv_istore_n (lv' := [(2, .int (nI fb)), (1, .int (nI fa)), (0, .ref (ad 0))]) hx hb dX_runTick_9 rfl hl (by decide) rfl (fun ls hl => ?_)
  refine lv_aload_n hx hb dX_runTick_10 rfl (lv_at hl 2 rfl) ?_
  refine gx_calli (va_runV (As := []) (rest := []) ⟨hx, hb, hml, hown, ht⟩ (k_X_moveRequests l Rb) (cwV 0 ht (mx_gV (C := "MessageCrossbar") mw_373 mw_375 ms_11 mw_1 mw_376) rfl rfl rfl (by decide +kernel) ⟨Nat.le_of_ble_eq_true rfl, Nat.le_of_ble_eq_true rfl⟩) (gx_preV cx_ok hV hZ hS (q := (mR_X, mT_X, 7)) (by decide) cx_E_X rfl []) rfl rfl hl.1 rfl (lv_room (Nat.le_of_ble_eq_true rfl)) dX_runTick_11 ⟨Nat.le_of_ble_eq_true rfl, Nat.le_of_ble_eq_true rfl⟩) hV hS (fun r3 σ' τ' H locs hp hV hS => ?_)
  obtain ⟨fc, plc, rfl, hfc, hfc2, Rc⟩ := hp
  generalize hgc : mq_ftc ρb 4 = ρc at hfc2 Rc
  have hmid := mq_mid_eq (μ := μ) hga hgb hgc
  have hfl := mq_flag3 hfa hfb hfc hfa2 hfb2 hfc2
  generalize hσc : σ' = σc at hV Rc
  generalize hτc : τ' = τc at hV Rc
  refine lv_istore_n (lv' := [(3, .int (nI fc)), (2, .int (nI fb)), (1, .int (nI fa)), (0, .ref (ad 0))]) hx hb dX_runTick_14 rfl hl (by decide) rfl (fun ls hl => ?_)
  refine lv_iload_n hx hb dX_runTick_15 rfl (lv_at hl 2 rfl) ?_
  refine gx_if_ne (a := fa) (tgt := 27) hx hb dX_runTick_16 (by decide) (by omega) (fun h16 => ?_) (fun h16 => ?_)
  · refine lv_iconst (v := nI 1) hx hb dX_runTick_27 (by decide) ?_
    refine lv_goto (tgt := 32) hx hb dX_runTick_28 (by decide) ?_
    have hz : ρc 0 2 = 1 := by rw [hfl]; exact if_pos (by omega)
    refine lv_istore (lv' := [(4, .int (nI 1)), (3, .int (nI fc)), (2, .int (nI fb)), (1, .int (nI fa)), (0, .ref (ad 0))]) hx hb dX_runTick_32 hl (by decide) rfl (fun ls hl => ?_)
    refine lv_aload_n hx hb dX_runTick_34 rfl (lv_at hl 4 rfl) ?_
    refine gx_get (C := mR_X) (T := mT_X) (N' := 7) hx hb ht mh_X hown hV (by decide) cx_E_X rfl 5 (by decide) (ht _ mw_134) (fun _ h => h) rfl dX_runTick_35 ?_
    refine lv_iconst (v := nI 0) hx hb dX_runTick_38 (by decide) ?_
    refine lv_dup2_11 hx hb dX_runTick_39 rfl rfl ?_
    refine gx_iald hx hb hV (by decide) 0 cx_E_Ct rfl 0 (by decide) (by decide) rfl dX_runTick_40 ?_
    refine lv_iconst (v := nI 1) hx hb dX_runTick_41 (by decide) ?_
    refine lv_iadd hx hb dX_runTick_42 ?_
    refine gx_iast cx_loc hx hb hV hS (by decide) 0 cx_E_Ct rfl 0 (by decide) (by decide) rfl dX_runTick_43 (cx_up σc 69 0 ((σc 69 0) + (nI 1))) (by rw [cx_E_Ct, cx_up_upd]) (fun _ h => cx_up_J h) (fun H locs hV hS => ?_)
    refine lv_iload hx hb dX_runTick_44 (lv_at hl 0 rfl) ?_
    refine gx_if_ne (a := 1) (tgt := 60) hx hb dX_runTick_46 (by decide) (by omega) (fun h46 => ?_) (fun h46 => ?_)
    · refine lv_iload hx hb dX_runTick_60 (lv_at hl 0 rfl) ?_
      exact gx_zret hx hb hr rfl hV hS ⟨plc, by rw [hmid]; show nI 1 = if ρc 0 2 = 0 then nI 0 else nI 1; rw [hz]; rfl, by show rr_R _ _ (mq_end (mq_mid ρ μ).1) (mq_mid ρ μ).2 lt plc; rw [hmid]; show rr_R _ _ (mq_end ρc) μb lt plc; rw [mq_end1 hz]; have := Rc.tickEnd (a := 1) (b := 0); rw [cx_t0] at this; exact this⟩ dX_runTick_62 hlk
    · exact absurd h46 (by decide)
  · refine lv_iload_n hx hb dX_runTick_19 rfl (lv_at hl 1 rfl) ?_
    refine gx_if_ne (a := fb) (tgt := 27) hx hb dX_runTick_20 (by decide) (by omega) (fun h20 => ?_) (fun h20 => ?_)
    · refine lv_iconst (v := nI 1) hx hb dX_runTick_27 (by decide) ?_
      refine lv_goto (tgt := 32) hx hb dX_runTick_28 (by decide) ?_
      have hz : ρc 0 2 = 1 := by rw [hfl]; exact if_pos (by omega)
      refine lv_istore (lv' := [(4, .int (nI 1)), (3, .int (nI fc)), (2, .int (nI fb)), (1, .int (nI fa)), (0, .ref (ad 0))]) hx hb dX_runTick_32 hl (by decide) rfl (fun ls hl => ?_)
      refine lv_aload_n hx hb dX_runTick_34 rfl (lv_at hl 4 rfl) ?_
      refine gx_get (C := mR_X) (T := mT_X) (N' := 7) hx hb ht mh_X hown hV (by decide) cx_E_X rfl 5 (by decide) (ht _ mw_134) (fun _ h => h) rfl dX_runTick_35 ?_
      refine lv_iconst (v := nI 0) hx hb dX_runTick_38 (by decide) ?_
      refine lv_dup2_11 hx hb dX_runTick_39 rfl rfl ?_
      refine gx_iald hx hb hV (by decide) 0 cx_E_Ct rfl 0 (by decide) (by decide) rfl dX_runTick_40 ?_
      refine lv_iconst (v := nI 1) hx hb dX_runTick_41 (by decide) ?_
      refine lv_iadd hx hb dX_runTick_42 ?_
      refine gx_iast cx_loc hx hb hV hS (by decide) 0 cx_E_Ct rfl 0 (by decide) (by decide) rfl dX_runTick_43 (cx_up σc 69 0 ((σc 69 0) + (nI 1))) (by rw [cx_E_Ct, cx_up_upd]) (fun _ h => cx_up_J h) (fun H locs hV hS => ?_)
      refine lv_iload hx hb dX_runTick_44 (lv_at hl 0 rfl) ?_
      refine gx_if_ne (a := 1) (tgt := 60) hx hb dX_runTick_46 (by decide) (by omega) (fun h46 => ?_) (fun h46 => ?_)
      · refine lv_iload hx hb dX_runTick_60 (lv_at hl 0 rfl) ?_
        exact gx_zret hx hb hr rfl hV hS ⟨plc, by rw [hmid]; show nI 1 = if ρc 0 2 = 0 then nI 0 else nI 1; rw [hz]; rfl, by show rr_R _ _ (mq_end (mq_mid ρ μ).1) (mq_mid ρ μ).2 lt plc; rw [hmid]; show rr_R _ _ (mq_end ρc) μb lt plc; rw [mq_end1 hz]; have := Rc.tickEnd (a := 1) (b := 0); rw [cx_t0] at this; exact this⟩ dX_runTick_62 hlk
      · exact absurd h46 (by decide)
    · refine lv_iload_n hx hb dX_runTick_23 rfl (lv_at hl 0 rfl) ?_
      refine gx_if_eq (a := fc) (tgt := 31) hx hb dX_runTick_24 (by decide) (by omega) (fun h24 => ?_) (fun h24 => ?_)
      · refine lv_iconst (v := nI 0) hx hb dX_runTick_31 (by decide) ?_
        have hz : ρc 0 2 = 0 := by rw [hfl]; exact if_neg (by omega)
        refine lv_istore (lv' := [(4, .int (nI 0)), (3, .int (nI fc)), (2, .int (nI fb)), (1, .int (nI fa)), (0, .ref (ad 0))]) hx hb dX_runTick_32 hl (by decide) rfl (fun ls hl => ?_)
        refine lv_aload_n hx hb dX_runTick_34 rfl (lv_at hl 4 rfl) ?_
        refine gx_get (C := mR_X) (T := mT_X) (N' := 7) hx hb ht mh_X hown hV (by decide) cx_E_X rfl 5 (by decide) (ht _ mw_134) (fun _ h => h) rfl dX_runTick_35 ?_
        refine lv_iconst (v := nI 0) hx hb dX_runTick_38 (by decide) ?_
        refine lv_dup2_11 hx hb dX_runTick_39 rfl rfl ?_
        refine gx_iald hx hb hV (by decide) 0 cx_E_Ct rfl 0 (by decide) (by decide) rfl dX_runTick_40 ?_
        refine lv_iconst (v := nI 1) hx hb dX_runTick_41 (by decide) ?_
        refine lv_iadd hx hb dX_runTick_42 ?_
        refine gx_iast cx_loc hx hb hV hS (by decide) 0 cx_E_Ct rfl 0 (by decide) (by decide) rfl dX_runTick_43 (cx_up σc 69 0 ((σc 69 0) + (nI 1))) (by rw [cx_E_Ct, cx_up_upd]) (fun _ h => cx_up_J h) (fun H locs hV hS => ?_)
        refine lv_iload hx hb dX_runTick_44 (lv_at hl 0 rfl) ?_
        refine gx_if_ne (a := 0) (tgt := 60) hx hb dX_runTick_46 (by decide) (by omega) (fun h46 => ?_) (fun h46 => ?_)
        · exact absurd h46 (by decide)
        · refine lv_aload_n hx hb dX_runTick_49 rfl (lv_at hl 4 rfl) ?_
          refine gx_get (C := mR_X) (T := mT_X) (N' := 7) hx hb ht mh_X hown hV (by decide) cx_E_X rfl 5 (by decide) (ht _ mw_134) (fun _ h => h) rfl dX_runTick_50 ?_
          refine lv_bipush (v := nI 7) hx hb dX_runTick_53 (by decide) ?_
          refine lv_dup2_11 hx hb dX_runTick_55 rfl rfl ?_
          refine gx_ialdv (v := σc 69 7) hx hb hV (by decide) 0 cx_E_Ct rfl 7 (by decide) (by decide) rfl (cx_up_k (by decide)) dX_runTick_56 ?_
          refine lv_iconst (v := nI 1) hx hb dX_runTick_57 (by decide) ?_
          refine lv_iadd hx hb dX_runTick_58 ?_
          refine gx_iast cx_loc hx hb hV hS (by decide) 0 cx_E_Ct rfl 7 (by decide) (by decide) rfl dX_runTick_59 (cx_up (cx_up σc 69 0 ((σc 69 0) + (nI 1))) 69 7 (σc 69 7 + (nI 1))) (by rw [cx_E_Ct, cx_up_upd]) (fun _ h => cx_up_J h) (fun H locs hV hS => ?_)
          refine lv_iload hx hb dX_runTick_60 (lv_at hl 0 rfl) ?_
          exact gx_zret hx hb hr rfl hV hS ⟨plc, by rw [hmid]; show nI 0 = if ρc 0 2 = 0 then nI 0 else nI 1; rw [hz]; rfl, by show rr_R _ _ (mq_end (mq_mid ρ μ).1) (mq_mid ρ μ).2 lt plc; rw [hmid]; show rr_R _ _ (mq_end ρc) μb lt plc; rw [mq_end0 hz]; exact Rc.tickEnd (a := 1) (b := 1)⟩ dX_runTick_62 hlk
      · refine lv_iconst (v := nI 1) hx hb dX_runTick_27 (by decide) ?_
        refine lv_goto (tgt := 32) hx hb dX_runTick_28 (by decide) ?_
        have hz : ρc 0 2 = 1 := by rw [hfl]; exact if_pos (by omega)
        refine lv_istore (lv' := [(4, .int (nI 1)), (3, .int (nI fc)), (2, .int (nI fb)), (1, .int (nI fa)), (0, .ref (ad 0))]) hx hb dX_runTick_32 hl (by decide) rfl (fun ls hl => ?_)
        refine lv_aload_n hx hb dX_runTick_34 rfl (lv_at hl 4 rfl) ?_
        refine gx_get (C := mR_X) (T := mT_X) (N' := 7) hx hb ht mh_X hown hV (by decide) cx_E_X rfl 5 (by decide) (ht _ mw_134) (fun _ h => h) rfl dX_runTick_35 ?_
        refine lv_iconst (v := nI 0) hx hb dX_runTick_38 (by decide) ?_
        refine lv_dup2_11 hx hb dX_runTick_39 rfl rfl ?_
        refine gx_iald hx hb hV (by decide) 0 cx_E_Ct rfl 0 (by decide) (by decide) rfl dX_runTick_40 ?_
        refine lv_iconst (v := nI 1) hx hb dX_runTick_41 (by decide) ?_
        refine lv_iadd hx hb dX_runTick_42 ?_
        refine gx_iast cx_loc hx hb hV hS (by decide) 0 cx_E_Ct rfl 0 (by decide) (by decide) rfl dX_runTick_43 (cx_up σc 69 0 ((σc 69 0) + (nI 1))) (by rw [cx_E_Ct, cx_up_upd]) (fun _ h => cx_up_J h) (fun H locs hV hS => ?_)
        refine lv_iload hx hb dX_runTick_44 (lv_at hl 0 rfl) ?_
        refine gx_if_ne (a := 1) (tgt := 60) hx hb dX_runTick_46 (by decide) (by omega) (fun h46 => ?_) (fun h46 => ?_)
        · refine lv_iload hx hb dX_runTick_60 (lv_at hl 0 rfl) ?_
          exact gx_zret hx hb hr rfl hV hS ⟨plc, by rw [hmid]; show nI 1 = if ρc 0 2 = 0 then nI 0 else nI 1; rw [hz]; rfl, by show rr_R _ _ (mq_end (mq_mid ρ μ).1) (mq_mid ρ μ).2 lt plc; rw [hmid]; show rr_R _ _ (mq_end ρc) μb lt plc; rw [mq_end1 hz]; have := Rc.tickEnd (a := 1) (b := 0); rw [cx_t0] at this; exact this⟩ dX_runTick_62 hlk
        · exact absurd h46 (by decide)
end
section
/-! ===== BEGIN words of one list among another's, by their places ===== -/
theorem goodIn_r {big : List Cond} (ws : List Cond) (ps : List Nat) (hp : ws = ps.filterMap (fun i => big[i]?)) (h : ws.all goodWord = true) : GoodIn big ws := by
  intro w hw
  have h1 := List.all_eq_true.mp h w hw
  rw [hp] at hw
  obtain ⟨i, -, hi⟩ := List.mem_filterMap.mp hw
  have hm : w ∈ big := by first | exact List.mem_of_getElem? hi | exact List.getElem?_mem hi
  exact ⟨hm, good_of_word h1⟩
theorem goodIn_app {big a b : List Cond} (ha : GoodIn big a) (hb : GoodIn big b) : GoodIn big (a ++ b) := fun w h => (List.mem_append.mp h).elim (ha w) (hb w)
theorem goodIn_ca {big a b : List Cond} {c : Cond} (ha : GoodIn big (c :: a)) (hb : GoodIn big b) : GoodIn big (c :: (a ++ b)) := fun w h => (List.mem_cons.mp h).elim (fun e => ha w (List.mem_cons.mpr (Or.inl e))) (fun h => (List.mem_append.mp h).elim (fun h => ha w (List.mem_cons.mpr (Or.inr h))) (hb w))
theorem goodIn_sub {big ws : List Cond} (hm : ∀ w ∈ ws, w ∈ big) (h : ws.all goodWord = true) : GoodIn big ws := fun w hw => ⟨hm w hw, good_of_word (List.all_eq_true.mp h w hw)⟩
/-! ===== END ===== -/

/-! ===== BEGIN exceptions that leave a method, and their catching by the caller (launches without stack traces) ===== -/
section VXA
/-! The laws vx_back, vx_callV, vx_callS, vx_callSW, vx_throw0, vx_throwS follow proofs of the library, with one case more: JvmDerived/Free/Laws.lean (Back.of_free), Shelf42/LK1.lean (callV, callS), Shelf/KitTraced.lean (throwNew0V, throwNewS). -/
/-- where a method has thrown q: the class by its name, the cell, what was written, the world -/
def vx_T (XC : String → State → State → Prop) (st : State) (q : Addr) (t : State) (mc ms : Nat) (free : Addr → Prop) : Prop :=
  ∃ (E : String) (ce : Cell) (L : List Loc), XC E st t ∧ t.heap[q]? = some ce ∧ ce.vm = .none ∧ st.vm.findClass E = some ce.cls ∧ st.WarmedH t.vm ∧ st.sameButNew ({ t with vm := st.vm } : State) L mc ms ∧ ∀ z ∈ L, free z.base
def vx_Q (Qc : Array Value → State → Outcome → State → Prop) (XC : String → State → State → Prop) (mc ms : Nat) (free : Addr → Prop) : Array Value → State → Outcome → State → Prop := fun a st o t =>
  (Qc a st o t ∧ ∃ L, FrameEnd st o t L mc ms ∧ ∀ q ∈ L, free q.base) ∨ ∃ q, o = .threw q ∧ vx_T XC st q t mc ms free
/-- a callee that returns or throws -/
def vx_Met (l : Launch) (y : MethodName) (ws : List Cond) (rm : Room) (Pc : Array Value → State → Prop) (Qc : Array Value → State → Outcome → State → Prop) (XC : String → State → State → Prop) (mc ms : Nat) (free : Addr → Prop) : Prop :=
  MetFree l y (headSpec ws rm) Pc (fun _ _ _ _ _ => True) (vx_Q Qc XC mc ms free)
def vx_Post (XC : String → State → State → Prop) (mc ms : Nat) (free : Addr → Prop) : Pt → Array Value → Addr → Pt → Prop := fun A a q B =>
  ∃ (g : JFrame) (mk : MethodId) (t : State) (L : List Loc) (E : String) (ce : Cell), B.U.heap = t.heap ∧ B.U.vm = t.vm ∧ XC E (A.U.calling g mk a) t ∧ t.heap[q]? = some ce ∧ ce.vm = .none ∧ A.U.vm.findClass E = some ce.cls ∧ B.locs = A.locs ++ L ∧ (∀ z ∈ L, free z.base) ∧ B.cells = A.cells + mc ∧ B.slots = A.slots + ms
def vx_Back (l : Launch) (R : Room) (p : Program) (e : Env) (below : List Frame) (s : State) (sargs : Array Value) (y : MethodName) (len W9 : Nat)
    (Pre : Pt → Array Value → Prop) (Post : Pt → Array Value → Option Value → Pt → Prop) (PostX : Pt → Array Value → Addr → Pt → Prop) : Prop :=
  ∀ (m : MethodId) (meth : Method) (c : Code) (A : Pt) (g : JFrame) (ig : Instr) (mk : MethodId) (a : Array Value),
    Stand p l e R s m sargs below meth c A.U A.locs A.cells A.slots → g.method = m → g.locals.size = c.maxLocals → decode c.code g.pc = .ok (ig, len) →
    2 * g.monitorRoom + (g.stack.map fun v => v.category).sum ≤ W9 → A.U.methodNamed? y = some mk → Pre A a →
    (∃ (v : Option Value) (B : Pt), Stand p l e R s m sargs below meth c B.U B.locs B.cells B.slots ∧ Post A a v B ∧
      Steps p.tables e below (doInvoke e (A.U.setTop g) [] mk a).1 (B.U.setTop { g with pc := g.pc + len, stack := v.toList ++ g.stack })) ∨
    (∃ (q : Addr) (B : Pt), Stand p l e R s m sargs below meth c B.U B.locs B.cells B.slots ∧ PostX A a q B ∧
      Steps p.tables e below (doInvoke e (A.U.setTop g) [] mk a).1 ((B.U.setTop g).pushFrame (.throwing q)))
section Payer
variable {l : Launch} {R : Room} {p : Program} {e : Env} {below : List Frame} {s : State} {sargs : Array Value} {y : MethodName} {len W9 : Nat}
theorem vx_back {ws : List Cond} {rm : Room} {Pc : Array Value → State → Prop} {Qc : Array Value → State → Outcome → State → Prop} {XC : String → State → State → Prop} {mc ms : Nat} {free : Addr → Prop} {bytes : ByteArray} {maxL : Nat} {ret : Option FieldType}
    (hM : vx_Met l y ws rm Pc Qc XC mc ms free) (hblind : FrameBlind Pc) (hrc : rm.cells = mc) (hrs : rm.slots = ms)
    (hframes : rm.frames + 1 ≤ R.frames) (hlocals : W9 + (maxL + 11) + rm.locals ≤ R.locals)
    (hws : ∀ w ∈ ws, ∀ a' U, s.WarmedH U.vm → w.before a' U = true) (hcode : Cond.code y bytes maxL ret ∈ ws) (hinit : ∀ a' U, s.WarmedH U.vm → (Cond.initialized y.cls).before a' U = true) :
    vx_Back l R p e below s sargs y len W9 (PreOf R mc ms Pc) (PostOf Qc mc ms free) (vx_Post XC mc ms free) := by
  intro m meth c A g ig mk a X hg hsize hdg hW hn hp
  have h1 : (headSpec ws rm).pre.before a A.U = true := atoms_intro fun w hw => hws w hw _ _ X.warmed
  have h2 : (Cond.code y bytes maxL ret).before a A.U = true := hws _ hcode _ _ X.warmed
  have h3 : (Cond.initialized y.cls).before a A.U = true := hinit _ _ X.warmed
  have h4 : A.cells + (headSpec ws rm).room.cells ≤ R.cells := by rw [show (headSpec ws rm).room.cells = mc from hrc]; exact hp.1
  have h5 : A.slots + (headSpec ws rm).room.slots ≤ R.slots := by rw [show (headSpec ws rm).room.slots = ms from hrs]; exact hp.2.1
  have hPc : Pc a (A.U.calling g mk a) := hblind _ _ _ _ hp.2.2
  obtain ⟨U, Ls, c0, s0⟩ := A
  dsimp only [Pt.U, Pt.locs, Pt.cells, Pt.slots] at h1 h2 h3 h4 h5 X hn hPc ⊢
  obtain ⟨methY, cY, hmY, hcY, -, hlY, -, -, -, -⟩ := Cond.code_spec hn h2
  obtain ⟨kY, hkY, -⟩ := className_of_methodNamed hn
  have hinitY : kY.init = .initialized := Cond.initialized_spec (findClass_of_methodNamed hn) hkY h3
  have h : At U g.method c below := by rw [hg]; exact X.here
  have hlocals9 : W9 + (maxL + 11) + (headSpec ws rm).room.locals ≤ R.locals := hlocals
  have happ : (headSpec ws rm).appliesLoose y e.platform (U.calling g mk a) = true :=
    Spec.appliesLoose_calling (g := g) h hdg hn hkY hinitY
      (X.room_calling (g := g) (R' := (headSpec ws rm).room) hsize hmY hcY hframes (by rw [hlY]; omega) h4 h5) h1
  obtain ⟨mid, hmid⟩ := h.above
  have hfr : (U.setTop g).frames = (.java g :: mid) ++ below := by rw [State.frames_setTop' g h.top, hmid]; rfl
  obtain ⟨o, s₂, hsteps, -, hend, hq⟩ := Steps.callFree hM p X.admits X.cas X.clock (acts := []) hfr happ hPc trivial
  have hq' : vx_Q Qc XC mc ms free a (U.calling g mk a) o s₂ := hq
  rw [State.frames_setTop' g h.top] at hend
  obtain ⟨g₀, hg0⟩ := Option.isSome_iff_exists.mp h.top
  obtain ⟨r, hr⟩ := State.topJava?_eq_some.mp hg0
  have hr' : (({ U with heap := s₂.heap, slotsUsed := s₂.slotsUsed } : State).setVm s₂.vm).frames = .java g₀ :: r := hr
  rcases hq' with ⟨hqc, L, hfe, hL⟩ | ⟨q, rfl, E, ce, L, hx, hce, hcv, hcl, hW₂, hsm, hL⟩
  · obtain ⟨⟨v, rfl⟩, hW₂, e2, q2, q3, q4, q5, q6⟩ := id hfe
    have e3 : s₂ = ({ (U.calling g mk a).setFrames s₂.frames with heap := s₂.heap, slotsUsed := s₂.slotsUsed } : State).setVm s₂.vm := by
      have : s₂ = ({ s₂ with vm := (U.calling g mk a).vm } : State).setVm s₂.vm := rfl
      rw [e2] at this
      exact this
    obtain ⟨c₂, i₂, len₂, hc₂, hd₂, hf₂⟩ := hend
    have hW' : U.WarmedH s₂.vm := hW₂
    have hcc : c₂ = c := by
      have h1 : s₂.code? g.method = U.code? g.method := by
        rw [State.code?_eq, State.code?_eq, hW'.alike.method?]
      exact Option.some.inj (hc₂.symm.trans (h1.trans h.code))
    subst hcc
    have hlen : len₂ = len := by rw [hdg] at hd₂; cases hd₂; rfl
    subst hlen
    have hs₂ : s₂ = (({ U with heap := s₂.heap, slotsUsed := s₂.slotsUsed } : State).setVm s₂.vm).setTop { g with pc := g.pc + len₂, stack := v.toList ++ g.stack } := by
      refine e3.trans ?_
      rw [hf₂, State.calling_eq h.top, State.setFrames_setFrames, State.setTop_of_frames _ hr', hr]
      rfl
    have hsame : U.sameButNew ({ U with heap := s₂.heap, slotsUsed := s₂.slotsUsed } : State) L mc ms := by
      refine ⟨?_, q2, q3, q4, q5, q6⟩
      obtain ⟨t, ht, -⟩ := State.frames_cons hr
      show ({ U with heap := s₂.heap, slotsUsed := s₂.slotsUsed } : State) = { U.setFrames U.frames with heap := s₂.heap, slotsUsed := s₂.slotsUsed }
      rw [State.setFrames_self ht]
    subst hg
    refine Or.inl ⟨v, ⟨(({ U with heap := s₂.heap, slotsUsed := s₂.slotsUsed } : State).setVm s₂.vm), Ls ++ L, c0 + mc, s0 + ms⟩,
      ⟨X.admits, X.cas, X.clock, X.frames, X.room, X.hears, X.method, X.code, (X.here.setHeapUsed s₂.heap s₂.slotsUsed).setVm hW'.alike, X.tail, State.WarmedH.trans X.warmed hW', X.limits, X.bytes, X.same.trans (hsame.setVm s.vm)⟩,
      ⟨g, mk, s₂, L, rfl, rfl, hqc, rfl, hL, rfl, rfl⟩, ?_⟩
    show Steps p.tables e below _ ((({ U with heap := s₂.heap, slotsUsed := s₂.slotsUsed } : State).setVm s₂.vm).setTop { g with pc := g.pc + len₂, stack := v.toList ++ g.stack })
    rw [← hs₂]
    exact hsteps
  · obtain ⟨e2, q2, q3, q4, q5, q6⟩ := id hsm
    have e3 : s₂ = ({ (U.calling g mk a).setFrames s₂.frames with heap := s₂.heap, slotsUsed := s₂.slotsUsed } : State).setVm s₂.vm := by
      have : s₂ = ({ s₂ with vm := (U.calling g mk a).vm } : State).setVm s₂.vm := rfl
      rw [e2] at this
      exact this
    have hf₂ : s₂.frames = .throwing q :: .java g :: U.frames.tail := hend
    have hW' : U.WarmedH s₂.vm := hW₂
    have hs₂ : s₂ = ((({ U with heap := s₂.heap, slotsUsed := s₂.slotsUsed } : State).setVm s₂.vm).setTop g).pushFrame (.throwing q) := by
      refine e3.trans ?_
      rw [hf₂, State.calling_eq h.top, State.setFrames_setFrames, State.pushFrame, State.frames_setTop _ hr', State.setTop_of_frames _ hr', State.setFrames_setFrames, hr]
      rfl
    have hsame : U.sameButNew ({ U with heap := s₂.heap, slotsUsed := s₂.slotsUsed } : State) L mc ms := by
      refine ⟨?_, q2, q3, q4, q5, q6⟩
      obtain ⟨t, ht, -⟩ := State.frames_cons hr
      show ({ U with heap := s₂.heap, slotsUsed := s₂.slotsUsed } : State) = { U.setFrames U.frames with heap := s₂.heap, slotsUsed := s₂.slotsUsed }
      rw [State.setFrames_self ht]
    subst hg
    refine Or.inr ⟨q, ⟨(({ U with heap := s₂.heap, slotsUsed := s₂.slotsUsed } : State).setVm s₂.vm), Ls ++ L, c0 + mc, s0 + ms⟩,
      ⟨X.admits, X.cas, X.clock, X.frames, X.room, X.hears, X.method, X.code, (X.here.setHeapUsed s₂.heap s₂.slotsUsed).setVm hW'.alike, X.tail, State.WarmedH.trans X.warmed hW', X.limits, X.bytes, X.same.trans (hsame.setVm s.vm)⟩,
      ⟨g, mk, s₂, L, E, ce, rfl, rfl, hx, hce, hcv, hcl, rfl, hL, rfl, rfl⟩, ?_⟩
    show Steps p.tables e below _ (((({ U with heap := s₂.heap, slotsUsed := s₂.slotsUsed } : State).setVm s₂.vm).setTop g).pushFrame (.throwing q))
    rw [← hs₂]
    exact hsteps
end Payer
section Calls
variable {p : Program} {l : Launch} {e : Env} {R : Room} {s : State} {m : MethodId} {args : Array Value} {below : List Frame} {meth : Method} {c : Code} {T : State} {locs : List Loc} {cells slots : Nat}
theorem vx_callV (X : Stand p l e R s m args below meth c T locs cells slots) (hexec : p.tables.exec = Jvm.exec) {own C : String} {index : Nat} {y : MethodName} {bytes : ByteArray} {maxL : Nat} {ret : Option FieldType}
    (hown : s.vm.findClass own = some m.cls) (hlink : (Cond.methodLink own index y).before args s = true) (hinst : (Cond.instanceMethod y).before args s = true) (hsel : (Cond.selects C y y).before args s = true)
    (hcode : (Cond.code y bytes maxL ret).before args s = true) (hy : y.cls ≠ "java/lang/invoke/MethodHandle" ∧ y.cls ≠ "java/lang/invoke/VarHandle")
    {W9 : Nat} {Pre : Pt → Array Value → Prop} {Post : Pt → Array Value → Option Value → Pt → Prop} {PostX : Pt → Array Value → Addr → Pt → Prop} (hK : vx_Back l R p e below s args y 3 W9 Pre Post PostX)
    {b : Addr} {cellB : Cell} (hcell : T.heap[b]? = some cellB) (hobj : cellB.vm.isStatics = false) (hcls : s.vm.findClass C = some cellB.cls)
    {g : JFrame} (hg : g.method = m) (hsize : g.locals.size = c.maxLocals) {argsL rest : List Value} (hlen : ∀ sig, parseMethodDescriptor y.desc = some sig → argsL.length = sig.parameters.length)
    (hstack : g.stack = argsL.reverse ++ .ref b :: rest) (hW : 2 * g.monitorRoom + (rest.map fun v => v.category).sum ≤ W9) (hdg : decode c.code g.pc = .ok (.invokevirtual index, 3))
    (hpre : ∀ vm₁, s.WarmedH vm₁ → Pre ⟨T.setVm vm₁, locs, cells, slots⟩ (Value.ref b :: argsL).toArray) :
    (∃ (v : Option Value) (vm₁ : Vm) (B : Pt), s.WarmedH vm₁ ∧ Stand p l e R s m args below meth c B.U B.locs B.cells B.slots ∧ Post ⟨T.setVm vm₁, locs, cells, slots⟩ (Value.ref b :: argsL).toArray v B ∧
      ∀ target, Steps p.tables e below (B.U.setTop { g with pc := g.pc + 3, stack := v.toList ++ rest }) target → Steps p.tables e below (T.setTop g) target) ∨
    (∃ (q : Addr) (vm₁ : Vm) (B : Pt), s.WarmedH vm₁ ∧ Stand p l e R s m args below meth c B.U B.locs B.cells B.slots ∧ PostX ⟨T.setVm vm₁, locs, cells, slots⟩ (Value.ref b :: argsL).toArray q B ∧
      Steps p.tables e below (T.setTop g) ((B.U.setTop { g with stack := rest }).pushFrame (.throwing q))) := by
  obtain ⟨mk, methM, hnamed, hmethM, hstM, habM⟩ := Cond.instanceMethod_spec hinst
  obtain ⟨methM', cM, hmethM', -, -, -, -, -, -, hsigM⟩ := Cond.code_spec hnamed hcode
  cases hmethM.symm.trans hmethM'
  obtain ⟨c2, r2, m2, q1, q2, q3, q4, kP, hkP, hkPi⟩ := Cond.selects_spec hsel
  cases hcls.symm.trans q1
  cases (State.methodFound?_of_named hnamed hy).symm.trans q2
  cases hnamed.symm.trans q3
  have hselP : selectMethod e.platform s.vm cellB.cls mk = .method mk := by rw [Launch.admits_selectMethod X.admits]; exact q4
  obtain ⟨vm₁, X₁, hstep₁⟩ := X.invokevirtual hexec hown hlink hnamed hmethM hstM hkP hkPi hy (a := b) (cell := cellB) hcell
    (fun z h => by rw [h] at hobj; cases hobj) hselP hmethM habM hkP hkPi (g := g) hg (argsL := argsL) (rest := rest) (hlen _ hsigM) hstack hdg
  rcases hK m meth c ⟨T.setVm vm₁, locs, cells, slots⟩ { g with stack := rest } (.invokevirtual index) mk (Value.ref b :: argsL).toArray X₁ hg hsize hdg hW (X₁.named hnamed) (hpre vm₁ X₁.warmed) with ⟨v, B, X', hpost, hsteps⟩ | ⟨q, B, X', hpost, hsteps⟩
  · exact Or.inl ⟨v, vm₁, B, X₁.warmed, X', hpost, fun target h => hstep₁ _ fun acts => by rw [doInvoke_state]; exact hsteps.trans h⟩
  · exact Or.inr ⟨q, vm₁, B, X₁.warmed, X', hpost, hstep₁ _ fun acts => by rw [doInvoke_state]; exact hsteps⟩
theorem vx_callS (X : Stand p l e R s m args below meth c T locs cells slots) (hexec : p.tables.exec = Jvm.exec) {own : String} {index : Nat} {y : MethodName} {bytes : ByteArray} {maxL : Nat} {ret : Option FieldType}
    (hown : s.vm.findClass own = some m.cls) (hlink : (Cond.methodLink own index y).before args s = true) (hstat : (Cond.static y).before args s = true) (hinit : (Cond.initialized y.cls).before args s = true)
    (hcode : (Cond.code y bytes maxL ret).before args s = true) (hy : y.cls ≠ "java/lang/invoke/MethodHandle" ∧ y.cls ≠ "java/lang/invoke/VarHandle")
    {W9 : Nat} {Pre : Pt → Array Value → Prop} {Post : Pt → Array Value → Option Value → Pt → Prop} {PostX : Pt → Array Value → Addr → Pt → Prop} (hK : vx_Back l R p e below s args y 3 W9 Pre Post PostX)
    {g : JFrame} (hg : g.method = m) (hsize : g.locals.size = c.maxLocals) {argsL rest : List Value} (hlen : ∀ sig, parseMethodDescriptor y.desc = some sig → argsL.length = sig.parameters.length)
    (hstack : g.stack = argsL.reverse ++ rest) (hW : 2 * g.monitorRoom + (rest.map fun v => v.category).sum ≤ W9) (hdg : decode c.code g.pc = .ok (.invokestatic index, 3))
    (hpre : ∀ vm₁, s.WarmedH vm₁ → Pre ⟨T.setVm vm₁, locs, cells, slots⟩ argsL.toArray) :
    (∃ (v : Option Value) (vm₁ : Vm) (B : Pt), s.WarmedH vm₁ ∧ Stand p l e R s m args below meth c B.U B.locs B.cells B.slots ∧ Post ⟨T.setVm vm₁, locs, cells, slots⟩ argsL.toArray v B ∧
      ∀ target, Steps p.tables e below (B.U.setTop { g with pc := g.pc + 3, stack := v.toList ++ rest }) target → Steps p.tables e below (T.setTop g) target) ∨
    (∃ (q : Addr) (vm₁ : Vm) (B : Pt), s.WarmedH vm₁ ∧ Stand p l e R s m args below meth c B.U B.locs B.cells B.slots ∧ PostX ⟨T.setVm vm₁, locs, cells, slots⟩ argsL.toArray q B ∧
      Steps p.tables e below (T.setTop g) ((B.U.setTop { g with stack := rest }).pushFrame (.throwing q))) := by
  obtain ⟨mk, hnamed⟩ := Cond.code_named hcode
  obtain ⟨methM, cM, hmethM, -, -, -, -, -, -, hsigM⟩ := Cond.code_spec hnamed hcode
  have hstatic : methM.isStatic = true := Cond.static_spec hnamed hmethM hstat
  obtain ⟨kP, hkP, -⟩ := className_of_methodNamed hnamed
  have hinitP : kP.init = .initialized := Cond.initialized_spec (findClass_of_methodNamed hnamed) hkP hinit
  obtain ⟨vm₁, X₁, hstep₁⟩ := X.invokestatic hexec hown hlink hnamed hmethM hstatic hkP hinitP hy (g := g) hg (argsL := argsL) (rest := rest) (hlen _ hsigM) hstack hdg
  rcases hK m meth c ⟨T.setVm vm₁, locs, cells, slots⟩ { g with stack := rest } (.invokestatic index) mk argsL.toArray X₁ hg hsize hdg hW (X₁.named hnamed) (hpre vm₁ X₁.warmed) with ⟨v, B, X', hpost, hsteps⟩ | ⟨q, B, X', hpost, hsteps⟩
  · exact Or.inl ⟨v, vm₁, B, X₁.warmed, X', hpost, fun target h => hstep₁ _ fun acts => by rw [doInvoke_state]; exact hsteps.trans h⟩
  · exact Or.inr ⟨q, vm₁, B, X₁.warmed, X', hpost, hstep₁ _ fun acts => by rw [doInvoke_state]; exact hsteps⟩
end Calls
theorem vx_cls {s : State} {T : State} {vm₁ : Vm} {E : String} {k : ClassId} (hW : s.WarmedH vm₁) (h : (T.setVm vm₁).vm.findClass E = some k) : s.vm.findClass E = some k := by
  have h1 : vm₁.findClass E = some k := h
  rw [hW.alike.findClass] at h1
  exact h1
/-- the method's frame g, with q thrown over it -/
def vx_W (p : Program) (l : Launch) (e : Env) (R : Room) (s : State) (m : MethodId) (args : Array Value) (below : List Frame) (meth : Method) (c : Code) (H : Heap) (locs : List Loc) (cells slots : Nat) (Q : State → Prop) (g : JFrame) (q : Addr) : Prop :=
  ∀ T : State, T.heap = H → Stand p l e R s m args below meth c T locs cells slots → ∃ t, Steps p.tables e below ((T.setTop g).pushFrame (.throwing q)) t ∧ Q t
def vx_Run (p : Program) (l : Launch) (e : Env) (R : Room) (s : State) (m : MethodId) (args : Array Value) (below : List Frame) (meth : Method) (c : Code) (H : Heap) (locs : List Loc) (cells slots mc ms : Nat) (g : JFrame) (rest : List Value) (Qa : State → Outcome → State → Prop) (XC : String → State → State → Prop) (free : Addr → Prop) : Prop :=
  ∀ T : State, T.heap = H → Stand p l e R s m args below meth c T locs cells slots →
    (∃ (v : Option Value) (st₀ t T' : State) (L : List Loc), st₀.heap = H ∧ Stand p l e R s m args below meth c T' (locs ++ L) (cells + mc) (slots + ms) ∧ (∀ q ∈ L, free q.base) ∧ T'.heap = t.heap ∧ T'.vm = t.vm ∧ Qa st₀ (.returned v) t ∧
      Goes p e below T g T' { g with pc := g.pc + 3, stack := v.toList ++ rest }) ∨
    (∃ (q : Addr) (st₀ t T' : State) (L : List Loc) (E : String) (ce : Cell), st₀.heap = H ∧ Stand p l e R s m args below meth c T' (locs ++ L) (cells + mc) (slots + ms) ∧ (∀ z ∈ L, free z.base) ∧ T'.heap = t.heap ∧ T'.vm = t.vm ∧ XC E st₀ t ∧ t.heap[q]? = some ce ∧ ce.vm = .none ∧ s.vm.findClass E = some ce.cls ∧
      Steps p.tables e below (T.setTop g) ((T'.setTop { g with stack := rest }).pushFrame (.throwing q)))
def vx_X {S : Type} (px : S → Prop) (B : String → S → State → Prop) (A : Nat → Prop) : String → State → State → Prop := fun E st t => ∃ u : S, px u ∧ B E u t ∧ va_F A st t
section Runs
variable {p : Program} {l : Launch} {e : Env} {R : Room} {s : State} {m : MethodId} {args : Array Value} {below : List Frame} {meth : Method} {c : Code} {H : Heap} {locs : List Loc} {cells slots : Nat}
variable {y : MethodName} {bytes cc : ByteArray} {maxL nL mc ms n index : Nat} {ret : Option FieldType} {ws : List Cond} {rm : Room} {Pc : Array Value → State → Prop} {Qc : Array Value → State → Outcome → State → Prop} {XC : String → State → State → Prop} {free : Addr → Prop} {Ts : List Cond} {own C : String} {b : Addr} {As rest : List Value} {g : JFrame}
theorem vx_callBack (cb : CallB R s args own index y bytes maxL ret ws rm mc ms n) (hM : vx_Met l y ws rm Pc Qc XC mc ms free) (hbl : FrameBlind Pc) : vx_Back l R p e below s args y 3 8 (PreOf R mc ms Pc) (PostOf Qc mc ms free) (vx_Post XC mc ms free) := by
  obtain ⟨hrc, hrs, hfr, hlo, hws, hcw, -, hini, -⟩ := cb
  exact vx_back (bytes := bytes) (maxL := maxL) (ret := ret) hM hbl hrc hrs hfr hlo hws hcw (fun a' U hW => word_at hW (Or.inl (by first | rfl | simp [Cond.onTables, Cond.keeps, Cond.steady])) hini)
theorem vx_runV (S : CallFix p m c cc nL s args Ts own) (hM : vx_Met l y ws rm Pc Qc XC mc ms free) (cw : CallW R s args own C index y bytes maxL ret ws rm mc ms n) (hp : PreV s H C b Pc As)
    (hg : g.method = m) (hn : As.length = n) (hsize : g.locals.size = nL) (hstack : g.stack = As.reverse ++ .ref b :: rest) (hW : 2 * g.monitorRoom + (rest.map fun v => v.category).sum ≤ 8) (hdg : decode cc g.pc = .ok (.invokevirtual index, 3)) (hf : cells + mc ≤ R.cells ∧ slots + ms ≤ R.slots) :
    vx_Run p l e R s m args below meth c H locs cells slots mc ms g rest (Qc (Value.ref b :: As).toArray) XC free := by
  have hK : vx_Back l R p e below s args y 3 8 (PreOf R mc ms Pc) (PostOf Qc mc ms free) (vx_Post XC mc ms free) := vx_callBack cw.1 hM hp.1
  obtain ⟨⟨-, -, -, -, -, -, hcode, -, hy, hlen, hl⟩, hin, hse⟩ := cw
  obtain ⟨hx, hb, hml, ho, -⟩ := S
  obtain ⟨-, ⟨cellB, hcB, hoB, hclB⟩, hPc⟩ := hp
  intro T hT X
  rcases vx_callV X hx (C := C) (bytes := bytes) (maxL := maxL) (ret := ret) ho hl hin hse hcode hy hK (by rw [hT]; exact hcB) hoB hclB hg (hsize.trans hml.symm) (argsL := As) (rest := rest) (fun sig h => hn.trans (hlen sig h)) hstack hW (by rw [hb]; exact hdg)
    (fun vm₁ hW₁ => ⟨hf.1, hf.2, hPc (T.setVm vm₁) hT hW₁⟩) with ⟨v, vm₁, ⟨U', l2, c2, s2⟩, hW₁, X', ⟨g', mk, t, L, e1, e2, hq, h1, hL, h2, h3⟩, st⟩ | ⟨q, vm₁, ⟨U', l2, c2, s2⟩, hW₁, X', ⟨g', mk, t, L, E, ce, e1, e2, hq, hce, hcv, hcl, h1, hL, h2, h3⟩, st⟩
  · dsimp only [Pt.U, Pt.locs, Pt.cells, Pt.slots] at X' e1 e2 h1 h2 h3 st
    subst h1; subst h2; subst h3
    exact Or.inl ⟨v, (T.setVm vm₁).calling g' mk (Value.ref b :: As).toArray, t, U', L, hT, X', hL, e1, e2, hq, st⟩
  · dsimp only [Pt.U, Pt.locs, Pt.cells, Pt.slots] at X' e1 e2 h1 h2 h3 st hcl
    subst h1; subst h2; subst h3
    exact Or.inr ⟨q, (T.setVm vm₁).calling g' mk (Value.ref b :: As).toArray, t, U', L, E, ce, hT, X', hL, e1, e2, hq, hce, hcv, vx_cls hW₁ hcl, st⟩
theorem vx_runS (S : CallFix p m c cc nL s args Ts own) (hM : vx_Met l y ws rm Pc Qc XC mc ms free) (cw : CallB R s args own index y bytes maxL ret ws rm mc ms n ∧ (Cond.static y).before args s = true) (hp : PreS s H Pc As)
    (hg : g.method = m) (hn : As.length = n) (hsize : g.locals.size = nL) (hstack : g.stack = As.reverse ++ rest) (hW : 2 * g.monitorRoom + (rest.map fun v => v.category).sum ≤ 8) (hdg : decode cc g.pc = .ok (.invokestatic index, 3)) (hf : cells + mc ≤ R.cells ∧ slots + ms ≤ R.slots) :
    vx_Run p l e R s m args below meth c H locs cells slots mc ms g rest (Qc As.toArray) XC free := by
  have hK : vx_Back l R p e below s args y 3 8 (PreOf R mc ms Pc) (PostOf Qc mc ms free) (vx_Post XC mc ms free) := vx_callBack cw.1 hM hp.1
  obtain ⟨⟨-, -, -, -, -, -, hcode, hini, hy, hlen, hl⟩, hstt⟩ := cw
  obtain ⟨hx, hb, hml, ho, -⟩ := S
  intro T hT X
  rcases vx_callS X hx (bytes := bytes) (maxL := maxL) (ret := ret) ho hl hstt hini hcode hy hK hg (hsize.trans hml.symm) (argsL := As) (rest := rest) (fun sig h => hn.trans (hlen sig h)) hstack hW (by rw [hb]; exact hdg)
    (fun vm₁ hW₁ => ⟨hf.1, hf.2, hp.2 (T.setVm vm₁) hT hW₁⟩) with ⟨v, vm₁, ⟨U', l2, c2, s2⟩, hW₁, X', ⟨g', mk, t, L, e1, e2, hq, h1, hL, h2, h3⟩, st⟩ | ⟨q, vm₁, ⟨U', l2, c2, s2⟩, hW₁, X', ⟨g', mk, t, L, E, ce, e1, e2, hq, hce, hcv, hcl, h1, hL, h2, h3⟩, st⟩
  · dsimp only [Pt.U, Pt.locs, Pt.cells, Pt.slots] at X' e1 e2 h1 h2 h3 st
    subst h1; subst h2; subst h3
    exact Or.inl ⟨v, (T.setVm vm₁).calling g' mk As.toArray, t, U', L, hT, X', hL, e1, e2, hq, st⟩
  · dsimp only [Pt.U, Pt.locs, Pt.cells, Pt.slots] at X' e1 e2 h1 h2 h3 st hcl
    subst h1; subst h2; subst h3
    exact Or.inr ⟨q, (T.setVm vm₁).calling g' mk As.toArray, t, U', L, E, ce, hT, X', hL, e1, e2, hq, hce, hcv, vx_cls hW₁ hcl, st⟩
end Runs
section Rows
variable {p : Program} {l : Launch} {e : Env} {R : Room} {s : State} {m : MethodId} {args : Array Value} {below : List Frame} {meth : Method} {c : Code} {H : Heap} {locs : List Loc} {cells slots : Nat} {Q : State → Prop}
variable {mc ms : Nat} {free : Addr → Prop} {A0 A1 : Nat → Prop} {H0 : Heap} {a : Array Value} {pc : Nat} {ls : Array Slot} {st0 rest : List Value}
theorem vx_keep {st₀ t T' : State} {L : List Loc} (h0 : st₀.heap = H) (e1 : T'.heap = t.heap) (hS : va_S A0 H0 H locs) (hA : ∀ q, q < H.size → A1 q → A0 q) (hf : ∀ q, free q → A0 q) (hL : ∀ q ∈ L, free q.base) (hF : va_F A1 st₀ t) :
    H.size ≤ T'.heap.size ∧ (∀ q : Nat, q < H.size → ¬ A1 q → T'.heap[q]? = H[q]?) ∧ va_S A0 H0 T'.heap (locs ++ L) := by
  obtain ⟨hz, hk⟩ := hF
  rw [h0] at hz hk
  exact ⟨by rw [e1]; exact hz, fun q h1 h2 => by rw [e1]; exact hk q h1 h2,
    ⟨Nat.le_trans hS.1 (by rw [e1]; exact hz), fun q h1 h2 => by rw [e1, hk q (Nat.lt_of_lt_of_le h1 hS.1) (fun z => h2 (hA q (Nat.lt_of_lt_of_le h1 hS.1) z))]; exact hS.2.1 q h1 h2, fun q hq => by
      rcases List.mem_append.mp hq with h | h
      · exact hS.2.2 q h
      · exact hf _ (hL q h)⟩⟩
theorem vx_calli {S SX : Type} {post : Int32 → S → Prop} {px : SX → Prop} {B : S → State → Prop} {BX : String → SX → State → Prop} {AX : Nat → Prop} (hr : vx_Run p l e R s m args below meth c H locs cells slots mc ms (F0 m pc ls st0) rest (va_Qi post B A1 a) (vx_X px BX AX) free) (hS : va_S A0 H0 H locs) (hA : ∀ q, q < H.size → A1 q → A0 q) (hf : ∀ q, free q → A0 q) (hAX : ∀ q, q < H.size → AX q → A0 q)
    (kx : ∀ (E : String) (ce : Cell) (q9 : Addr) (u : SX) (t : State) (H1 : Heap) (locs1 : List Loc), t.heap = H1 → s.vm.Alike t.vm → px u → BX E u t → H.size ≤ H1.size → (∀ q : Nat, q < H.size → ¬ AX q → H1[q]? = H[q]?) → va_S A0 H0 H1 locs1 → H1[q9]? = some ce → ce.vm = .none → s.vm.findClass E = some ce.cls → vx_W p l e R s m args below meth c H1 locs1 (cells + mc) (slots + ms) Q (F0 m pc ls rest) q9)
    (kk : ∀ (r : Int32) (u : S) (t : State) (H1 : Heap) (locs1 : List Loc), t.heap = H1 → s.vm.Alike t.vm → post r u → B u t → H.size ≤ H1.size → (∀ q : Nat, q < H.size → ¬ A1 q → H1[q]? = H[q]?) → va_S A0 H0 H1 locs1 → W p l e R s m args below meth c H1 locs1 (cells + mc) (slots + ms) Q (F0 m (pc + 3) ls (.int r :: rest))) : W p l e R s m args below meth c H locs cells slots Q (F0 m pc ls st0) := by
  intro T hT X
  rcases hr T hT X with ⟨v, st₀, t, T', L, h0, X', hL, e1, e2, ⟨⟨r, u, hv, hp, hb⟩, hF⟩, st⟩ | ⟨q, st₀, t, T', L, E, ce, h0, X', hL, e1, e2, ⟨u, hp, hb, hF⟩, hce, hcv, hcl, st⟩
  · cases hv
    obtain ⟨k1, k2, k3⟩ := vx_keep h0 e1 hS hA hf hL hF
    obtain ⟨t2, a1, b1⟩ := kk r u t T'.heap (locs ++ L) e1.symm (by rw [← e2]; exact X'.warmed.alike) hp hb k1 k2 k3 T' rfl X'
    exact ⟨t2, st t2 a1, b1⟩
  · obtain ⟨k1, k2, k3⟩ := vx_keep h0 e1 hS hAX hf hL hF
    obtain ⟨t2, a1, b1⟩ := kx E ce q u t T'.heap (locs ++ L) e1.symm (by rw [← e2]; exact X'.warmed.alike) hp hb k1 k2 k3 (by rw [e1]; exact hce) hcv hcl T' rfl X'
    exact ⟨t2, st.trans a1, b1⟩
theorem vx_calll {S SX : Type} {post : Int64 → S → Prop} {px : SX → Prop} {B : S → State → Prop} {BX : String → SX → State → Prop} {AX : Nat → Prop} (hr : vx_Run p l e R s m args below meth c H locs cells slots mc ms (F0 m pc ls st0) rest (va_Ql post B A1 a) (vx_X px BX AX) free) (hS : va_S A0 H0 H locs) (hA : ∀ q, q < H.size → A1 q → A0 q) (hf : ∀ q, free q → A0 q) (hAX : ∀ q, q < H.size → AX q → A0 q)
    (kx : ∀ (E : String) (ce : Cell) (q9 : Addr) (u : SX) (t : State) (H1 : Heap) (locs1 : List Loc), t.heap = H1 → s.vm.Alike t.vm → px u → BX E u t → H.size ≤ H1.size → (∀ q : Nat, q < H.size → ¬ AX q → H1[q]? = H[q]?) → va_S A0 H0 H1 locs1 → H1[q9]? = some ce → ce.vm = .none → s.vm.findClass E = some ce.cls → vx_W p l e R s m args below meth c H1 locs1 (cells + mc) (slots + ms) Q (F0 m pc ls rest) q9)
    (kk : ∀ (r : Int64) (u : S) (t : State) (H1 : Heap) (locs1 : List Loc), t.heap = H1 → s.vm.Alike t.vm → post r u → B u t → H.size ≤ H1.size → (∀ q : Nat, q < H.size → ¬ A1 q → H1[q]? = H[q]?) → va_S A0 H0 H1 locs1 → W p l e R s m args below meth c H1 locs1 (cells + mc) (slots + ms) Q (F0 m (pc + 3) ls (.long r :: rest))) : W p l e R s m args below meth c H locs cells slots Q (F0 m pc ls st0) := by
  intro T hT X
  rcases hr T hT X with ⟨v, st₀, t, T', L, h0, X', hL, e1, e2, ⟨⟨r, u, hv, hp, hb⟩, hF⟩, st⟩ | ⟨q, st₀, t, T', L, E, ce, h0, X', hL, e1, e2, ⟨u, hp, hb, hF⟩, hce, hcv, hcl, st⟩
  · cases hv
    obtain ⟨k1, k2, k3⟩ := vx_keep h0 e1 hS hA hf hL hF
    obtain ⟨t2, a1, b1⟩ := kk r u t T'.heap (locs ++ L) e1.symm (by rw [← e2]; exact X'.warmed.alike) hp hb k1 k2 k3 T' rfl X'
    exact ⟨t2, st t2 a1, b1⟩
  · obtain ⟨k1, k2, k3⟩ := vx_keep h0 e1 hS hAX hf hL hF
    obtain ⟨t2, a1, b1⟩ := kx E ce q u t T'.heap (locs ++ L) e1.symm (by rw [← e2]; exact X'.warmed.alike) hp hb k1 k2 k3 (by rw [e1]; exact hce) hcv hcl T' rfl X'
    exact ⟨t2, st.trans a1, b1⟩
theorem vx_callf {S SX : Type} {post : UInt32 → S → Prop} {px : SX → Prop} {B : S → State → Prop} {BX : String → SX → State → Prop} {AX : Nat → Prop} (hr : vx_Run p l e R s m args below meth c H locs cells slots mc ms (F0 m pc ls st0) rest (va_Qf post B A1 a) (vx_X px BX AX) free) (hS : va_S A0 H0 H locs) (hA : ∀ q, q < H.size → A1 q → A0 q) (hf : ∀ q, free q → A0 q) (hAX : ∀ q, q < H.size → AX q → A0 q)
    (kx : ∀ (E : String) (ce : Cell) (q9 : Addr) (u : SX) (t : State) (H1 : Heap) (locs1 : List Loc), t.heap = H1 → s.vm.Alike t.vm → px u → BX E u t → H.size ≤ H1.size → (∀ q : Nat, q < H.size → ¬ AX q → H1[q]? = H[q]?) → va_S A0 H0 H1 locs1 → H1[q9]? = some ce → ce.vm = .none → s.vm.findClass E = some ce.cls → vx_W p l e R s m args below meth c H1 locs1 (cells + mc) (slots + ms) Q (F0 m pc ls rest) q9)
    (kk : ∀ (r : UInt32) (u : S) (t : State) (H1 : Heap) (locs1 : List Loc), t.heap = H1 → s.vm.Alike t.vm → post r u → B u t → H.size ≤ H1.size → (∀ q : Nat, q < H.size → ¬ A1 q → H1[q]? = H[q]?) → va_S A0 H0 H1 locs1 → W p l e R s m args below meth c H1 locs1 (cells + mc) (slots + ms) Q (F0 m (pc + 3) ls (.float r :: rest))) : W p l e R s m args below meth c H locs cells slots Q (F0 m pc ls st0) := by
  intro T hT X
  rcases hr T hT X with ⟨v, st₀, t, T', L, h0, X', hL, e1, e2, ⟨⟨r, u, hv, hp, hb⟩, hF⟩, st⟩ | ⟨q, st₀, t, T', L, E, ce, h0, X', hL, e1, e2, ⟨u, hp, hb, hF⟩, hce, hcv, hcl, st⟩
  · cases hv
    obtain ⟨k1, k2, k3⟩ := vx_keep h0 e1 hS hA hf hL hF
    obtain ⟨t2, a1, b1⟩ := kk r u t T'.heap (locs ++ L) e1.symm (by rw [← e2]; exact X'.warmed.alike) hp hb k1 k2 k3 T' rfl X'
    exact ⟨t2, st t2 a1, b1⟩
  · obtain ⟨k1, k2, k3⟩ := vx_keep h0 e1 hS hAX hf hL hF
    obtain ⟨t2, a1, b1⟩ := kx E ce q u t T'.heap (locs ++ L) e1.symm (by rw [← e2]; exact X'.warmed.alike) hp hb k1 k2 k3 (by rw [e1]; exact hce) hcv hcl T' rfl X'
    exact ⟨t2, st.trans a1, b1⟩
theorem vx_calld {S SX : Type} {post : UInt64 → S → Prop} {px : SX → Prop} {B : S → State → Prop} {BX : String → SX → State → Prop} {AX : Nat → Prop} (hr : vx_Run p l e R s m args below meth c H locs cells slots mc ms (F0 m pc ls st0) rest (va_Qd post B A1 a) (vx_X px BX AX) free) (hS : va_S A0 H0 H locs) (hA : ∀ q, q < H.size → A1 q → A0 q) (hf : ∀ q, free q → A0 q) (hAX : ∀ q, q < H.size → AX q → A0 q)
    (kx : ∀ (E : String) (ce : Cell) (q9 : Addr) (u : SX) (t : State) (H1 : Heap) (locs1 : List Loc), t.heap = H1 → s.vm.Alike t.vm → px u → BX E u t → H.size ≤ H1.size → (∀ q : Nat, q < H.size → ¬ AX q → H1[q]? = H[q]?) → va_S A0 H0 H1 locs1 → H1[q9]? = some ce → ce.vm = .none → s.vm.findClass E = some ce.cls → vx_W p l e R s m args below meth c H1 locs1 (cells + mc) (slots + ms) Q (F0 m pc ls rest) q9)
    (kk : ∀ (r : UInt64) (u : S) (t : State) (H1 : Heap) (locs1 : List Loc), t.heap = H1 → s.vm.Alike t.vm → post r u → B u t → H.size ≤ H1.size → (∀ q : Nat, q < H.size → ¬ A1 q → H1[q]? = H[q]?) → va_S A0 H0 H1 locs1 → W p l e R s m args below meth c H1 locs1 (cells + mc) (slots + ms) Q (F0 m (pc + 3) ls (.double r :: rest))) : W p l e R s m args below meth c H locs cells slots Q (F0 m pc ls st0) := by
  intro T hT X
  rcases hr T hT X with ⟨v, st₀, t, T', L, h0, X', hL, e1, e2, ⟨⟨r, u, hv, hp, hb⟩, hF⟩, st⟩ | ⟨q, st₀, t, T', L, E, ce, h0, X', hL, e1, e2, ⟨u, hp, hb, hF⟩, hce, hcv, hcl, st⟩
  · cases hv
    obtain ⟨k1, k2, k3⟩ := vx_keep h0 e1 hS hA hf hL hF
    obtain ⟨t2, a1, b1⟩ := kk r u t T'.heap (locs ++ L) e1.symm (by rw [← e2]; exact X'.warmed.alike) hp hb k1 k2 k3 T' rfl X'
    exact ⟨t2, st t2 a1, b1⟩
  · obtain ⟨k1, k2, k3⟩ := vx_keep h0 e1 hS hAX hf hL hF
    obtain ⟨t2, a1, b1⟩ := kx E ce q u t T'.heap (locs ++ L) e1.symm (by rw [← e2]; exact X'.warmed.alike) hp hb k1 k2 k3 (by rw [e1]; exact hce) hcv hcl T' rfl X'
    exact ⟨t2, st.trans a1, b1⟩
theorem vx_callv {S SX : Type} {post : S → Prop} {px : SX → Prop} {B : S → State → Prop} {BX : String → SX → State → Prop} {AX : Nat → Prop} (hr : vx_Run p l e R s m args below meth c H locs cells slots mc ms (F0 m pc ls st0) rest (va_Qv post B A1 a) (vx_X px BX AX) free) (hS : va_S A0 H0 H locs) (hA : ∀ q, q < H.size → A1 q → A0 q) (hf : ∀ q, free q → A0 q) (hAX : ∀ q, q < H.size → AX q → A0 q)
    (kx : ∀ (E : String) (ce : Cell) (q9 : Addr) (u : SX) (t : State) (H1 : Heap) (locs1 : List Loc), t.heap = H1 → s.vm.Alike t.vm → px u → BX E u t → H.size ≤ H1.size → (∀ q : Nat, q < H.size → ¬ AX q → H1[q]? = H[q]?) → va_S A0 H0 H1 locs1 → H1[q9]? = some ce → ce.vm = .none → s.vm.findClass E = some ce.cls → vx_W p l e R s m args below meth c H1 locs1 (cells + mc) (slots + ms) Q (F0 m pc ls rest) q9)
    (kk : ∀ (u : S) (t : State) (H1 : Heap) (locs1 : List Loc), t.heap = H1 → s.vm.Alike t.vm → post u → B u t → H.size ≤ H1.size → (∀ q : Nat, q < H.size → ¬ A1 q → H1[q]? = H[q]?) → va_S A0 H0 H1 locs1 → W p l e R s m args below meth c H1 locs1 (cells + mc) (slots + ms) Q (F0 m (pc + 3) ls (rest))) : W p l e R s m args below meth c H locs cells slots Q (F0 m pc ls st0) := by
  intro T hT X
  rcases hr T hT X with ⟨v, st₀, t, T', L, h0, X', hL, e1, e2, ⟨⟨u, hv, hp, hb⟩, hF⟩, st⟩ | ⟨q, st₀, t, T', L, E, ce, h0, X', hL, e1, e2, ⟨u, hp, hb, hF⟩, hce, hcv, hcl, st⟩
  · cases hv
    obtain ⟨k1, k2, k3⟩ := vx_keep h0 e1 hS hA hf hL hF
    obtain ⟨t2, a1, b1⟩ := kk u t T'.heap (locs ++ L) e1.symm (by rw [← e2]; exact X'.warmed.alike) hp hb k1 k2 k3 T' rfl X'
    exact ⟨t2, st t2 a1, b1⟩
  · obtain ⟨k1, k2, k3⟩ := vx_keep h0 e1 hS hAX hf hL hF
    obtain ⟨t2, a1, b1⟩ := kx E ce q u t T'.heap (locs ++ L) e1.symm (by rw [← e2]; exact X'.warmed.alike) hp hb k1 k2 k3 (by rw [e1]; exact hce) hcv hcl T' rfl X'
    exact ⟨t2, st.trans a1, b1⟩
/-- caught by the row x of this method's table; the rows ahead don't take it -/
theorem vx_catch {own name : String} {E : String} {ce : Cell} {q : Addr} (hown : s.vm.findClass own = some m.cls) (pre : List ExceptionTableEntry) (x : ExceptionTableEntry) (suf : List ExceptionTableEntry) (hsplit : c.exceptionTable.toList = pre ++ x :: suf)
    (hpass : ∀ z ∈ pre, covers z pc = false ∨ (z.catchType ≠ 0 ∧ ∃ nm : String, (Cond.classLink own z.catchType nm).before args s = true ∧ va_Nc E nm s)) (hx : covers x pc = true) (h0 : x.catchType ≠ 0)
    (hlink : (Cond.classLink own x.catchType name).before args s = true) (hcast : (Cond.castable E name).before args s = true) (hcell : H[q]? = some ce) (hv : ce.vm = .none) (hcl : s.vm.findClass E = some ce.cls)
    (kk : W p l e R s m args below meth c H locs cells slots Q (F0 m x.handlerPc ls [.ref q])) : vx_W p l e R s m args below meth c H locs cells slots Q (F0 m pc ls rest) q := by
  intro T hT X
  have hpl : e.platform.magicAccessors = ({} : Platform).magicAccessors := by rw [X.admits.platform]
  obtain ⟨c3, c4, hc3, hc4, hasg⟩ := Cond.castable_spec hcast
  cases Option.some.inj (hc3.symm.trans hcl)
  obtain ⟨c5, hc5, hcl5⟩ := Cond.classLink_spec hown hlink e.platform hpl
  cases Option.some.inj (hc4.symm.trans hc5)
  obtain ⟨vm', X', st⟩ := X.thenCaughtThrough q (g := F0 m pc ls rest) rfl (Steps.refl _) (by rw [hT]; exact hcell) (by rw [hv]; rfl) (by obtain ⟨k9, h9, -⟩ := Vm.findClass_spec hcl; exact ⟨k9, h9⟩) pre x suf hsplit
    (fun z hz => by
      rcases hpass z hz with h | ⟨hz0, nm, hl1, hn1⟩
      · exact Or.inl h
      · obtain ⟨c6, hc6, hcl6⟩ := Cond.classLink_spec hown hl1 e.platform hpl
        obtain ⟨a8, b8, h1, h2, h3⟩ := hn1
        cases Option.some.inj (h1.symm.trans hcl)
        cases Option.some.inj (h2.symm.trans hc6)
        exact Or.inr ⟨hz0, _, hcl6, h3⟩) hx (Or.inr ⟨h0, c4, hcl5, hasg⟩)
  obtain ⟨t, a1, b1⟩ := kk (T.setVm vm') hT X'
  exact ⟨t, st.trans a1, b1⟩
end Rows
section Ends
variable {p : Program} {l : Launch} {e : Env} {R : Room} {s : State} {m : MethodId} {args : Array Value} {below : List Frame} {meth : Method} {c : Code} {H : Heap} {locs : List Loc} {cells slots : Nat} {Q : State → Prop}
variable {mc ms : Nat} {free : Addr → Prop} {A0 A1 : Nat → Prop} {H0 : Heap} {a : Array Value} {ls : Array Slot} {st0 rest : List Value}
variable {Qc : Array Value → State → Outcome → State → Prop} {XC : String → State → State → Prop}
/-- what a body that may throw owes at its end -/
def vx_MQ (below : List Frame) (Qc : Array Value → State → Outcome → State → Prop) (XC : String → State → State → Prop) (a : Array Value) (s : State) (mc ms : Nat) (free : Addr → Prop) : State → Prop := fun t =>
  ∃ o, t.status = .running ∧ Ended t below o ∧ vx_Q Qc XC mc ms free a s o t
theorem vx_ret {g : JFrame} {mc ms : Nat} (k : W p l e R s m args below meth c H locs cells slots (MQ below Qc args s mc ms free) g) : W p l e R s m args below meth c H locs cells slots (vx_MQ below Qc XC args s mc ms free) g := by
  intro T hT X
  obtain ⟨t, a1, o, b1, b2, b3, b4⟩ := k T hT X
  exact ⟨t, a1, o, b1, b2, Or.inl ⟨b3, b4⟩⟩
/-- not caught here: it goes on to the caller -/
theorem vx_widen {g : JFrame} {q : Addr} {k n : Nat} (h1 : cells ≤ k) (h2 : slots ≤ n) (kk : vx_W p l e R s m args below meth c H locs k n Q g q) : vx_W p l e R s m args below meth c H locs cells slots Q g q := fun T hT X => kk T hT (stand_widen X h1 h2)
theorem vx_out {pc : Nat} {E : String} {ce : Cell} {q : Addr} {mc ms : Nat} (hout : ∀ x ∈ c.exceptionTable.toList, covers x pc = false) (hlocks : meth.locks = false) (hcell : H[q]? = some ce) (hv : ce.vm = .none) (hcl : s.vm.findClass E = some ce.cls)
    (hx : ∀ t : State, t.heap = H → s.vm.Alike t.vm → XC E s t) (hf : ∀ z ∈ locs, free z.base) (hc : cells ≤ mc) (hs : slots ≤ ms) :
    vx_W p l e R s m args below meth c H locs cells slots (vx_MQ below Qc XC args s mc ms free) (F0 m pc ls rest) q := by
  intro T hT X
  obtain ⟨st1, hrun, hend, hW, hsm⟩ := X.leaveThrown q (g := F0 m pc ls rest) rfl rfl rfl hout hlocks
  have hcell9 : (T.setFrames (.throwing q :: below)).heap[q]? = some ce := by
    show T.heap[q]? = some ce
    rw [hT]; exact hcell
  exact ⟨_, st1, .threw q, hrun, hend, Or.inr ⟨q, rfl, E, ce, locs, hx _ hT hW.alike, hcell9, hv, hcl, hW, hsm.mono hc hs, hf⟩⟩
theorem vx_frame {U : State} {k n : Nat} (h : s.sameButNew ({ U with vm := s.vm } : State) locs k n) : s.heap.size ≤ U.heap.size ∧ ∀ q : Nat, q < s.heap.size → (∀ z ∈ locs, z.base ≠ q) → U.heap[q]? = s.heap[q]? := by
  obtain ⟨-, h2, -, -, -, h6⟩ := h
  refine ⟨h2, fun q hq hz => ?_⟩
  obtain ⟨c9, e1, e2, e3, e4⟩ := h6 q _ (Array.getElem?_eq_getElem hq)
  have hs : c9.slots = (s.heap[q]).slots := Array.ext_getElem? fun i => e4 i fun hm => hz _ hm rfl
  have h9 : c9 = s.heap[q] := by
    rw [hs] at e2
    exact e2
  have e5 : U.heap[q]? = some c9 := e1
  rw [e5, h9, Array.getElem?_eq_getElem hq]
/-- the words of a throw but the four that speak of the heap -/
def vx_no (w : Cond) : Bool := decide (w ≠ .isRef (.static Bundle.tN "UNASSIGNED_STACK" Bundle.steD)) && decide (w ≠ .isRef (.static Bundle.tN "SUPPRESSED_SENTINEL" Bundle.listD)) && decide (w ≠ .laysStatic Bundle.tN "UNASSIGNED_STACK" Bundle.steD) && decide (w ≠ .laysStatic Bundle.tN "SUPPRESSED_SENTINEL" Bundle.listD)
def vx_at0 (own : String) (ic : Nat) (X : String) (names : List String) : List Cond := (Bundle.ownAtoms0 own ic X names).filter vx_no
def vx_atS (own : String) (ic : Nat) (X : String) (names : List String) : List Cond := (Bundle.ownAtoms own ic X names).filter vx_no
/-- a word that the tables alone decide, or a good one -/
def vx_ot (w : Cond) : Bool := w.onTables || goodWord w
theorem vx_ot_at {args a' : Array Value} {s U : State} {w : Cond} (hW : s.WarmedH U.vm) (hvm : s.vm = U.vm) (hg : vx_ot w = true) (h : w.before args s = true) : w.before a' U = true := by
  simp only [vx_ot, Bool.or_eq_true] at hg
  rcases hg with hg | hg
  · exact va_tabs hg hvm h
  · exact word_at hW (good_of_word hg) h
/-- a list's words: the good ones out of the method's own list, the others by premises of their own -/
theorem vx_hat {args : Array Value} {s : State} {L B : List Cond} (h1 : ∀ w ∈ L.filter goodWord, w.before args s = true) (h2 : ∀ w ∈ L.filter (fun w => !goodWord w), w ∈ B) (h3 : ∀ w ∈ B, w.before args s = true) : ∀ w ∈ L, w.before args s = true := by
  intro w hw
  by_cases g : goodWord w = true
  · exact h1 w (List.mem_filter.mpr ⟨hw, g⟩)
  · refine h3 w (h2 w (List.mem_filter.mpr ⟨hw, ?_⟩))
    show (!goodWord w) = true
    cases hgw : goodWord w
    · rfl
    · exact absurd hgw g
theorem vx_c {args : Array Value} {s : State} {w : Cond} {B : List Cond} (h : w.before args s = true) (t : ∀ w ∈ B, w.before args s = true) : ∀ w' ∈ w :: B, w'.before args s = true := fun w' h' => (List.mem_cons.mp h').elim (fun e => by rw [e]; exact h) (t w')
theorem vx_n {args : Array Value} {s : State} : ∀ w ∈ ([] : List Cond), w.before args s = true := fun _ h => nomatch h
theorem vx_own {args : Array Value} {s : State} {L : List Cond} (h1 : ∀ w ∈ L.filter vx_no, w.before args s = true)
    (hU : (Cond.isRef (.static Bundle.tN "UNASSIGNED_STACK" Bundle.steD)).before args s = true) (hN : (Cond.isRef (.static Bundle.tN "SUPPRESSED_SENTINEL" Bundle.listD)).before args s = true)
    (lU : (Cond.laysStatic Bundle.tN "UNASSIGNED_STACK" Bundle.steD).before args s = true) (lN : (Cond.laysStatic Bundle.tN "SUPPRESSED_SENTINEL" Bundle.listD).before args s = true) : ∀ w ∈ L, w.before args s = true := by
  intro w hw
  by_cases e1 : w = .isRef (.static Bundle.tN "UNASSIGNED_STACK" Bundle.steD)
  · rw [e1]; exact hU
  · by_cases e2 : w = .isRef (.static Bundle.tN "SUPPRESSED_SENTINEL" Bundle.listD)
    · rw [e2]; exact hN
    · by_cases e3 : w = .laysStatic Bundle.tN "UNASSIGNED_STACK" Bundle.steD
      · rw [e3]; exact lU
      · by_cases e4 : w = .laysStatic Bundle.tN "SUPPRESSED_SENTINEL" Bundle.listD
        · rw [e4]; exact lN
        · exact h1 w (List.mem_filter.mpr ⟨hw, by unfold vx_no; rw [decide_eq_true e1, decide_eq_true e2, decide_eq_true e3, decide_eq_true e4]; rfl⟩)
/-- where a static field lies, its class's statics cell in H -/
def vx_L (C n d : String) (A : Nat → Prop) (U : State) (H : Heap) : Prop := ∃ (c : ClassId) (k : Class) (i : Nat) (f : Field) (a : Nat) (cell : Cell), U.vm.findClass C = some c ∧ U.fieldFound? C n d = some (c, k, i, f) ∧ f.isStatic = true ∧ k.statics = some a ∧ H[a]? = some cell ∧ cell.vm.isStatics = true ∧ cell.cls = c ∧ f.slot < cell.slots.size ∧ k.staticTypes[f.slot]? = some f.type ∧ ¬ A a
theorem vx_L.moved {C n d : String} {A : Nat → Prop} {u U : State} {H : Heap} (hvm : u.vm.Alike U.vm) (h : vx_L C n d A u H) : vx_L C n d A U H := by
  obtain ⟨c, k, i, f, a, cell, h1, h2, h3, h4, h5, h6, h7, h8, h9, h10⟩ := h
  obtain ⟨k', hi', he⟩ := State.fieldFound?_setVm hvm h2
  exact ⟨c, k', i, f, a, cell, by rw [hvm.findClass]; exact h1, hi', h3, by rw [he]; exact h4, h5, h6, h7, h8, by rw [he]; exact h9, h10⟩
theorem vx_L.kept {C n d : String} {A : Nat → Prop} {U : State} {H H1 : Heap} (h : vx_L C n d A U H) (hq : ∀ a : Nat, a < H.size → ¬ A a → H1[a]? = H[a]?) : vx_L C n d A U H1 := by
  obtain ⟨c, k, i, f, a, cell, h1, h2, h3, h4, h5, h6, h7, h8, h9, h10⟩ := h
  exact ⟨c, k, i, f, a, cell, h1, h2, h3, h4, by rw [hq a (Array.getElem?_eq_some_iff.mp h5).1 h10]; exact h5, h6, h7, h8, h9, h10⟩
theorem vx_L.narrow {C n d : String} {A B : Nat → Prop} {U : State} {H : Heap} (h : vx_L C n d A U H) (hAB : ∀ q, B q → A q) : vx_L C n d B U H := by
  obtain ⟨c, k, i, f, a, cell, h1, h2, h3, h4, h5, h6, h7, h8, h9, h10⟩ := h
  exact ⟨c, k, i, f, a, cell, h1, h2, h3, h4, h5, h6, h7, h8, h9, fun z => h10 (hAB _ z)⟩
theorem vx_L.word {C n d : String} {A : Nat → Prop} {s : State} {args : Array Value} (h : vx_L C n d A s s.heap) : (Cond.laysStatic C n d).before args s = true := by
  obtain ⟨c, k, i, f, a, cell, h1, h2, h3, h4, h5, h6, h7, h8, h9, -⟩ := h
  show (Cond.laysStatic C n d).holds args s none s [] = true
  exact Cond.laysStatic_of h1 h2 h3 h4 h5 h6 h7 h8 h9
/-- .. and what it holds: null or some reference -/
def vx_Zq (C n d : String) (A : Nat → Prop) (U : State) (H : Heap) : Prop := va_Zq C n d A U H ∧ vx_L C n d A U H
theorem vx_Zq.moved {C n d : String} {A : Nat → Prop} {u U : State} {H : Heap} (hvm : u.vm.Alike U.vm) (h : vx_Zq C n d A u H) : vx_Zq C n d A U H := ⟨va_Zq.moved hvm h.1, vx_L.moved hvm h.2⟩
theorem vx_Zq.kept {C n d : String} {A : Nat → Prop} {U : State} {H H1 : Heap} (h : vx_Zq C n d A U H) (hq : ∀ a : Nat, a < H.size → ¬ A a → H1[a]? = H[a]?) : vx_Zq C n d A U H1 := ⟨va_Zq.kept h.1 hq, vx_L.kept h.2 hq⟩
theorem vx_Zq.narrow {C n d : String} {A B : Nat → Prop} {U : State} {H : Heap} (h : vx_Zq C n d A U H) (hAB : ∀ q, B q → A q) : vx_Zq C n d B U H := ⟨va_Zq.narrow h.1 hAB, vx_L.narrow h.2 hAB⟩
theorem vx_Zqof {args : Array Value} {s : State} {C n d : String} {A : Nat → Prop} (hl : (Cond.laysStatic C n d).before args s = true) (hini : (Cond.initialized C).before args s = true) (h : (Cond.isRef (.static C n d)).before args s = true) (hA : ∀ a : Nat, a < s.heap.size → ¬ A a) : vx_Zq C n d A s s.heap := by
  refine ⟨va_Zqof hl hini h hA, ?_⟩
  obtain ⟨c, k, i, f, a, cell, h1, h2, h3, h4, h5, h6, h7, h8, h9⟩ := Cond.laysStatic_spec hl
  exact ⟨c, k, i, f, a, cell, h1, h2, h3, h4, h5, h6, h7, h8, h9, hA a (Array.getElem?_eq_some_iff.mp h5).1⟩
theorem vx_isRef {C n d : String} {v : Value} {A : Nat → Prop} {s : State} {args : Array Value} (h : va_Z C n d v A s s.heap) (hv : v.isRef = true) : (Cond.isRef (.static C n d)).before args s = true := by
  obtain ⟨cf, kf, fi, f, a, cell, h1, h2, h3, h4, h5, h6, h7, -⟩ := h
  have he : (Term.static C n d).eval args s none [] s = some v := by
    simp [Term.eval, State.fieldNamed?, h1, h2, h4, h5, h6, h7]
  simp only [Cond.before, Cond.holds, Cond.value, he]
  cases v <;> simp_all [Value.isRef]
theorem vx_isRefq {C n d : String} {A : Nat → Prop} {s : State} {args : Array Value} (h : va_Zq C n d A s s.heap) : (Cond.isRef (.static C n d)).before args s = true := by
  rcases h with h | ⟨t, h⟩
  · exact vx_isRef h rfl
  · exact vx_isRef h rfl
/-- the same frame, seen from here: as if the method were called anew in this heap -/
theorem vx_rebase {T : State} (X : Stand p l e R s m args below meth c T locs cells slots) {R' : Room} (hf : R'.frames ≤ R.frames) (hl : R'.locals ≤ R.locals) (hc : cells + R'.cells ≤ R.cells) (hs : slots + R'.slots ≤ R.slots) :
    Stand p l e R' ((T.setVm s.vm).setFrames (.invoking m args :: below)) m args below meth c T [] 0 0 := by
  have htop : (T.setVm s.vm).topJava?.isSome := X.here.top
  have hF : ((T.setVm s.vm).setFrames (.invoking m args :: below)).frames = .invoking m args :: below := State.frames_setFrames _ (State.cur_lt_of_top htop)
  obtain ⟨g₀, hg0⟩ := Option.isSome_iff_exists.mp htop
  obtain ⟨r, hr⟩ := State.topJava?_eq_some.mp hg0
  have hl9 : e.platform.stackLimits (T.setVm s.vm).me = e.platform.stackLimits s.me := X.limits
  have hb9 : (T.setVm s.vm).me.stackBytes = s.me.stackBytes := X.bytes
  refine ⟨X.admits, X.cas, X.clock, hF, ?_, X.hears, X.method, X.code, X.here, X.tail, X.warmed, ?_, ?_, ?_⟩
  · have h := X.room
    have hU : ((T.setVm s.vm).setFrames (.invoking m args :: below)).localsInUse = s.localsInUse := by
      rw [State.localsInUse_invoking hF (meth := meth) (c := c) X.method X.code, State.localsInUse_invoking X.frames X.method X.code]
    simp only [State.hasRoom, Bool.and_eq_true, decide_eq_true_eq] at h ⊢
    obtain ⟨⟨⟨⟨h1, h2, h3, h4, h5, h6⟩, h7⟩, h8⟩, h9⟩ := h
    rw [X.frames, List.length_cons] at h2 h3
    have q1 := X.heapSize
    have q2 := X.used
    simp only [hF, hU, List.length_cons, State.stackLimits_setFrames, State.stackBytes_setFrames, hl9, hb9]
    refine ⟨⟨⟨⟨by omega, by omega, by omega, by omega, by omega, h6⟩, ?_⟩, ?_⟩, X.book⟩
    · show T.heap.size + R'.cells ≤ e.platform.maxCells
      omega
    · show T.slotsUsed + R'.slots ≤ e.platform.maxSlots
      omega
  · rw [State.stackLimits_setFrames]; rfl
  · rw [State.stackBytes_setFrames]; rfl
  · refine ⟨?_, Nat.le_refl _, Nat.le_refl _, ?_, ?_, fun a c9 h9 => ⟨c9, h9, rfl, rfl, fun _ _ => rfl⟩⟩
    · obtain ⟨t, ht, -⟩ := State.frames_cons hr
      show T.setVm s.vm = { ((T.setVm s.vm).setFrames (.invoking m args :: below)).setFrames (T.setVm s.vm).frames with heap := T.heap, slotsUsed := T.slotsUsed }
      rw [State.setFrames_setFrames, State.setFrames_self ht]
      rfl
    · show T.slotsUsed = T.slotsUsed + ((T.heap.toList.drop T.heap.size).map (·.slots.size)).sum
      rw [List.drop_eq_nil_of_le (Nat.le_of_eq Array.length_toList)]
      rfl
    · show ((T.heap.toList.drop T.heap.size).map (·.slots.size)).sum ≤ 0
      rw [List.drop_eq_nil_of_le (Nat.le_of_eq Array.length_toList)]
      exact Nat.le_refl _
/-- 'throw new E()': new; dup; invokespecial; athrow -/
theorem vx_throw0 {cc : ByteArray} {pc : Nat} (hexec : p.tables.exec = Jvm.exec) (hb : c.code = cc) (hl : l.stackTraces = false) {own cls : String} {names : List String} {ik ic mc ms : Nat} {A : Nat → Prop}
    (hown : s.vm.findClass own = some m.cls) (hcls : Bundle.fit cls = true) (hnames : ∀ n ∈ names, Bundle.fit n = true)
    (hk : (Cond.classLink own ik cls).before args s = true) (hini : (Cond.initialized cls).before args s = true) (hat : ∀ w ∈ vx_at0 own ic cls names, w.before args s = true)
    (hgood : ∀ w ∈ Cond.classLink own ik cls :: Cond.initialized cls :: vx_at0 own ic cls names, vx_ot w = true)
    (hU : vx_Zq Bundle.tN "UNASSIGNED_STACK" Bundle.steD A s s.heap) (hN : vx_Zq Bundle.tN "SUPPRESSED_SENTINEL" Bundle.listD A s s.heap) (hS : va_S A s.heap H locs) (hsize : ls.size = c.maxLocals)
    (d0 : decode cc pc = .ok (.new ik, 3)) (d3 : decode cc (pc + 3) = .ok (.dup, 1)) (d4 : decode cc (pc + 4) = .ok (.invokespecial ic, 3)) (d7 : decode cc (pc + 7) = .ok (.athrow, 1))
    (hout : ∀ x ∈ c.exceptionTable.toList, covers x (pc + 7) = false)
    (hRframes : names.length + 3 < R.frames) (hRlocals : (rest.map fun v => v.category).sum + (13 * (names.length + 1) + 42) ≤ R.locals) (hRcells : cells + 1 ≤ R.cells) (hRslots : slots + 6 ≤ R.slots) (hlocks : meth.locks = false)
    (hx : ∀ t : State, s.vm.Alike t.vm → H.size ≤ t.heap.size → (∀ q : Nat, q < H.size → t.heap[q]? = H[q]?) → XC cls s t)
    (hf : ∀ z ∈ locs, free z.base) (hc : cells + 1 ≤ mc) (hs : slots + 6 ≤ ms) :
    W p l e R s m args below meth c H locs cells slots (vx_MQ below Qc XC args s mc ms free) (F0 m pc ls rest) := by
  intro T hT X
  have htr : e.platform.stackTraces = false := (show e.platform.stackTraces = l.stackTraces by rw [X.admits.platform]).trans hl
  have Y := vx_rebase X (R' := { frames := R.frames, locals := R.locals, cells := 1, slots := 6 }) (Nat.le_refl _) (Nat.le_refl _) hRcells hRslots
  obtain ⟨s', hA⟩ : ∃ z, z = (T.setVm s.vm).setFrames (.invoking m args :: below) := ⟨_, rfl⟩
  rw [← hA] at Y
  have hvm : s'.vm = s.vm := by rw [hA]; rfl
  have hhp : s'.heap = H := by rw [hA]; exact hT
  have hW0 : s.WarmedH s'.vm := by rw [hvm]; exact State.WarmedH.refl s
  have hat' : ∀ w ∈ vx_at0 own ic cls names, w.before args s' = true := fun w hw => vx_ot_at hW0 hvm.symm (hgood w (List.mem_cons_of_mem _ (List.mem_cons_of_mem _ hw))) (hat w hw)
  have hk' : (Cond.classLink own ik cls).before args s' = true := vx_ot_at hW0 hvm.symm (hgood _ List.mem_cons_self) hk
  have hini' : (Cond.initialized cls).before args s' = true := vx_ot_at hW0 hvm.symm (hgood _ (List.mem_cons_of_mem _ List.mem_cons_self)) hini
  have hU' : vx_Zq Bundle.tN "UNASSIGNED_STACK" Bundle.steD A s' s'.heap := by rw [hhp]; exact vx_Zq.moved hW0.alike (hU.kept hS.2.1)
  have hN' : vx_Zq Bundle.tN "SUPPRESSED_SENTINEL" Bundle.listD A s' s'.heap := by rw [hhp]; exact vx_Zq.moved hW0.alike (hN.kept hS.2.1)
  have h : ∀ w ∈ Bundle.ownAtoms0 own ic cls names, w.before args s' = true := vx_own hat' (vx_isRefq hU'.1) (vx_isRefq hN'.1) hU'.2.word hN'.2.word
  have hown' : s'.vm.findClass own = some m.cls := by rw [hvm]; exact hown
  have hins : (Cond.instantiable cls 6).before args s' = true := h _ (by simp [Bundle.ownAtoms0])
  obtain ⟨vm₁, cX, kX, hfX, hkX, -, -, X₁, st1⟩ := Y.newCold hexec (own := own) (C := cls) (index := ik) (n := 6) hown' hk' hins hini'
    (g := F0 m pc ls rest) rfl (by rw [hb]; exact d0) (Nat.le_refl _) (Nat.le_refl _)
  generalize hT1 : (T.setVm vm₁).pushCell { cls := cX, slots := kX.instanceTypes.map defaultValue, vm := .none } = T1 at X₁ st1
  have hcat : (Value.ref T.heap.size).category = 1 := rfl
  have hcellA : T1.heap[T.heap.size]? = some (freshCell cX kX) := by rw [← hT1]; exact State.heap_pushCell_size _ _
  have d3' : decode c.code (pc + 3) = .ok (.dup, 1) := by rw [hb]; exact d3
  obtain ⟨U, hsteps, hrun, hend, hW, hsame, ce, hce, hO⟩ := X₁.ctorThrow0 hexec htr (own := own) (cls := cls) (names := names) (ic := ic) hown' hcls hnames h (fun x hx => nomatch hx) hfX hkX hcellA (by rw [hhp, hT]; exact Nat.le_refl _)
    (g := { method := m, pc := pc + 4, locals := ls, stack := .ref T.heap.size :: .ref T.heap.size :: rest, locked := none }) rfl hsize rfl rfl (rest := rest) rfl
    (by rw [hb]; exact d4) (by rw [hb]; exact d7) hout hRframes (by simp only [List.map_cons, List.sum_cons, hcat]; omega) hlocks
  obtain ⟨f1, f2⟩ := vx_frame hsame
  rw [hhp] at f1 f2
  have hWs : s.WarmedH U.vm := State.WarmedH.trans hW0 hW
  have hcl : s.vm.findClass cls = some ce.cls := by
    have h9 := hO.cls
    rw [hvm] at h9
    exact h9
  have hall : s.sameButNew ({ U with vm := s.vm } : State) locs mc ms := by
    subst hA
    obtain ⟨e1, e2⟩ := hsame
    rw [State.setFrames_setFrames] at e1
    have h2 : (T.setVm s.vm).sameButNew ({ U with vm := s.vm } : State) [] (0 + 1) (0 + 6) := ⟨e1, e2⟩
    have h3 := X.same.trans h2
    rw [List.append_nil] at h3
    exact h3.mono hc hs
  refine ⟨U, ?_, .threw T.heap.size, hrun, hend, Or.inr ⟨T.heap.size, rfl, cls, ce, locs, hx U hWs.alike f1 (fun q hq => f2 q hq (fun z hz => nomatch hz)), hce, hO.vm, hcl, hWs, hall, hf⟩⟩
  refine st1 _ ?_
  show Steps p.tables e below (T1.setTop { method := m, pc := pc + 3, locals := ls, stack := .ref T.heap.size :: rest, locked := none }) _
  jvm_step X₁.here [X₁.here.top, hexec, d3', Value.category]
  exact hsteps
/-- 'throw new E("text")': new; dup; ldc; invokespecial; athrow -/
theorem vx_throwS {cc : ByteArray} {pc : Nat} (hexec : p.tables.exec = Jvm.exec) (hb : c.code = cc) (hl : l.stackTraces = false) {own cls text : String} {names : List String} {ik is ic mc ms sa : Nat} {A : Nat → Prop}
    (hown : s.vm.findClass own = some m.cls) (hcls : Bundle.fit cls = true) (hnames : ∀ n ∈ names, Bundle.fit n = true)
    (hk : (Cond.classLink own ik cls).before args s = true) (hini : (Cond.initialized cls).before args s = true) (hstr : vk_R own is text sa s) (hat : ∀ w ∈ vx_atS own ic cls names, w.before args s = true)
    (hgood : ∀ w ∈ Cond.classLink own ik cls :: Cond.initialized cls :: vx_atS own ic cls names, vx_ot w = true)
    (hU : vx_Zq Bundle.tN "UNASSIGNED_STACK" Bundle.steD A s s.heap) (hN : vx_Zq Bundle.tN "SUPPRESSED_SENTINEL" Bundle.listD A s s.heap) (hS : va_S A s.heap H locs) (hsize : ls.size = c.maxLocals)
    (d0 : decode cc pc = .ok (.new ik, 3)) (d3 : decode cc (pc + 3) = .ok (.dup, 1)) (d4 : decode cc (pc + 4) = .ok (.ldc is, 2)) (d6 : decode cc (pc + 6) = .ok (.invokespecial ic, 3)) (d9 : decode cc (pc + 9) = .ok (.athrow, 1))
    (hout : ∀ x ∈ c.exceptionTable.toList, covers x (pc + 9) = false)
    (hRframes : names.length + 3 < R.frames) (hRlocals : (rest.map fun v => v.category).sum + (13 * (names.length + 1) + 43) ≤ R.locals) (hRcells : cells + 1 ≤ R.cells) (hRslots : slots + 6 ≤ R.slots) (hlocks : meth.locks = false)
    (hx : ∀ t : State, s.vm.Alike t.vm → H.size ≤ t.heap.size → (∀ q : Nat, q < H.size → t.heap[q]? = H[q]?) → XC cls s t)
    (hf : ∀ z ∈ locs, free z.base) (hc : cells + 1 ≤ mc) (hs : slots + 6 ≤ ms) :
    W p l e R s m args below meth c H locs cells slots (vx_MQ below Qc XC args s mc ms free) (F0 m pc ls rest) := by
  intro T hT X
  have htr : e.platform.stackTraces = false := (show e.platform.stackTraces = l.stackTraces by rw [X.admits.platform]).trans hl
  have Y := vx_rebase X (R' := { frames := R.frames, locals := R.locals, cells := 1, slots := 6 }) (Nat.le_refl _) (Nat.le_refl _) hRcells hRslots
  obtain ⟨s', hA⟩ : ∃ z, z = (T.setVm s.vm).setFrames (.invoking m args :: below) := ⟨_, rfl⟩
  rw [← hA] at Y
  have hvm : s'.vm = s.vm := by rw [hA]; rfl
  have hhp : s'.heap = H := by rw [hA]; exact hT
  have hW0 : s.WarmedH s'.vm := by rw [hvm]; exact State.WarmedH.refl s
  have hat' : ∀ w ∈ vx_atS own ic cls names, w.before args s' = true := fun w hw => vx_ot_at hW0 hvm.symm (hgood w (List.mem_cons_of_mem _ (List.mem_cons_of_mem _ hw))) (hat w hw)
  have hk' : (Cond.classLink own ik cls).before args s' = true := vx_ot_at hW0 hvm.symm (hgood _ List.mem_cons_self) hk
  have hini' : (Cond.initialized cls).before args s' = true := vx_ot_at hW0 hvm.symm (hgood _ (List.mem_cons_of_mem _ List.mem_cons_self)) hini
  have hU' : vx_Zq Bundle.tN "UNASSIGNED_STACK" Bundle.steD A s' s'.heap := by rw [hhp]; exact vx_Zq.moved hW0.alike (hU.kept hS.2.1)
  have hN' : vx_Zq Bundle.tN "SUPPRESSED_SENTINEL" Bundle.listD A s' s'.heap := by rw [hhp]; exact vx_Zq.moved hW0.alike (hN.kept hS.2.1)
  have h : ∀ w ∈ Bundle.ownAtoms own ic cls names, w.before args s' = true := vx_own hat' (vx_isRefq hU'.1) (vx_isRefq hN'.1) hU'.2.word hN'.2.word
  have hown' : s'.vm.findClass own = some m.cls := by rw [hvm]; exact hown
  have hins : (Cond.instantiable cls 6).before args s' = true := h _ (by simp [Bundle.ownAtoms])
  obtain ⟨vm₁, cX, kX, hfX, hkX, -, -, X₁, st1⟩ := Y.newCold hexec (own := own) (C := cls) (index := ik) (n := 6) hown' hk' hins hini'
    (g := F0 m pc ls rest) rfl (by rw [hb]; exact d0) (Nat.le_refl _) (Nat.le_refl _)
  generalize hT1 : (T.setVm vm₁).pushCell { cls := cX, slots := kX.instanceTypes.map defaultValue, vm := .none } = T1 at X₁ st1
  have hcat : (Value.ref T.heap.size).category = 1 := rfl
  have hcellA : T1.heap[T.heap.size]? = some (freshCell cX kX) := by rw [← hT1]; exact State.heap_pushCell_size _ _
  have d3' : decode c.code (pc + 3) = .ok (.dup, 1) := by rw [hb]; exact d3
  have d4' : decode c.code (pc + 4) = .ok (.ldc is, 2) := by rw [hb]; exact d4
  have hstr' : vk_R own is text sa s' := vk_R.warm hW0 hstr
  obtain ⟨U, hsteps, hrun, hend, hW, hsame, ce, hce, hO⟩ := X₁.ctorThrowS hexec htr (own := own) (cls := cls) (names := names) (ic := ic) hown' hcls hnames h (fun x hx => nomatch hx) hfX hkX hcellA (by rw [hhp, hT]; exact Nat.le_refl _) (msg := .ref sa) rfl
    (g := { method := m, pc := pc + 6, locals := ls, stack := .ref sa :: .ref T.heap.size :: .ref T.heap.size :: rest, locked := none }) rfl hsize rfl rfl (rest := rest) rfl
    (by rw [hb]; exact d6) (by rw [hb]; exact d9) hout hRframes (by simp only [List.map_cons, List.sum_cons, hcat]; omega) hlocks
  obtain ⟨f1, f2⟩ := vx_frame hsame
  rw [hhp] at f1 f2
  have hWs : s.WarmedH U.vm := State.WarmedH.trans hW0 hW
  have hcl : s.vm.findClass cls = some ce.cls := by
    have h9 := hO.cls
    rw [hvm] at h9
    exact h9
  have hall : s.sameButNew ({ U with vm := s.vm } : State) locs mc ms := by
    subst hA
    obtain ⟨e1, e2⟩ := hsame
    rw [State.setFrames_setFrames] at e1
    have h2 : (T.setVm s.vm).sameButNew ({ U with vm := s.vm } : State) [] (0 + 1) (0 + 6) := ⟨e1, e2⟩
    have h3 := X.same.trans h2
    rw [List.append_nil] at h3
    exact h3.mono hc hs
  refine ⟨U, ?_, .threw T.heap.size, hrun, hend, Or.inr ⟨T.heap.size, rfl, cls, ce, locs, hx U hWs.alike f1 (fun q hq => f2 q hq (fun z hz => nomatch hz)), hce, hO.vm, hcl, hWs, hall, hf⟩⟩
  refine st1 _ ?_
  show Steps p.tables e below (T1.setTop { method := m, pc := pc + 3, locals := ls, stack := .ref T.heap.size :: rest, locked := none }) _
  jvm_step X₁.here [X₁.here.top, hexec, d3', Value.category]
  exact X₁.ldcString hexec (own := own) (text := text) (index := is) (a := sa) hown' hstr'.1 hstr'.2
    (g := { method := m, pc := pc + 4, locals := ls, stack := .ref T.heap.size :: .ref T.heap.size :: rest, locked := none }) rfl d4' _ hsteps
/-- 'throw new E("text")', the text by a wide index -/
theorem vx_throwSW {cc : ByteArray} {pc : Nat} (hexec : p.tables.exec = Jvm.exec) (hb : c.code = cc) (hl : l.stackTraces = false) {own cls text : String} {names : List String} {ik is ic mc ms sa : Nat} {A : Nat → Prop}
    (hown : s.vm.findClass own = some m.cls) (hcls : Bundle.fit cls = true) (hnames : ∀ n ∈ names, Bundle.fit n = true)
    (hk : (Cond.classLink own ik cls).before args s = true) (hini : (Cond.initialized cls).before args s = true) (hstr : vk_R own is text sa s) (hat : ∀ w ∈ vx_atS own ic cls names, w.before args s = true)
    (hgood : ∀ w ∈ Cond.classLink own ik cls :: Cond.initialized cls :: vx_atS own ic cls names, vx_ot w = true)
    (hU : vx_Zq Bundle.tN "UNASSIGNED_STACK" Bundle.steD A s s.heap) (hN : vx_Zq Bundle.tN "SUPPRESSED_SENTINEL" Bundle.listD A s s.heap) (hS : va_S A s.heap H locs) (hsize : ls.size = c.maxLocals)
    (d0 : decode cc pc = .ok (.new ik, 3)) (d3 : decode cc (pc + 3) = .ok (.dup, 1)) (d4 : decode cc (pc + 4) = .ok (.ldc_w is, 3)) (d7 : decode cc (pc + 7) = .ok (.invokespecial ic, 3)) (d10 : decode cc (pc + 10) = .ok (.athrow, 1))
    (hout : ∀ x ∈ c.exceptionTable.toList, covers x (pc + 10) = false)
    (hRframes : names.length + 3 < R.frames) (hRlocals : (rest.map fun v => v.category).sum + (13 * (names.length + 1) + 43) ≤ R.locals) (hRcells : cells + 1 ≤ R.cells) (hRslots : slots + 6 ≤ R.slots) (hlocks : meth.locks = false)
    (hx : ∀ t : State, s.vm.Alike t.vm → H.size ≤ t.heap.size → (∀ q : Nat, q < H.size → t.heap[q]? = H[q]?) → XC cls s t)
    (hf : ∀ z ∈ locs, free z.base) (hc : cells + 1 ≤ mc) (hs : slots + 6 ≤ ms) :
    W p l e R s m args below meth c H locs cells slots (vx_MQ below Qc XC args s mc ms free) (F0 m pc ls rest) := by
  intro T hT X
  have htr : e.platform.stackTraces = false := (show e.platform.stackTraces = l.stackTraces by rw [X.admits.platform]).trans hl
  have Y := vx_rebase X (R' := { frames := R.frames, locals := R.locals, cells := 1, slots := 6 }) (Nat.le_refl _) (Nat.le_refl _) hRcells hRslots
  obtain ⟨s', hA⟩ : ∃ z, z = (T.setVm s.vm).setFrames (.invoking m args :: below) := ⟨_, rfl⟩
  rw [← hA] at Y
  have hvm : s'.vm = s.vm := by rw [hA]; rfl
  have hhp : s'.heap = H := by rw [hA]; exact hT
  have hW0 : s.WarmedH s'.vm := by rw [hvm]; exact State.WarmedH.refl s
  have hat' : ∀ w ∈ vx_atS own ic cls names, w.before args s' = true := fun w hw => vx_ot_at hW0 hvm.symm (hgood w (List.mem_cons_of_mem _ (List.mem_cons_of_mem _ hw))) (hat w hw)
  have hk' : (Cond.classLink own ik cls).before args s' = true := vx_ot_at hW0 hvm.symm (hgood _ List.mem_cons_self) hk
  have hini' : (Cond.initialized cls).before args s' = true := vx_ot_at hW0 hvm.symm (hgood _ (List.mem_cons_of_mem _ List.mem_cons_self)) hini
  have hU' : vx_Zq Bundle.tN "UNASSIGNED_STACK" Bundle.steD A s' s'.heap := by rw [hhp]; exact vx_Zq.moved hW0.alike (hU.kept hS.2.1)
  have hN' : vx_Zq Bundle.tN "SUPPRESSED_SENTINEL" Bundle.listD A s' s'.heap := by rw [hhp]; exact vx_Zq.moved hW0.alike (hN.kept hS.2.1)
  have h : ∀ w ∈ Bundle.ownAtoms own ic cls names, w.before args s' = true := vx_own hat' (vx_isRefq hU'.1) (vx_isRefq hN'.1) hU'.2.word hN'.2.word
  have hown' : s'.vm.findClass own = some m.cls := by rw [hvm]; exact hown
  have hins : (Cond.instantiable cls 6).before args s' = true := h _ (by simp [Bundle.ownAtoms])
  obtain ⟨vm₁, cX, kX, hfX, hkX, -, -, X₁, st1⟩ := Y.newCold hexec (own := own) (C := cls) (index := ik) (n := 6) hown' hk' hins hini'
    (g := F0 m pc ls rest) rfl (by rw [hb]; exact d0) (Nat.le_refl _) (Nat.le_refl _)
  generalize hT1 : (T.setVm vm₁).pushCell { cls := cX, slots := kX.instanceTypes.map defaultValue, vm := .none } = T1 at X₁ st1
  have hcat : (Value.ref T.heap.size).category = 1 := rfl
  have hcellA : T1.heap[T.heap.size]? = some (freshCell cX kX) := by rw [← hT1]; exact State.heap_pushCell_size _ _
  have d3' : decode c.code (pc + 3) = .ok (.dup, 1) := by rw [hb]; exact d3
  have d4' : decode c.code (pc + 4) = .ok (.ldc_w is, 3) := by rw [hb]; exact d4
  have hstr' : vk_R own is text sa s' := vk_R.warm hW0 hstr
  obtain ⟨U, hsteps, hrun, hend, hW, hsame, ce, hce, hO⟩ := X₁.ctorThrowS hexec htr (own := own) (cls := cls) (names := names) (ic := ic) hown' hcls hnames h (fun x hx => nomatch hx) hfX hkX hcellA (by rw [hhp, hT]; exact Nat.le_refl _) (msg := .ref sa) rfl
    (g := { method := m, pc := pc + 7, locals := ls, stack := .ref sa :: .ref T.heap.size :: .ref T.heap.size :: rest, locked := none }) rfl hsize rfl rfl (rest := rest) rfl
    (by rw [hb]; exact d7) (by rw [hb]; exact d10) hout hRframes (by simp only [List.map_cons, List.sum_cons, hcat]; omega) hlocks
  obtain ⟨f1, f2⟩ := vx_frame hsame
  rw [hhp] at f1 f2
  have hWs : s.WarmedH U.vm := State.WarmedH.trans hW0 hW
  have hcl : s.vm.findClass cls = some ce.cls := by
    have h9 := hO.cls
    rw [hvm] at h9
    exact h9
  have hall : s.sameButNew ({ U with vm := s.vm } : State) locs mc ms := by
    subst hA
    obtain ⟨e1, e2⟩ := hsame
    rw [State.setFrames_setFrames] at e1
    have h2 : (T.setVm s.vm).sameButNew ({ U with vm := s.vm } : State) [] (0 + 1) (0 + 6) := ⟨e1, e2⟩
    have h3 := X.same.trans h2
    rw [List.append_nil] at h3
    exact h3.mono hc hs
  refine ⟨U, ?_, .threw T.heap.size, hrun, hend, Or.inr ⟨T.heap.size, rfl, cls, ce, locs, hx U hWs.alike f1 (fun q hq => f2 q hq (fun z hz => nomatch hz)), hce, hO.vm, hcl, hWs, hall, hf⟩⟩
  refine st1 _ ?_
  show Steps p.tables e below (T1.setTop { method := m, pc := pc + 3, locals := ls, stack := .ref T.heap.size :: rest, locked := none }) _
  jvm_step X₁.here [X₁.here.top, hexec, d3', Value.category]
  exact X₁.ldcStringW hexec (own := own) (text := text) (index := is) (a := sa) hown' hstr'.1 hstr'.2
    (g := { method := m, pc := pc + 4, locals := ls, stack := .ref T.heap.size :: .ref T.heap.size :: rest, locked := none }) rfl d4' _ hsteps
end Ends
section Bodies
variable {l : Launch}
theorem vx_ofW {y : MethodName} {ws ws' : List Cond} {rm : Room} {Pc : Array Value → State → Prop} {Qc : Array Value → State → Outcome → State → Prop} {XC : String → State → State → Prop} {mc ms : Nat} {free : Addr → Prop} {cc : ByteArray} {maxL : Nat} {ret : Option FieldType}
    (hy : plainName y.cls = true) (hw : ws = Cond.code y cc maxL ret :: ws')
    (body : ∀ p e s m args below meth c s₁, BodyLoose p l y (headSpec ws rm) cc maxL ret e s m args below meth c s₁ → c.maxLocals = maxL → (∀ x ∈ c.exceptionTable.toList, False) → Pc args s →
      W p l e (headSpec ws rm).room s m args below meth c s.heap [] 0 0 (vx_MQ below Qc XC args s mc ms free) (entryFrame m args maxL)) : vx_Met l y ws rm Pc Qc XC mc ms free := by
  refine MetFree.of_bodyS (code := cc) (maxLocals := maxL) (ret := ret) hy ?_ ?_
  · intro args s m h hn
    obtain ⟨meth, c, h1, h2, h3, h4, h5, h6, -, -⟩ := Cond.code_spec hn (atoms_spec (ws := ws) h _ (by rw [hw]; exact List.mem_cons_self))
    exact ⟨meth, c, h1, h2, h3, h4, h5, h6⟩
  · intro p e s m args below meth c s₁ B hml hP _
    have hh0 : s₁.heap = s.heap := by rw [B.state]; rfl
    have ht : ∀ x ∈ c.exceptionTable.toList, False := by
      obtain ⟨meth9, c9, h1, h2, -, -, -, -, h7, -⟩ := Cond.code_spec B.named (atoms_spec (ws := ws) B.pre _ (by rw [hw]; exact List.mem_cons_self))
      cases Option.some.inj (h1.symm.trans B.method)
      cases Option.some.inj (h2.symm.trans (Stand.of_body B).code)
      intro x hx
      rw [Array.isEmpty_iff.mp h7] at hx
      cases hx
    obtain ⟨t, a1, o, b1, b2, b3⟩ := body p e s m args below meth c s₁ B hml ht hP s₁ hh0 (Stand.of_body B)
    exact ⟨t, o, a1, b1, b2, b3⟩
/-- the table of a body with handlers -/
theorem vx_table {p : Program} {x y : MethodName} {S : Spec} {cc bytes : ByteArray} {maxL maxL' : Nat} {ret ret' : Option FieldType} {e : Env} {s s₁ : State} {m : MethodId} {args : Array Value} {below : List Frame} {meth : Method} {c : Code} {hh : List (Nat × Nat × Nat × Nat)}
    (B : BodyLoose p l y S cc maxL ret e s m args below meth c s₁) (h : (Cond.codeWith y bytes maxL' ret' hh).before args s = true) : c.exceptionTable.toList = tableOf hh := by
  obtain ⟨m9, meth9, c9, hn9, h1, h2, -, -, h6, -⟩ := Cond.codeWith_spec h
  cases Option.some.inj (hn9.symm.trans B.named)
  cases Option.some.inj (h1.symm.trans B.method)
  cases Option.some.inj (h2.symm.trans (Stand.of_body B).code)
  rw [← h6, table_eq]
end Bodies
end VXA
/-! ===== END ===== -/
/-! ===== BEGIN a static call of a method with an exception table ===== -/
section VXS
variable {p : Program} {l : Launch} {e : Env} {R : Room} {s : State} {m : MethodId} {args : Array Value} {below : List Frame} {meth : Method} {c : Code} {T : State} {H : Heap} {locs : List Loc} {cells slots : Nat}
abbrev vx_CSW (R : Room) (s : State) (args : Array Value) (own : String) (index : Nat) (y : MethodName) (bytes : ByteArray) (maxL : Nat) (ret : Option FieldType) (hh : List (Nat × Nat × Nat × Nat)) (ws : List Cond) (rm : Room) (mc ms n : Nat) : Prop :=
  (rm.cells = mc ∧ rm.slots = ms ∧ rm.frames + 1 ≤ R.frames ∧ 8 + (maxL + 11) + rm.locals ≤ R.locals ∧ (∀ w ∈ ws, ∀ (a' : Array Value) (U : State), s.WarmedH U.vm → w.before a' U = true) ∧ Cond.codeWith y bytes maxL ret hh ∈ ws) ∧
  (Cond.codeWith y bytes maxL ret hh).before args s = true ∧ (Cond.initialized y.cls).before args s = true ∧ (y.cls ≠ "java/lang/invoke/MethodHandle" ∧ y.cls ≠ "java/lang/invoke/VarHandle") ∧
  (∀ sig, parseMethodDescriptor y.desc = some sig → n = sig.parameters.length) ∧ (Cond.methodLink own index y).before args s = true ∧ (Cond.static y).before args s = true
theorem vx_cwSW {own : String} {index maxL mc ms : Nat} {y : MethodName} {bytes : ByteArray} {ret : Option FieldType} {hh : List (Nat × Nat × Nat × Nat)} {Ts ws ws' : List Cond} {rm : Room} (n : Nat) (ht : ∀ w ∈ Ts, w.before args s = true) (hT : GoodIn Ts (va_wsS own index y ws)) (hw : ws = Cond.codeWith y bytes maxL ret hh :: ws') (hrc : rm.cells = mc) (hrs : rm.slots = ms)
    (hd : y.cls ≠ "java/lang/invoke/MethodHandle" ∧ y.cls ≠ "java/lang/invoke/VarHandle" ∧ (parseMethodDescriptor y.desc).map (fun d => d.parameters.length) = some n) (hR : rm.frames + 1 ≤ R.frames ∧ 8 + (maxL + 11) + rm.locals ≤ R.locals) :
    vx_CSW R s args own index y bytes maxL ret hh ws rm mc ms n := by
  have ok : ∀ w ∈ va_wsS own index y ws, w.before args s = true := fun w h => ht w (hT w h).1
  have hG : GoodIn Ts ws := fun w h => hT w (by unfold va_wsS; exact List.mem_append_right _ h)
  have hc : Cond.codeWith y bytes maxL ret hh ∈ ws := by rw [hw]; exact List.mem_cons_self
  refine ⟨⟨hrc, hrs, hR.1, hR.2, pay_in ht hG, hc⟩, ht _ (hG _ hc).1, ok _ (by simp [va_wsS]), ⟨hd.1, hd.2.1⟩, fun sig h => ?_, ok _ (by simp [va_wsS]), ok _ (by simp [va_wsS])⟩
  have h2 := hd.2.2
  rw [h] at h2
  exact (Option.some.inj h2).symm
theorem vx_callSW (X : Stand p l e R s m args below meth c T locs cells slots) (hexec : p.tables.exec = Jvm.exec) {own : String} {index : Nat} {y : MethodName} {bytes : ByteArray} {maxL : Nat} {ret : Option FieldType} {hh : List (Nat × Nat × Nat × Nat)}
    (hown : s.vm.findClass own = some m.cls) (hlink : (Cond.methodLink own index y).before args s = true) (hstat : (Cond.static y).before args s = true) (hinit : (Cond.initialized y.cls).before args s = true)
    (hcode : (Cond.codeWith y bytes maxL ret hh).before args s = true) (hy : y.cls ≠ "java/lang/invoke/MethodHandle" ∧ y.cls ≠ "java/lang/invoke/VarHandle")
    {W9 : Nat} {Pre : Pt → Array Value → Prop} {Post : Pt → Array Value → Option Value → Pt → Prop} (hK : Back l R p e below s args y 3 W9 Pre Post)
    {g : JFrame} (hg : g.method = m) (hsize : g.locals.size = c.maxLocals) {argsL rest : List Value} (hlen : ∀ sig, parseMethodDescriptor y.desc = some sig → argsL.length = sig.parameters.length)
    (hstack : g.stack = argsL.reverse ++ rest) (hW : 2 * g.monitorRoom + (rest.map fun v => v.category).sum ≤ W9) (hdg : decode c.code g.pc = .ok (.invokestatic index, 3))
    (hpre : ∀ vm₁, s.WarmedH vm₁ → Pre ⟨T.setVm vm₁, locs, cells, slots⟩ argsL.toArray) :
    ∃ (v : Option Value) (vm₁ : Vm) (B : Pt), s.WarmedH vm₁ ∧ Stand p l e R s m args below meth c B.U B.locs B.cells B.slots ∧ Post ⟨T.setVm vm₁, locs, cells, slots⟩ argsL.toArray v B ∧
      ∀ target, Steps p.tables e below (B.U.setTop { g with pc := g.pc + 3, stack := v.toList ++ rest }) target → Steps p.tables e below (T.setTop g) target := by
  obtain ⟨mk, methM, cM, hnamed, hmethM, -, -, -, -, -, -, hsigM⟩ := Cond.codeWith_spec hcode
  have hstatic : methM.isStatic = true := Cond.static_spec hnamed hmethM hstat
  obtain ⟨kP, hkP, -⟩ := className_of_methodNamed hnamed
  have hinitP : kP.init = .initialized := Cond.initialized_spec (findClass_of_methodNamed hnamed) hkP hinit
  obtain ⟨vm₁, X₁, hstep₁⟩ := X.invokestatic hexec hown hlink hnamed hmethM hstatic hkP hinitP hy (g := g) hg (argsL := argsL) (rest := rest) (hlen _ hsigM) hstack hdg
  obtain ⟨v, B, X', hpost, hsteps⟩ := hK m meth c ⟨T.setVm vm₁, locs, cells, slots⟩ { g with stack := rest } (.invokestatic index) mk argsL.toArray X₁ hg hsize hdg hW (X₁.named hnamed) (hpre vm₁ X₁.warmed)
  exact ⟨v, vm₁, B, X₁.warmed, X', hpost, fun target h => hstep₁ _ fun acts => by rw [doInvoke_state]; exact hsteps.trans h⟩
theorem vx_runSW {y : MethodName} {bytes cc : ByteArray} {maxL nL mc ms n index : Nat} {ret : Option FieldType} {hh : List (Nat × Nat × Nat × Nat)} {ws : List Cond} {rm : Room} {Pc : Array Value → State → Prop} {Qc : Array Value → State → Outcome → State → Prop} {free : Addr → Prop} {Ts : List Cond} {own : String} {As rest : List Value} {g : JFrame}
    (S : CallFix p m c cc nL s args Ts own) (hM : Met l y ws rm Pc Qc mc ms free) (cw : vx_CSW R s args own index y bytes maxL ret hh ws rm mc ms n) (hp : PreS s H Pc As)
    (hg : g.method = m) (hn : As.length = n) (hsize : g.locals.size = nL) (hstack : g.stack = As.reverse ++ rest) (hW : 2 * g.monitorRoom + (rest.map fun v => v.category).sum ≤ 8) (hdg : decode cc g.pc = .ok (.invokestatic index, 3)) (hf : cells + mc ≤ R.cells ∧ slots + ms ≤ R.slots) :
    va_Run p l e R s m args below meth c H locs cells slots mc ms g rest (Qc As.toArray) (free) := by
  obtain ⟨⟨hrc, hrs, hfr, hlo, hws, hcw⟩, hcode, hini, hy, hlen, hl, hstt⟩ := cw
  have hK : Back l R p e below s args y 3 8 (PreOf R mc ms Pc) (PostOf Qc mc ms free) := va_backW (hh := hh) (bytes := bytes) (maxL := maxL) (ret := ret) hM hp.1 hrc hrs hfr hlo hws hcw (fun a' U hW => word_at hW (Or.inl (by first | rfl | simp [Cond.onTables, Cond.keeps, Cond.steady])) hini)
  obtain ⟨hx, hb, hml, ho, -⟩ := S
  intro T hT X
  obtain ⟨v, vm₁, ⟨U', l2, c2, s2⟩, hW₁, X', ⟨g', mk, t, L, e1, e2, hq, h1, hL, h2, h3⟩, st⟩ := vx_callSW X hx (hh := hh) (bytes := bytes) (maxL := maxL) (ret := ret) ho hl hstt hini hcode hy hK hg (hsize.trans hml.symm) (argsL := As) (rest := rest) (fun sig h => hn.trans (hlen sig h)) hstack hW (by rw [hb]; exact hdg)
    (fun vm₁ hW₁ => ⟨hf.1, hf.2, hp.2 (T.setVm vm₁) hT hW₁⟩)
  dsimp only [Pt.U, Pt.locs, Pt.cells, Pt.slots] at X' e1 e2 h1 h2 h3 st
  subst h1; subst h2; subst h3
  exact ⟨v, (T.setVm vm₁).calling g' mk As.toArray, t, U', L, hT, X', hL, e1, e2, hq, st⟩
/-- not caught here, past rows that name other classes: it goes on to the caller -/
theorem vx_outP {p : Program} {l : Launch} {e : Env} {R : Room} {s : State} {m : MethodId} {args : Array Value} {below : List Frame} {meth : Method} {c : Code} {H : Heap} {locs : List Loc} {cells slots : Nat} {free : Addr → Prop} {ls : Array Slot} {rest : List Value} {Qc : Array Value → State → Outcome → State → Prop} {XC : String → State → State → Prop}
    {pc : Nat} {own E : String} {ce : Cell} {q : Addr} {mc ms : Nat} (hown : s.vm.findClass own = some m.cls) (hlocks : meth.locks = false)
    (hpass : ∀ z ∈ c.exceptionTable.toList, covers z pc = false ∨ (z.catchType ≠ 0 ∧ ∃ nm : String, (Cond.classLink own z.catchType nm).before args s = true ∧ va_Nc E nm s)) (hcell : H[q]? = some ce) (hv : ce.vm = .none) (hcl : s.vm.findClass E = some ce.cls)
    (hx : ∀ t : State, t.heap = H → s.vm.Alike t.vm → XC E s t) (hf : ∀ z ∈ locs, free z.base) (hc : cells ≤ mc) (hs : slots ≤ ms) :
    vx_W p l e R s m args below meth c H locs cells slots (vx_MQ below Qc XC args s mc ms free) (F0 m pc ls rest) q := by
  intro T hT X
  have hpl : e.platform.magicAccessors = ({} : Platform).magicAccessors := by rw [X.admits.platform]
  obtain ⟨vm', hW', X', st⟩ := X.outThrough hlocks q (g := F0 m pc ls rest) rfl rfl rfl (cell := ce) (by rw [hT]; exact hcell) (by rw [hv]; rfl)
    (by obtain ⟨k9, h9, -⟩ := Vm.findClass_spec hcl; exact ⟨k9, h9⟩) (fun z hz => by
      rcases hpass z hz with h | ⟨hz0, nm, hl1, hn1⟩
      · exact Or.inl h
      · obtain ⟨c6, hc6, hcl6⟩ := Cond.classLink_spec hown hl1 e.platform hpl
        obtain ⟨a8, b8, h1, h2, h3⟩ := hn1
        cases Option.some.inj (h1.symm.trans hcl)
        cases Option.some.inj (h2.symm.trans hc6)
        exact Or.inr ⟨hz0, _, hcl6, h3⟩)
  obtain ⟨g₀, hfr⟩ := X'.frames_eq
  have hcell9 : ((T.setVm vm').setFrames (.throwing q :: below)).heap[q]? = some ce := by
    show T.heap[q]? = some ce
    rw [hT]; exact hcell
  have hend : Ended ((T.setVm vm').setFrames (.throwing q :: below)) below (.threw q) := State.frames_setFrames _ (State.cur_lt_of_frames hfr)
  refine ⟨(T.setVm vm').setFrames (.throwing q :: below), ?_, .threw q, X'.here.running, hend, Or.inr ⟨q, rfl, E, ce, locs, hx _ hT (X'.ends _).1.alike, hcell9, hv, hcl, (X'.ends _).1, (X'.ends _).2.mono hc hs, hf⟩⟩
  rw [X.pushThrowing_eq]
  exact st
/-- a thing of a world lies in the heap -/
theorem vx_lt {D : va_G} {cl : List vw_C} {ws : va_W} {H1 : Heap} (h : va_P D cl ws H1) {k : Nat} {q : Nat × va_E} (hk : ws[k]? = some q) : q.1 < H1.size := (h k q hk).lt
end VXS
/-! ===== END ===== -/
/-! ===== BEGIN methods with a table of their own: called by a name, returning or throwing ===== -/
section VXH
/-! vx_backW, vx_callVX, vx_callSX, vx_callVW, vx_runVW, vx_runVX, vx_runSX, vx_ofWH follow the same proofs as their sisters above (Free/Laws.lean, Shelf42/LK1.lean); vx_outP calls Shelf42/NT130.lean (outThrough). -/
section
variable {l : Launch} {R : Room} {p : Program} {e : Env} {below : List Frame} {s : State} {sargs : Array Value} {y : MethodName} {len W9 : Nat}
theorem vx_backW {ws : List Cond} {rm : Room} {Pc : Array Value → State → Prop} {Qc : Array Value → State → Outcome → State → Prop} {XC : String → State → State → Prop} {mc ms : Nat} {free : Addr → Prop} {bytes : ByteArray} {maxL : Nat} {ret : Option FieldType} {hh : List (Nat × Nat × Nat × Nat)}
    (hM : vx_Met l y ws rm Pc Qc XC mc ms free) (hblind : FrameBlind Pc) (hrc : rm.cells = mc) (hrs : rm.slots = ms)
    (hframes : rm.frames + 1 ≤ R.frames) (hlocals : W9 + (maxL + 11) + rm.locals ≤ R.locals)
    (hws : ∀ w ∈ ws, ∀ a' U, s.WarmedH U.vm → w.before a' U = true) (hcode : Cond.codeWith y bytes maxL ret hh ∈ ws) (hinit : ∀ a' U, s.WarmedH U.vm → (Cond.initialized y.cls).before a' U = true) :
    vx_Back l R p e below s sargs y len W9 (PreOf R mc ms Pc) (PostOf Qc mc ms free) (vx_Post XC mc ms free) := by
  intro m meth c A g ig mk a X hg hsize hdg hW hn hp
  have h1 : (headSpec ws rm).pre.before a A.U = true := atoms_intro fun w hw => hws w hw _ _ X.warmed
  have h2 : (Cond.codeWith y bytes maxL ret hh).before a A.U = true := hws _ hcode _ _ X.warmed
  have h3 : (Cond.initialized y.cls).before a A.U = true := hinit _ _ X.warmed
  have h4 : A.cells + (headSpec ws rm).room.cells ≤ R.cells := by rw [show (headSpec ws rm).room.cells = mc from hrc]; exact hp.1
  have h5 : A.slots + (headSpec ws rm).room.slots ≤ R.slots := by rw [show (headSpec ws rm).room.slots = ms from hrs]; exact hp.2.1
  have hPc : Pc a (A.U.calling g mk a) := hblind _ _ _ _ hp.2.2
  obtain ⟨U, Ls, c0, s0⟩ := A
  dsimp only [Pt.U, Pt.locs, Pt.cells, Pt.slots] at h1 h2 h3 h4 h5 X hn hPc ⊢
  obtain ⟨m9, methY, cY, hn9, hmY, hcY, -, hlY, -⟩ := Cond.codeWith_spec h2
  cases Option.some.inj (hn9.symm.trans hn)
  obtain ⟨kY, hkY, -⟩ := className_of_methodNamed hn
  have hinitY : kY.init = .initialized := Cond.initialized_spec (findClass_of_methodNamed hn) hkY h3
  have h : At U g.method c below := by rw [hg]; exact X.here
  have hlocals9 : W9 + (maxL + 11) + (headSpec ws rm).room.locals ≤ R.locals := hlocals
  have happ : (headSpec ws rm).appliesLoose y e.platform (U.calling g mk a) = true :=
    Spec.appliesLoose_calling (g := g) h hdg hn hkY hinitY
      (X.room_calling (g := g) (R' := (headSpec ws rm).room) hsize hmY hcY hframes (by rw [hlY]; omega) h4 h5) h1
  obtain ⟨mid, hmid⟩ := h.above
  have hfr : (U.setTop g).frames = (.java g :: mid) ++ below := by rw [State.frames_setTop' g h.top, hmid]; rfl
  obtain ⟨o, s₂, hsteps, -, hend, hq⟩ := Steps.callFree hM p X.admits X.cas X.clock (acts := []) hfr happ hPc trivial
  have hq' : vx_Q Qc XC mc ms free a (U.calling g mk a) o s₂ := hq
  rw [State.frames_setTop' g h.top] at hend
  obtain ⟨g₀, hg0⟩ := Option.isSome_iff_exists.mp h.top
  obtain ⟨r, hr⟩ := State.topJava?_eq_some.mp hg0
  have hr' : (({ U with heap := s₂.heap, slotsUsed := s₂.slotsUsed } : State).setVm s₂.vm).frames = .java g₀ :: r := hr
  rcases hq' with ⟨hqc, L, hfe, hL⟩ | ⟨q, rfl, E, ce, L, hx, hce, hcv, hcl, hW₂, hsm, hL⟩
  · obtain ⟨⟨v, rfl⟩, hW₂, e2, q2, q3, q4, q5, q6⟩ := id hfe
    have e3 : s₂ = ({ (U.calling g mk a).setFrames s₂.frames with heap := s₂.heap, slotsUsed := s₂.slotsUsed } : State).setVm s₂.vm := by
      have : s₂ = ({ s₂ with vm := (U.calling g mk a).vm } : State).setVm s₂.vm := rfl
      rw [e2] at this
      exact this
    obtain ⟨c₂, i₂, len₂, hc₂, hd₂, hf₂⟩ := hend
    have hW' : U.WarmedH s₂.vm := hW₂
    have hcc : c₂ = c := by
      have h1 : s₂.code? g.method = U.code? g.method := by
        rw [State.code?_eq, State.code?_eq, hW'.alike.method?]
      exact Option.some.inj (hc₂.symm.trans (h1.trans h.code))
    subst hcc
    have hlen : len₂ = len := by rw [hdg] at hd₂; cases hd₂; rfl
    subst hlen
    have hs₂ : s₂ = (({ U with heap := s₂.heap, slotsUsed := s₂.slotsUsed } : State).setVm s₂.vm).setTop { g with pc := g.pc + len₂, stack := v.toList ++ g.stack } := by
      refine e3.trans ?_
      rw [hf₂, State.calling_eq h.top, State.setFrames_setFrames, State.setTop_of_frames _ hr', hr]
      rfl
    have hsame : U.sameButNew ({ U with heap := s₂.heap, slotsUsed := s₂.slotsUsed } : State) L mc ms := by
      refine ⟨?_, q2, q3, q4, q5, q6⟩
      obtain ⟨t, ht, -⟩ := State.frames_cons hr
      show ({ U with heap := s₂.heap, slotsUsed := s₂.slotsUsed } : State) = { U.setFrames U.frames with heap := s₂.heap, slotsUsed := s₂.slotsUsed }
      rw [State.setFrames_self ht]
    subst hg
    refine Or.inl ⟨v, ⟨(({ U with heap := s₂.heap, slotsUsed := s₂.slotsUsed } : State).setVm s₂.vm), Ls ++ L, c0 + mc, s0 + ms⟩,
      ⟨X.admits, X.cas, X.clock, X.frames, X.room, X.hears, X.method, X.code, (X.here.setHeapUsed s₂.heap s₂.slotsUsed).setVm hW'.alike, X.tail, State.WarmedH.trans X.warmed hW', X.limits, X.bytes, X.same.trans (hsame.setVm s.vm)⟩,
      ⟨g, mk, s₂, L, rfl, rfl, hqc, rfl, hL, rfl, rfl⟩, ?_⟩
    show Steps p.tables e below _ ((({ U with heap := s₂.heap, slotsUsed := s₂.slotsUsed } : State).setVm s₂.vm).setTop { g with pc := g.pc + len₂, stack := v.toList ++ g.stack })
    rw [← hs₂]
    exact hsteps
  · obtain ⟨e2, q2, q3, q4, q5, q6⟩ := id hsm
    have e3 : s₂ = ({ (U.calling g mk a).setFrames s₂.frames with heap := s₂.heap, slotsUsed := s₂.slotsUsed } : State).setVm s₂.vm := by
      have : s₂ = ({ s₂ with vm := (U.calling g mk a).vm } : State).setVm s₂.vm := rfl
      rw [e2] at this
      exact this
    have hf₂ : s₂.frames = .throwing q :: .java g :: U.frames.tail := hend
    have hW' : U.WarmedH s₂.vm := hW₂
    have hs₂ : s₂ = ((({ U with heap := s₂.heap, slotsUsed := s₂.slotsUsed } : State).setVm s₂.vm).setTop g).pushFrame (.throwing q) := by
      refine e3.trans ?_
      rw [hf₂, State.calling_eq h.top, State.setFrames_setFrames, State.pushFrame, State.frames_setTop _ hr', State.setTop_of_frames _ hr', State.setFrames_setFrames, hr]
      rfl
    have hsame : U.sameButNew ({ U with heap := s₂.heap, slotsUsed := s₂.slotsUsed } : State) L mc ms := by
      refine ⟨?_, q2, q3, q4, q5, q6⟩
      obtain ⟨t, ht, -⟩ := State.frames_cons hr
      show ({ U with heap := s₂.heap, slotsUsed := s₂.slotsUsed } : State) = { U.setFrames U.frames with heap := s₂.heap, slotsUsed := s₂.slotsUsed }
      rw [State.setFrames_self ht]
    subst hg
    refine Or.inr ⟨q, ⟨(({ U with heap := s₂.heap, slotsUsed := s₂.slotsUsed } : State).setVm s₂.vm), Ls ++ L, c0 + mc, s0 + ms⟩,
      ⟨X.admits, X.cas, X.clock, X.frames, X.room, X.hears, X.method, X.code, (X.here.setHeapUsed s₂.heap s₂.slotsUsed).setVm hW'.alike, X.tail, State.WarmedH.trans X.warmed hW', X.limits, X.bytes, X.same.trans (hsame.setVm s.vm)⟩,
      ⟨g, mk, s₂, L, E, ce, rfl, rfl, hx, hce, hcv, hcl, rfl, hL, rfl, rfl⟩, ?_⟩
    show Steps p.tables e below _ (((({ U with heap := s₂.heap, slotsUsed := s₂.slotsUsed } : State).setVm s₂.vm).setTop g).pushFrame (.throwing q))
    rw [← hs₂]
    exact hsteps
end
variable {p : Program} {l : Launch} {e : Env} {R : Room} {s : State} {m : MethodId} {args : Array Value} {below : List Frame} {meth : Method} {c : Code} {T : State} {H : Heap} {locs : List Loc} {cells slots : Nat}
theorem vx_callVX (X : Stand p l e R s m args below meth c T locs cells slots) (hexec : p.tables.exec = Jvm.exec) {own C : String} {index : Nat} {y : MethodName} {bytes : ByteArray} {maxL : Nat} {ret : Option FieldType} {hh : List (Nat × Nat × Nat × Nat)}
    (hown : s.vm.findClass own = some m.cls) (hlink : (Cond.methodLink own index y).before args s = true) (hinst : (Cond.instanceMethod y).before args s = true) (hsel : (Cond.selects C y y).before args s = true)
    (hcode : (Cond.codeWith y bytes maxL ret hh).before args s = true) (hy : y.cls ≠ "java/lang/invoke/MethodHandle" ∧ y.cls ≠ "java/lang/invoke/VarHandle")
    {W9 : Nat} {Pre : Pt → Array Value → Prop} {Post : Pt → Array Value → Option Value → Pt → Prop} {PostX : Pt → Array Value → Addr → Pt → Prop} (hK : vx_Back l R p e below s args y 3 W9 Pre Post PostX)
    {b : Addr} {cellB : Cell} (hcell : T.heap[b]? = some cellB) (hobj : cellB.vm.isStatics = false) (hcls : s.vm.findClass C = some cellB.cls)
    {g : JFrame} (hg : g.method = m) (hsize : g.locals.size = c.maxLocals) {argsL rest : List Value} (hlen : ∀ sig, parseMethodDescriptor y.desc = some sig → argsL.length = sig.parameters.length)
    (hstack : g.stack = argsL.reverse ++ .ref b :: rest) (hW : 2 * g.monitorRoom + (rest.map fun v => v.category).sum ≤ W9) (hdg : decode c.code g.pc = .ok (.invokevirtual index, 3))
    (hpre : ∀ vm₁, s.WarmedH vm₁ → Pre ⟨T.setVm vm₁, locs, cells, slots⟩ (Value.ref b :: argsL).toArray) :
    (∃ (v : Option Value) (vm₁ : Vm) (B : Pt), s.WarmedH vm₁ ∧ Stand p l e R s m args below meth c B.U B.locs B.cells B.slots ∧ Post ⟨T.setVm vm₁, locs, cells, slots⟩ (Value.ref b :: argsL).toArray v B ∧
      ∀ target, Steps p.tables e below (B.U.setTop { g with pc := g.pc + 3, stack := v.toList ++ rest }) target → Steps p.tables e below (T.setTop g) target) ∨
    (∃ (q : Addr) (vm₁ : Vm) (B : Pt), s.WarmedH vm₁ ∧ Stand p l e R s m args below meth c B.U B.locs B.cells B.slots ∧ PostX ⟨T.setVm vm₁, locs, cells, slots⟩ (Value.ref b :: argsL).toArray q B ∧
      Steps p.tables e below (T.setTop g) ((B.U.setTop { g with stack := rest }).pushFrame (.throwing q))) := by
  obtain ⟨mk, methM, hnamed, hmethM, hstM, habM⟩ := Cond.instanceMethod_spec hinst
  obtain ⟨m8, methM', cM, hn8, hmethM', -, -, -, -, -, -, hsigM⟩ := Cond.codeWith_spec hcode
  cases Option.some.inj (hn8.symm.trans hnamed)
  cases hmethM.symm.trans hmethM'
  obtain ⟨c2, r2, m2, q1, q2, q3, q4, kP, hkP, hkPi⟩ := Cond.selects_spec hsel
  cases hcls.symm.trans q1
  cases (State.methodFound?_of_named hnamed hy).symm.trans q2
  cases hnamed.symm.trans q3
  have hselP : selectMethod e.platform s.vm cellB.cls mk = .method mk := by rw [Launch.admits_selectMethod X.admits]; exact q4
  obtain ⟨vm₁, X₁, hstep₁⟩ := X.invokevirtual hexec hown hlink hnamed hmethM hstM hkP hkPi hy (a := b) (cell := cellB) hcell
    (fun z h => by rw [h] at hobj; cases hobj) hselP hmethM habM hkP hkPi (g := g) hg (argsL := argsL) (rest := rest) (hlen _ hsigM) hstack hdg
  rcases hK m meth c ⟨T.setVm vm₁, locs, cells, slots⟩ { g with stack := rest } (.invokevirtual index) mk (Value.ref b :: argsL).toArray X₁ hg hsize hdg hW (X₁.named hnamed) (hpre vm₁ X₁.warmed) with ⟨v, B, X', hpost, hsteps⟩ | ⟨q, B, X', hpost, hsteps⟩
  · exact Or.inl ⟨v, vm₁, B, X₁.warmed, X', hpost, fun target h => hstep₁ _ fun acts => by rw [doInvoke_state]; exact hsteps.trans h⟩
  · exact Or.inr ⟨q, vm₁, B, X₁.warmed, X', hpost, hstep₁ _ fun acts => by rw [doInvoke_state]; exact hsteps⟩
theorem vx_callSX (X : Stand p l e R s m args below meth c T locs cells slots) (hexec : p.tables.exec = Jvm.exec) {own : String} {index : Nat} {y : MethodName} {bytes : ByteArray} {maxL : Nat} {ret : Option FieldType} {hh : List (Nat × Nat × Nat × Nat)}
    (hown : s.vm.findClass own = some m.cls) (hlink : (Cond.methodLink own index y).before args s = true) (hstat : (Cond.static y).before args s = true) (hinit : (Cond.initialized y.cls).before args s = true)
    (hcode : (Cond.codeWith y bytes maxL ret hh).before args s = true) (hy : y.cls ≠ "java/lang/invoke/MethodHandle" ∧ y.cls ≠ "java/lang/invoke/VarHandle")
    {W9 : Nat} {Pre : Pt → Array Value → Prop} {Post : Pt → Array Value → Option Value → Pt → Prop} {PostX : Pt → Array Value → Addr → Pt → Prop} (hK : vx_Back l R p e below s args y 3 W9 Pre Post PostX)
    {g : JFrame} (hg : g.method = m) (hsize : g.locals.size = c.maxLocals) {argsL rest : List Value} (hlen : ∀ sig, parseMethodDescriptor y.desc = some sig → argsL.length = sig.parameters.length)
    (hstack : g.stack = argsL.reverse ++ rest) (hW : 2 * g.monitorRoom + (rest.map fun v => v.category).sum ≤ W9) (hdg : decode c.code g.pc = .ok (.invokestatic index, 3))
    (hpre : ∀ vm₁, s.WarmedH vm₁ → Pre ⟨T.setVm vm₁, locs, cells, slots⟩ argsL.toArray) :
    (∃ (v : Option Value) (vm₁ : Vm) (B : Pt), s.WarmedH vm₁ ∧ Stand p l e R s m args below meth c B.U B.locs B.cells B.slots ∧ Post ⟨T.setVm vm₁, locs, cells, slots⟩ argsL.toArray v B ∧
      ∀ target, Steps p.tables e below (B.U.setTop { g with pc := g.pc + 3, stack := v.toList ++ rest }) target → Steps p.tables e below (T.setTop g) target) ∨
    (∃ (q : Addr) (vm₁ : Vm) (B : Pt), s.WarmedH vm₁ ∧ Stand p l e R s m args below meth c B.U B.locs B.cells B.slots ∧ PostX ⟨T.setVm vm₁, locs, cells, slots⟩ argsL.toArray q B ∧
      Steps p.tables e below (T.setTop g) ((B.U.setTop { g with stack := rest }).pushFrame (.throwing q))) := by
  obtain ⟨mk, methM, cM, hnamed, hmethM, -, -, -, -, -, -, hsigM⟩ := Cond.codeWith_spec hcode
  have hstatic : methM.isStatic = true := Cond.static_spec hnamed hmethM hstat
  obtain ⟨kP, hkP, -⟩ := className_of_methodNamed hnamed
  have hinitP : kP.init = .initialized := Cond.initialized_spec (findClass_of_methodNamed hnamed) hkP hinit
  obtain ⟨vm₁, X₁, hstep₁⟩ := X.invokestatic hexec hown hlink hnamed hmethM hstatic hkP hinitP hy (g := g) hg (argsL := argsL) (rest := rest) (hlen _ hsigM) hstack hdg
  rcases hK m meth c ⟨T.setVm vm₁, locs, cells, slots⟩ { g with stack := rest } (.invokestatic index) mk argsL.toArray X₁ hg hsize hdg hW (X₁.named hnamed) (hpre vm₁ X₁.warmed) with ⟨v, B, X', hpost, hsteps⟩ | ⟨q, B, X', hpost, hsteps⟩
  · exact Or.inl ⟨v, vm₁, B, X₁.warmed, X', hpost, fun target h => hstep₁ _ fun acts => by rw [doInvoke_state]; exact hsteps.trans h⟩
  · exact Or.inr ⟨q, vm₁, B, X₁.warmed, X', hpost, hstep₁ _ fun acts => by rw [doInvoke_state]; exact hsteps⟩
theorem vx_callVW (X : Stand p l e R s m args below meth c T locs cells slots) (hexec : p.tables.exec = Jvm.exec) {own C : String} {index : Nat} {y : MethodName} {bytes : ByteArray} {maxL : Nat} {ret : Option FieldType} {hh : List (Nat × Nat × Nat × Nat)}
    (hown : s.vm.findClass own = some m.cls) (hlink : (Cond.methodLink own index y).before args s = true) (hinst : (Cond.instanceMethod y).before args s = true) (hsel : (Cond.selects C y y).before args s = true)
    (hcode : (Cond.codeWith y bytes maxL ret hh).before args s = true) (hy : y.cls ≠ "java/lang/invoke/MethodHandle" ∧ y.cls ≠ "java/lang/invoke/VarHandle")
    {W9 : Nat} {Pre : Pt → Array Value → Prop} {Post : Pt → Array Value → Option Value → Pt → Prop} (hK : Back l R p e below s args y 3 W9 Pre Post)
    {b : Addr} {cellB : Cell} (hcell : T.heap[b]? = some cellB) (hobj : cellB.vm.isStatics = false) (hcls : s.vm.findClass C = some cellB.cls)
    {g : JFrame} (hg : g.method = m) (hsize : g.locals.size = c.maxLocals) {argsL rest : List Value} (hlen : ∀ sig, parseMethodDescriptor y.desc = some sig → argsL.length = sig.parameters.length)
    (hstack : g.stack = argsL.reverse ++ .ref b :: rest) (hW : 2 * g.monitorRoom + (rest.map fun v => v.category).sum ≤ W9) (hdg : decode c.code g.pc = .ok (.invokevirtual index, 3))
    (hpre : ∀ vm₁, s.WarmedH vm₁ → Pre ⟨T.setVm vm₁, locs, cells, slots⟩ (Value.ref b :: argsL).toArray) :
    ∃ (v : Option Value) (vm₁ : Vm) (B : Pt), s.WarmedH vm₁ ∧ Stand p l e R s m args below meth c B.U B.locs B.cells B.slots ∧ Post ⟨T.setVm vm₁, locs, cells, slots⟩ (Value.ref b :: argsL).toArray v B ∧
      ∀ target, Steps p.tables e below (B.U.setTop { g with pc := g.pc + 3, stack := v.toList ++ rest }) target → Steps p.tables e below (T.setTop g) target := by
  obtain ⟨mk, methM, hnamed, hmethM, hstM, habM⟩ := Cond.instanceMethod_spec hinst
  obtain ⟨m8, methM', cM, hn8, hmethM', -, -, -, -, -, -, hsigM⟩ := Cond.codeWith_spec hcode
  cases Option.some.inj (hn8.symm.trans hnamed)
  cases hmethM.symm.trans hmethM'
  obtain ⟨c2, r2, m2, q1, q2, q3, q4, kP, hkP, hkPi⟩ := Cond.selects_spec hsel
  cases hcls.symm.trans q1
  cases (State.methodFound?_of_named hnamed hy).symm.trans q2
  cases hnamed.symm.trans q3
  have hselP : selectMethod e.platform s.vm cellB.cls mk = .method mk := by rw [Launch.admits_selectMethod X.admits]; exact q4
  obtain ⟨vm₁, X₁, hstep₁⟩ := X.invokevirtual hexec hown hlink hnamed hmethM hstM hkP hkPi hy (a := b) (cell := cellB) hcell
    (fun z h => by rw [h] at hobj; cases hobj) hselP hmethM habM hkP hkPi (g := g) hg (argsL := argsL) (rest := rest) (hlen _ hsigM) hstack hdg
  obtain ⟨v, B, X', hpost, hsteps⟩ := hK m meth c ⟨T.setVm vm₁, locs, cells, slots⟩ { g with stack := rest } (.invokevirtual index) mk (Value.ref b :: argsL).toArray X₁ hg hsize hdg hW (X₁.named hnamed) (hpre vm₁ X₁.warmed)
  exact ⟨v, vm₁, B, X₁.warmed, X', hpost, fun target h => hstep₁ _ fun acts => by rw [doInvoke_state]; exact hsteps.trans h⟩
abbrev vx_CVW (R : Room) (s : State) (args : Array Value) (own C : String) (index : Nat) (y : MethodName) (bytes : ByteArray) (maxL : Nat) (ret : Option FieldType) (hh : List (Nat × Nat × Nat × Nat)) (ws : List Cond) (rm : Room) (mc ms n : Nat) : Prop :=
  (rm.cells = mc ∧ rm.slots = ms ∧ rm.frames + 1 ≤ R.frames ∧ 8 + (maxL + 11) + rm.locals ≤ R.locals ∧ (∀ w ∈ ws, ∀ (a' : Array Value) (U : State), s.WarmedH U.vm → w.before a' U = true) ∧ Cond.codeWith y bytes maxL ret hh ∈ ws) ∧
  (Cond.codeWith y bytes maxL ret hh).before args s = true ∧ (Cond.initialized y.cls).before args s = true ∧ (y.cls ≠ "java/lang/invoke/MethodHandle" ∧ y.cls ≠ "java/lang/invoke/VarHandle") ∧
  (∀ sig, parseMethodDescriptor y.desc = some sig → n = sig.parameters.length) ∧ (Cond.methodLink own index y).before args s = true ∧ (Cond.instanceMethod y).before args s = true ∧ (Cond.selects C y y).before args s = true
theorem vx_cwVW {own C : String} {index maxL mc ms : Nat} {y : MethodName} {bytes : ByteArray} {ret : Option FieldType} {hh : List (Nat × Nat × Nat × Nat)} {Ts ws ws' : List Cond} {rm : Room} (n : Nat) (ht : ∀ w ∈ Ts, w.before args s = true) (hT : GoodIn Ts (wsV own index C y ws)) (hw : ws = Cond.codeWith y bytes maxL ret hh :: ws') (hrc : rm.cells = mc) (hrs : rm.slots = ms)
    (hd : y.cls = C ∧ y.cls ≠ "java/lang/invoke/MethodHandle" ∧ y.cls ≠ "java/lang/invoke/VarHandle" ∧ (parseMethodDescriptor y.desc).map (fun d => d.parameters.length) = some n) (hR : rm.frames + 1 ≤ R.frames ∧ 8 + (maxL + 11) + rm.locals ≤ R.locals) :
    vx_CVW R s args own C index y bytes maxL ret hh ws rm mc ms n := by
  obtain ⟨hC, hd⟩ := hd
  subst hC
  have ok : ∀ w ∈ wsV own index y.cls y ws, w.before args s = true := fun w h => ht w (hT w h).1
  have hG : GoodIn Ts ws := fun w h => hT w (by unfold wsV; exact List.mem_append_right _ h)
  have hc : Cond.codeWith y bytes maxL ret hh ∈ ws := by rw [hw]; exact List.mem_cons_self
  refine ⟨⟨hrc, hrs, hR.1, hR.2, pay_in ht hG, hc⟩, ht _ (hG _ hc).1, ok _ (by simp [wsV]), ⟨hd.1, hd.2.1⟩, fun sig h => ?_, ok _ (by simp [wsV]), ok _ (by simp [wsV]), ok _ (by simp [wsV])⟩
  have h2 := hd.2.2
  rw [h] at h2
  exact (Option.some.inj h2).symm
theorem vx_runVW {y : MethodName} {bytes cc : ByteArray} {maxL nL mc ms n index : Nat} {ret : Option FieldType} {hh : List (Nat × Nat × Nat × Nat)} {ws : List Cond} {rm : Room} {Pc : Array Value → State → Prop} {Qc : Array Value → State → Outcome → State → Prop} {free : Addr → Prop} {Ts : List Cond} {own C : String} {b : Addr} {As rest : List Value} {g : JFrame}
    (S : CallFix p m c cc nL s args Ts own) (hM : Met l y ws rm Pc Qc mc ms free) (cw : vx_CVW R s args own C index y bytes maxL ret hh ws rm mc ms n) (hp : PreV s H C b Pc As)
    (hg : g.method = m) (hn : As.length = n) (hsize : g.locals.size = nL) (hstack : g.stack = As.reverse ++ .ref b :: rest) (hW : 2 * g.monitorRoom + (rest.map fun v => v.category).sum ≤ 8) (hdg : decode cc g.pc = .ok (.invokevirtual index, 3)) (hf : cells + mc ≤ R.cells ∧ slots + ms ≤ R.slots) :
    va_Run p l e R s m args below meth c H locs cells slots mc ms g rest (Qc (Value.ref b :: As).toArray) free := by
  obtain ⟨⟨hrc, hrs, hfr, hlo, hws, hcw⟩, hcode, hini, hy, hlen, hl, hin, hse⟩ := cw
  have hK : Back l R p e below s args y 3 8 (PreOf R mc ms Pc) (PostOf Qc mc ms free) := va_backW (hh := hh) (bytes := bytes) (maxL := maxL) (ret := ret) hM hp.1 hrc hrs hfr hlo hws hcw (fun a' U hW => word_at hW (Or.inl (by first | rfl | simp [Cond.onTables, Cond.keeps, Cond.steady])) hini)
  obtain ⟨hx, hb, hml, ho, -⟩ := S
  obtain ⟨-, ⟨cellB, hcB, hoB, hclB⟩, hPc⟩ := hp
  intro T hT X
  obtain ⟨v, vm₁, ⟨U', l2, c2, s2⟩, hW₁, X', ⟨g', mk, t, L, e1, e2, hq, h1, hL, h2, h3⟩, st⟩ := vx_callVW X hx (C := C) (hh := hh) (bytes := bytes) (maxL := maxL) (ret := ret) ho hl hin hse hcode hy hK (by rw [hT]; exact hcB) hoB hclB hg (hsize.trans hml.symm) (argsL := As) (rest := rest) (fun sig h => hn.trans (hlen sig h)) hstack hW (by rw [hb]; exact hdg)
    (fun vm₁ hW₁ => ⟨hf.1, hf.2, hPc (T.setVm vm₁) hT hW₁⟩)
  dsimp only [Pt.U, Pt.locs, Pt.cells, Pt.slots] at X' e1 e2 h1 h2 h3 st
  subst h1; subst h2; subst h3
  exact ⟨v, (T.setVm vm₁).calling g' mk (Value.ref b :: As).toArray, t, U', L, hT, X', hL, e1, e2, hq, st⟩
section
variable {y : MethodName} {bytes cc : ByteArray} {maxL nL mc ms n index : Nat} {ret : Option FieldType} {ws : List Cond} {rm : Room} {Pc : Array Value → State → Prop} {Qc : Array Value → State → Outcome → State → Prop} {XC : String → State → State → Prop} {free : Addr → Prop} {Ts : List Cond} {own C : String} {b : Addr} {As rest : List Value} {g : JFrame}
theorem vx_runVX {hh : List (Nat × Nat × Nat × Nat)} (S : CallFix p m c cc nL s args Ts own) (hM : vx_Met l y ws rm Pc Qc XC mc ms free) (cw : vx_CVW R s args own C index y bytes maxL ret hh ws rm mc ms n) (hp : PreV s H C b Pc As)
    (hg : g.method = m) (hn : As.length = n) (hsize : g.locals.size = nL) (hstack : g.stack = As.reverse ++ .ref b :: rest) (hW : 2 * g.monitorRoom + (rest.map fun v => v.category).sum ≤ 8) (hdg : decode cc g.pc = .ok (.invokevirtual index, 3)) (hf : cells + mc ≤ R.cells ∧ slots + ms ≤ R.slots) :
    vx_Run p l e R s m args below meth c H locs cells slots mc ms g rest (Qc (Value.ref b :: As).toArray) XC free := by
  obtain ⟨⟨hrc, hrs, hfr, hlo, hws, hcw⟩, hcode, hini, hy, hlen, hl, hin, hse⟩ := cw
  have hK : vx_Back l R p e below s args y 3 8 (PreOf R mc ms Pc) (PostOf Qc mc ms free) (vx_Post XC mc ms free) := vx_backW (hh := hh) (bytes := bytes) (maxL := maxL) (ret := ret) hM hp.1 hrc hrs hfr hlo hws hcw (fun a' U hW => word_at hW (Or.inl (by first | rfl | simp [Cond.onTables, Cond.keeps, Cond.steady])) hini)
  obtain ⟨hx, hb, hml, ho, -⟩ := S
  obtain ⟨-, ⟨cellB, hcB, hoB, hclB⟩, hPc⟩ := hp
  intro T hT X
  rcases vx_callVX X hx (C := C) (hh := hh) (bytes := bytes) (maxL := maxL) (ret := ret) ho hl hin hse hcode hy hK (by rw [hT]; exact hcB) hoB hclB hg (hsize.trans hml.symm) (argsL := As) (rest := rest) (fun sig h => hn.trans (hlen sig h)) hstack hW (by rw [hb]; exact hdg)
    (fun vm₁ hW₁ => ⟨hf.1, hf.2, hPc (T.setVm vm₁) hT hW₁⟩) with ⟨v, vm₁, ⟨U', l2, c2, s2⟩, hW₁, X', ⟨g', mk, t, L, e1, e2, hq, h1, hL, h2, h3⟩, st⟩ | ⟨q, vm₁, ⟨U', l2, c2, s2⟩, hW₁, X', ⟨g', mk, t, L, E, ce, e1, e2, hq, hce, hcv, hcl, h1, hL, h2, h3⟩, st⟩
  · dsimp only [Pt.U, Pt.locs, Pt.cells, Pt.slots] at X' e1 e2 h1 h2 h3 st
    subst h1; subst h2; subst h3
    exact Or.inl ⟨v, (T.setVm vm₁).calling g' mk (Value.ref b :: As).toArray, t, U', L, hT, X', hL, e1, e2, hq, st⟩
  · dsimp only [Pt.U, Pt.locs, Pt.cells, Pt.slots] at X' e1 e2 h1 h2 h3 st hcl
    subst h1; subst h2; subst h3
    exact Or.inr ⟨q, (T.setVm vm₁).calling g' mk (Value.ref b :: As).toArray, t, U', L, E, ce, hT, X', hL, e1, e2, hq, hce, hcv, vx_cls hW₁ hcl, st⟩
theorem vx_runSX {hh : List (Nat × Nat × Nat × Nat)} (S : CallFix p m c cc nL s args Ts own) (hM : vx_Met l y ws rm Pc Qc XC mc ms free) (cw : vx_CSW R s args own index y bytes maxL ret hh ws rm mc ms n) (hp : PreS s H Pc As)
    (hg : g.method = m) (hn : As.length = n) (hsize : g.locals.size = nL) (hstack : g.stack = As.reverse ++ rest) (hW : 2 * g.monitorRoom + (rest.map fun v => v.category).sum ≤ 8) (hdg : decode cc g.pc = .ok (.invokestatic index, 3)) (hf : cells + mc ≤ R.cells ∧ slots + ms ≤ R.slots) :
    vx_Run p l e R s m args below meth c H locs cells slots mc ms g rest (Qc As.toArray) XC free := by
  obtain ⟨⟨hrc, hrs, hfr, hlo, hws, hcw⟩, hcode, hini, hy, hlen, hl, hstt⟩ := cw
  have hK : vx_Back l R p e below s args y 3 8 (PreOf R mc ms Pc) (PostOf Qc mc ms free) (vx_Post XC mc ms free) := vx_backW (hh := hh) (bytes := bytes) (maxL := maxL) (ret := ret) hM hp.1 hrc hrs hfr hlo hws hcw (fun a' U hW => word_at hW (Or.inl (by first | rfl | simp [Cond.onTables, Cond.keeps, Cond.steady])) hini)
  obtain ⟨hx, hb, hml, ho, -⟩ := S
  intro T hT X
  rcases vx_callSX X hx (hh := hh) (bytes := bytes) (maxL := maxL) (ret := ret) ho hl hstt hini hcode hy hK hg (hsize.trans hml.symm) (argsL := As) (rest := rest) (fun sig h => hn.trans (hlen sig h)) hstack hW (by rw [hb]; exact hdg)
    (fun vm₁ hW₁ => ⟨hf.1, hf.2, hp.2 (T.setVm vm₁) hT hW₁⟩) with ⟨v, vm₁, ⟨U', l2, c2, s2⟩, hW₁, X', ⟨g', mk, t, L, e1, e2, hq, h1, hL, h2, h3⟩, st⟩ | ⟨q, vm₁, ⟨U', l2, c2, s2⟩, hW₁, X', ⟨g', mk, t, L, E, ce, e1, e2, hq, hce, hcv, hcl, h1, hL, h2, h3⟩, st⟩
  · dsimp only [Pt.U, Pt.locs, Pt.cells, Pt.slots] at X' e1 e2 h1 h2 h3 st
    subst h1; subst h2; subst h3
    exact Or.inl ⟨v, (T.setVm vm₁).calling g' mk As.toArray, t, U', L, hT, X', hL, e1, e2, hq, st⟩
  · dsimp only [Pt.U, Pt.locs, Pt.cells, Pt.slots] at X' e1 e2 h1 h2 h3 st hcl
    subst h1; subst h2; subst h3
    exact Or.inr ⟨q, (T.setVm vm₁).calling g' mk As.toArray, t, U', L, E, ce, hT, X', hL, e1, e2, hq, hce, hcv, vx_cls hW₁ hcl, st⟩
end
end VXH
theorem vx_ofWH {l : Launch} {y : MethodName} {ws ws' : List Cond} {rm : Room} {Pc : Array Value → State → Prop} {Qc : Array Value → State → Outcome → State → Prop} {XC : String → State → State → Prop} {mc ms : Nat} {free : Addr → Prop} {cc : ByteArray} {maxL : Nat} {ret : Option FieldType} {hh : List (Nat × Nat × Nat × Nat)}
    (hy : plainName y.cls = true) (hw : ws = Cond.codeWith y cc maxL ret hh :: ws')
    (body : ∀ p e s m args below meth c s₁, BodyLoose p l y (headSpec ws rm) cc maxL ret e s m args below meth c s₁ → c.maxLocals = maxL → Pc args s →
      W p l e (headSpec ws rm).room s m args below meth c s.heap [] 0 0 (vx_MQ below Qc XC args s mc ms free) (entryFrame m args maxL)) : vx_Met l y ws rm Pc Qc XC mc ms free := by
  refine MetFree.of_bodyS (code := cc) (maxLocals := maxL) (ret := ret) hy ?_ ?_
  · intro args s m h hn
    obtain ⟨m9, meth, c, hn9, h1, h2, h3, h4, -, h5, h6, -⟩ := Cond.codeWith_spec (atoms_spec (ws := ws) h _ (by rw [hw]; exact List.mem_cons_self))
    cases hn.symm.trans hn9
    exact ⟨meth, c, h1, h2, h3, h4, h5, h6⟩
  · intro p e s m args below meth c s₁ B hml hP _
    have hh0 : s₁.heap = s.heap := by rw [B.state]; rfl
    obtain ⟨t, a1, o, b1, b2, b3⟩ := body p e s m args below meth c s₁ B hml hP s₁ hh0 (Stand.of_body B)
    exact ⟨t, o, a1, b1, b2, b3⟩
/-! ===== END ===== -/
end
section
/-! pure rows: request, accept, take; what is asked -/
def mq_rq (ρ : Nat → Nat → Nat) (x so z a mk : Nat) : Nat → Nat → Nat := mq_inc (mq_go (mq_up (mq_up (mq_up (mq_up ρ 3 x so) 4 x (2 ^ z)) 5 x a) 7 x mk) x 1) 1
theorem mq_rq_sp {ρ : Nat → Nat → Nat} {x so z a mk : Nat} : (∀ y, mq_rq ρ x so z a mk 1 y = if y = x then 1 else ρ 1 y) ∧ (∀ y, mq_rq ρ x so z a mk 2 y = if y = x then ρ 0 1 else ρ 2 y) ∧ (∀ y, mq_rq ρ x so z a mk 3 y = if y = x then so else ρ 3 y) ∧ (∀ y, mq_rq ρ x so z a mk 4 y = if y = x then 2 ^ z else ρ 4 y) ∧ (∀ y, mq_rq ρ x so z a mk 5 y = if y = x then a else ρ 5 y) ∧ (∀ y, mq_rq ρ x so z a mk 7 y = if y = x then mk else ρ 7 y) ∧ (∀ j q, 3 ≤ j → j ≠ 3 → j ≠ 4 → j ≠ 5 → j ≠ 7 → j ≠ 16 → mq_rq ρ x so z a mk j q = ρ j q) ∧ (∀ q, mq_rq ρ x so z a mk 16 q = if q = 1 then ρ 16 1 + 1 else ρ 16 q) ∧ mq_rq ρ x so z a mk 0 1 = ρ 0 1 + 1 := by
  unfold mq_rq mq_inc mq_go mq_up
  refine ⟨fun y => by simp, fun y => by simp, fun y => by simp, fun y => by simp, fun y => by simp, fun y => by simp, fun j q h3 g3 g4 g5 g7 g16 => ?_, fun q => by simp, by simp⟩
  have h0 : j ≠ 0 := by omega
  have h1 : j ≠ 1 := by omega
  have h2 : j ≠ 2 := by omega
  simp [h0, h1, h2, g3, g4, g5, g7, g16]
def cx_rq (σ : Nat → Nat → Int32) (m x n so z a mk b q : Nat) : Nat → Nat → Int32 :=
  cx_up (cx_up (cx_app (cx_up (cx_up (cx_up (cx_up σ (43 + x) 0 (nI so)) (43 + x) 1 (nI z)) (43 + x) 2 (nI a)) (43 + x) 4 (nI mk)) (3 + 5 * m) n (nI x)) (2 + 5 * m) 2 (nI (b ||| 2 ^ q))) 69 1 (σ 69 1 + 1)
theorem cx_rq_n {σ : Nat → Nat → Int32} {m x n so z a mk b q j : Nat} (h1 : j ≠ 69) (h2 : j ≠ 2 + 5 * m) (h3 : j ≠ 3 + 5 * m) (h4 : j ≠ 4 + 5 * m) (h5 : j ≠ 43 + x) : cx_rq σ m x n so z a mk b q j = σ j := by
  unfold cx_rq
  rw [cx_up_J h1, cx_up_J h2, cx_app_n h3 (by omega), cx_up_J h5, cx_up_J h5, cx_up_J h5, cx_up_J h5]
theorem mq_or_bits {b q : Nat} (hb : b < 256) (hq : q < 8) : b ||| 2 ^ q < 256 := by
  have h1 : 2 ^ q < 2 ^ 8 := Nat.pow_lt_pow_right (by omega) hq
  exact Nat.or_lt_two_pow (n := 8) hb h1
theorem rr_O.keep2 {σ σ' : Nat → Nat → Int32} {ρ ρ' : Nat → Nat → Nat} (h : rr_O σ ρ) (hs : ∀ q, q < 4 → σ' (23 + 6 * q) = σ (23 + 6 * q)) (hh : ∀ q i y, y < 24 → (mq_hold ρ' q i y = true ↔ mq_hold ρ q i y = true)) (h8 : ∀ y, y < 24 → 2 ≤ ρ' 1 y → ρ' 1 y ≤ 4 → 2 ≤ ρ 1 y ∧ ρ 1 y ≤ 4 ∧ ρ' 8 y = ρ 8 y) : rr_O σ' ρ' := by
  obtain ⟨hO1, hO2⟩ := h
  refine ⟨fun q hq i hi => ⟨fun y hy g => ?_, fun hno => ?_⟩, fun y hy a b => ?_⟩
  · rw [hs q hq]
    exact (hO1 q hq i hi).1 y hy ((hh q i y hy).mp g)
  · rw [hs q hq]
    refine (hO1 q hq i hi).2 fun y hy => ?_
    cases hb : mq_hold ρ q i y with
    | false => rfl
    | true =>
      have := hno y hy
      rw [(hh q i y hy).mpr hb] at this
      cases this
  · obtain ⟨a', b', e⟩ := h8 y hy a b
    rw [e]
    exact hO2 y hy a' b'
theorem rr_R.rq {σ : Nat → Nat → Int32} {τ : Nat → Nat → Int64} {ρ : Nat → Nat → Nat} {μ : Nat → Int64} {lt : Int64} {pl : Nat → Nat → List Nat} (h : rr_R σ τ ρ μ lt pl) {m q so z a mk b : Nat} {d : Int64} (hm : m < 3) (hq : q < 8) (hso : so < 3) (hz : z < 4) (ha : a < 1024) (hal : a % 2 ^ z = 0) (hmk : mk < 256) (h0 : ρ 1 (8 * m + q) = 0) (hl : (pl 1 m).length < 8) (hb : b < 256) (hb1 : σ (2 + 5 * m) 2 = nI b) (hb2 : ∀ s, s < 8 → b.testBit s = decide (ρ 1 (8 * m + s) ≠ 0)) :
    rr_R (cx_rq σ m (8 * m + q) (pl 1 m).length so z a mk b q) (gx_upL τ (43 + (8 * m + q)) 0 d) (mq_rq ρ (8 * m + q) so z a mk) (mq_upL μ (8 * m + q) d) lt (mq_set pl 1 m (pl 1 m ++ [8 * m + q])) := by
  obtain ⟨hL, hP, hJ, hM, hO, hG, hB, hT⟩ := h
  generalize hx : 8 * m + q = x at h0 ⊢
  have hx24 : x < 24 := by omega
  have ok1 : mq_ok 1 m := Or.inl ⟨by simp, hm⟩
  obtain ⟨e1, e2, e3, e4, e5, e7, eo, e16, e01⟩ := mq_rq_sp (ρ := ρ) (x := x) (so := so) (z := z) (a := a) (mk := mk)
  have l1 : rr_ln 1 m = 3 + 5 * m := by simp [rr_ln]
  refine ⟨?_, ?_, ?_, ?_, ?_, ?_, ?_, ?_⟩
  · have g0 := (((hL.upF (j := 43 + x) (k := 0) (v := nI so) (rr_freeB (by omega))).upF (j := 43 + x) (k := 1) (v := nI z) (rr_freeB (by omega))).upF (j := 43 + x) (k := 2) (v := nI a) (rr_freeB (by omega))).upF (j := 43 + x) (k := 4) (v := nI mk) (rr_freeB (by omega))
    have g1 := g0.app (w := 1) (g := m) (x := x) ok1 (by omega) (by simpa [rr_room] using hl)
    rw [l1] at g1
    exact (g1.upF (rr_freeM hm)).upF (rr_freeB (by omega))
  · refine hP.join ok1 hx24 h0 (by rw [e1]; simp) (by rw [e2]; simp) (by unfold mq_in; rw [if_pos hm]; omega) (fun y hy => by rw [e1, if_neg hy]) (fun y hy => by rw [e2, if_neg hy]) (fun y hy => by rw [e5, if_neg hy]) e01
  · intro p hp
    rw [mq_set_n (by omega), cx_rq_n (by omega) (by omega) (by omega) (by omega) (by omega), eo 12 p (by omega) (by omega) (by omega) (by omega) (by omega) (by omega), eo 13 p (by omega) (by omega) (by omega) (by omega) (by omega) (by omega), eo 11 p (by omega) (by omega) (by omega) (by omega) (by omega) (by omega)]
    exact hJ p hp
  · intro i hi
    obtain ⟨ha1, ha2, bb, c1, c2, c3⟩ := hM i hi
    rw [eo 10 i (by omega) (by omega) (by omega) (by omega) (by omega) (by omega), eo 9 i (by omega) (by omega) (by omega) (by omega) (by omega) (by omega)]
    by_cases him : i = m
    · subst him
      have hs : ∀ k, k ≠ 2 → cx_rq σ i x (pl 1 i).length so z a mk b q (2 + 5 * i) k = σ (2 + 5 * i) k := fun k hk => by
        unfold cx_rq
        rw [cx_up_J (by omega), cx_up_k hk, cx_app_n (by omega) (by omega), cx_up_J (by omega), cx_up_J (by omega), cx_up_J (by omega), cx_up_J (by omega)]
      rw [hs 4 (by omega), hs 3 (by omega)]
      refine ⟨ha1, ha2, b ||| 2 ^ q, mq_or_bits hb hq, ?_, fun s hs' => ?_⟩
      · unfold cx_rq
        rw [cx_up_J (by omega), cx_up_s]
      · rw [Nat.testBit_or, hb2 s hs', Nat.testBit_two_pow, e1]
        by_cases hsq : q = s
        · subst hsq
          simp [hx]
        · have : 8 * i + s ≠ x := by omega
          simp [hsq, this]
    · rw [cx_rq_n (by omega) (by omega) (by omega) (by omega) (by omega)]
      refine ⟨ha1, ha2, bb, c1, c2, fun s hs' => ?_⟩
      rw [c3 s hs', e1, if_neg (by omega)]
  · refine hO.keep2 (fun p hp => cx_rq_n (by omega) (by omega) (by omega) (by omega) (by omega)) (fun p i y _ => ?_) (fun y _ g2 g4 => ?_)
    · rw [mq_hold_iff, mq_hold_iff, e1, e5, eo 8 y (by omega) (by omega) (by omega) (by omega) (by omega) (by omega)]
      by_cases hyx : y = x
      · subst hyx
        rw [if_pos rfl, h0]
        constructor
        · rintro ⟨g, -⟩; omega
        · rintro ⟨g, -⟩; omega
      · rw [if_neg hyx, if_neg hyx]
    · rw [e1] at g2 g4
      by_cases hyx : y = x
      · rw [if_pos hyx] at g2; omega
      · rw [if_neg hyx] at g2 g4
        exact ⟨g2, g4, eo 8 y (by omega) (by omega) (by omega) (by omega) (by omega) (by omega)⟩
  · intro y hy hy0
    by_cases hyx : y = x
    · subst hyx
      unfold rr_G1
      rw [e3, e4, e5, e7]
      simp only [if_true]
      have hs : ∀ k, cx_rq σ m y (pl 1 m).length so z a mk b q (43 + y) k = cx_up (cx_up (cx_up (cx_up σ (43 + y) 0 (nI so)) (43 + y) 1 (nI z)) (43 + y) 2 (nI a)) (43 + y) 4 (nI mk) (43 + y) k := fun k => by
        unfold cx_rq
        rw [cx_up_J (by omega), cx_up_J (by omega), cx_app_n (by omega) (by omega)]
      refine ⟨⟨?_, hso⟩, ⟨z, hz, ?_, rfl⟩, ⟨?_, ha, hal⟩, ⟨?_, hmk⟩, ?_⟩
      · rw [hs]; simp [cx_up]
      · rw [hs]; simp [cx_up]
      · rw [hs]; simp [cx_up]
      · rw [hs]; simp [cx_up]
      · rw [gx_upL_s]; simp [mq_upL]
    · rw [e1, if_neg hyx] at hy0
      have := hG y hy hy0
      unfold rr_G1 at this ⊢
      rw [cx_rq_n (by omega) (by omega) (by omega) (by omega) (by omega), e3, e4, e5, e7, if_neg hyx, if_neg hyx, if_neg hyx, if_neg hyx, gx_upL_J (by omega)]
      refine ⟨this.1, this.2.1, this.2.2.1, this.2.2.2.1, ?_⟩
      rw [this.2.2.2.2]
      simp [mq_upL, hyx]
  · obtain ⟨hB1, hB2, hB3, hB4⟩ := hB
    refine ⟨fun c hc => ?_, fun k hk => ?_, fun k hk => ?_, ?_⟩
    · rw [cx_rq_n (by omega) (by omega) (by omega) (by omega) (by omega), eo 14 c (by omega) (by omega) (by omega) (by omega) (by omega) (by omega)]
      exact hB1 c hc
    · rw [cx_rq_n (by omega) (by omega) (by omega) (by omega) (by omega), eo 15 k (by omega) (by omega) (by omega) (by omega) (by omega) (by omega)]
      exact hB2 k hk
    · rw [e16]
      unfold cx_rq
      by_cases hk1 : k = 1
      · subst hk1
        rw [cx_up_s, if_pos rfl, hB3 1 (by omega), nI_succ]
      · rw [cx_up_k hk1, if_neg hk1, cx_up_J (by omega), cx_app_n (by omega) (by omega), cx_up_J (by omega), cx_up_J (by omega), cx_up_J (by omega), cx_up_J (by omega)]
        exact hB3 k hk
    · rw [e16, e01, if_neg (by omega)]
      omega
  · rw [gx_upL_J (by omega)]
    exact hT
/-! accept -/
theorem rr_R.acc {σ : Nat → Nat → Int32} {τ : Nat → Nat → Int64} {ρ : Nat → Nat → Nat} {μ : Nat → Int64} {lt : Int64} {pl : Nat → Nat → List Nat} (h : rr_R σ τ ρ μ lt pl) {m y : Nat} (hm : m < 3) (hy : y ≤ 1) : rr_R (cx_up σ (2 + 5 * m) 3 (nI y)) τ (mq_up ρ 9 m (1 - y)) μ lt pl := by
  obtain ⟨hL, hP, hJ, hM, hO, hG, hB, hT⟩ := h
  refine ⟨hL.upF (rr_freeM hm), hP, ?_, ?_, ?_, ?_, ?_, hT⟩
  · intro p hp
    rw [cx_up_J (by omega)]
    exact hJ p hp
  · intro i hi
    obtain ⟨a1, a2, a3⟩ := hM i hi
    by_cases him : i = m
    · subst him
      rw [cx_up_k (by omega), cx_up_s, cx_up_k (by omega), mq_up_s]
      exact ⟨a1, ⟨by omega, by rw [show 1 - (1 - y) = y by omega]⟩, a3⟩
    · have e : ∀ j, mq_up ρ 9 m (1 - y) j i = ρ j i := fun j => mq_up_k him
      rw [cx_up_J (by omega), e 10, e 9]
      exact ⟨a1, a2, a3⟩
  · exact hO.keep (fun q hq => cx_up_J (by omega)) (fun _ _ => Iff.rfl) (fun _ => rfl) (fun _ => rfl)
  · exact hG.keep (fun _ _ z => z) (fun q hq => cx_up_J (by omega)) (fun _ => rfl) (fun _ => rfl) (fun _ => rfl) (fun _ => rfl) (fun _ _ => rfl) (fun _ _ => rfl)
  · exact hB.keep (cx_up_J (by omega)) (cx_up_J (by omega)) (cx_up_J (by omega)) (fun _ => rfl) (fun _ => rfl) (fun _ => rfl) (Nat.le_refl _)
/-! take -/
def mq_tk (ρ : Nat → Nat → Nat) (x : Nat) : Nat → Nat → Nat :=
  mq_up (mq_up (mq_up ρ 1 x 0) 16 5 (ρ 16 5 + 1)) 16 6 (ρ 16 6 + (if 640 ≤ ρ 5 x then 1 else 0))
def cx_tk (σ : Nat → Nat → Int32) (m n b q : Nat) (dn : Nat) : Nat → Nat → Int32 :=
  cx_up (cx_up (cx_up (cx_rem σ (5 + 5 * m) n) (2 + 5 * m) 2 (nI (b ^^^ 2 ^ q))) 69 5 (σ 69 5 + 1)) 69 6 (σ 69 6 + nI dn)
theorem cx_tk_n {σ : Nat → Nat → Int32} {m n b q dn j : Nat} (h1 : j ≠ 69) (h2 : j ≠ 2 + 5 * m) (h3 : j ≠ 5 + 5 * m) (h4 : j ≠ 6 + 5 * m) : cx_tk σ m n b q dn j = σ j := by
  unfold cx_tk
  rw [cx_up_J h1, cx_up_J h1, cx_up_J h2, cx_rem_n h3 (by omega)]
theorem mq_tk_sp {ρ : Nat → Nat → Nat} {x : Nat} : (∀ y, mq_tk ρ x 1 y = if y = x then 0 else ρ 1 y) ∧ (∀ j q, j ≠ 1 → j ≠ 16 → mq_tk ρ x j q = ρ j q) ∧ (∀ q, mq_tk ρ x 16 q = if q = 6 then ρ 16 6 + (if 640 ≤ ρ 5 x then 1 else 0) else if q = 5 then ρ 16 5 + 1 else ρ 16 q) := by
  unfold mq_tk mq_up
  refine ⟨fun y => by simp, fun j q h1 h16 => by simp [h1, h16], fun q => by simp⟩
theorem mq_xor_bits {b q : Nat} (hb : b < 256) (hq : q < 8) : b ^^^ 2 ^ q < 256 := by
  have h1 : 2 ^ q < 2 ^ 8 := Nat.pow_lt_pow_right (by omega) hq
  exact Nat.xor_lt_two_pow (n := 8) hb h1
theorem rr_R.tk {σ : Nat → Nat → Int32} {τ : Nat → Nat → Int64} {ρ : Nat → Nat → Nat} {μ : Nat → Int64} {lt : Int64} {pl : Nat → Nat → List Nat} (h : rr_R σ τ ρ μ lt pl) {m x b : Nat} {t : List Nat} (hm : m < 3) (hh : pl 5 m = x :: t) (hb : b < 256) (hb1 : σ (2 + 5 * m) 2 = nI b) (hb2 : ∀ s, s < 8 → b.testBit s = decide (ρ 1 (8 * m + s) ≠ 0)) :
    rr_R (cx_tk σ m t.length b (x % 8) (if 640 ≤ ρ 5 x then 1 else 0)) (gx_upL τ 0 0 (μ x)) (mq_tk ρ x) μ (μ x) (mq_set pl 5 m t) := by
  obtain ⟨hL, hP, hJ, hM, hO, hG, hB, hT⟩ := h
  have ok5 : mq_ok 5 m := Or.inl ⟨by simp, hm⟩
  obtain ⟨hx1, hx2, hx3⟩ := hP.mem ok5 (x := x) (by rw [hh]; simp)
  have hxm : x / 8 = m := by
    unfold mq_in at hx3
    rw [if_pos hm] at hx3
    exact hx3
  obtain ⟨e1, eo, e16⟩ := mq_tk_sp (ρ := ρ) (x := x)
  have l5 : rr_ln 5 m = 5 + 5 * m := by simp [rr_ln]
  generalize hdn : (if 640 ≤ ρ 5 x then 1 else 0 : Nat) = dn at e16 ⊢
  refine ⟨?_, ?_, ?_, ?_, ?_, ?_, ?_, ?_⟩
  · have g1 := hL.rem ok5 (by omega) hh
    rw [l5] at g1
    exact ((g1.upF (rr_freeM hm)).upF (rr_freeB (by omega))).upF (rr_freeB (by omega))
  · exact hP.leave ok5 hh (by rw [e1]; simp) (fun y hy => by rw [e1, if_neg hy]) (fun y => eo 2 y (by omega) (by omega)) (fun y _ => eo 5 y (by omega) (by omega)) (eo 0 1 (by omega) (by omega))
  · intro p hp
    rw [mq_set_n (by omega), cx_tk_n (by omega) (by omega) (by omega) (by omega), eo 12 p (by omega) (by omega), eo 13 p (by omega) (by omega), eo 11 p (by omega) (by omega)]
    exact hJ p hp
  · intro i hi
    obtain ⟨ha1, ha2, bb, c1, c2, c3⟩ := hM i hi
    rw [eo 10 i (by omega) (by omega), eo 9 i (by omega) (by omega)]
    by_cases him : i = m
    · subst him
      have hs : ∀ k, k ≠ 2 → cx_tk σ i t.length b (x % 8) dn (2 + 5 * i) k = σ (2 + 5 * i) k := fun k hk => by
        unfold cx_tk
        rw [cx_up_J (by omega), cx_up_J (by omega), cx_up_k hk, cx_rem_n (by omega) (by omega)]
      rw [hs 4 (by omega), hs 3 (by omega)]
      refine ⟨ha1, ha2, b ^^^ 2 ^ (x % 8), mq_xor_bits hb (by omega), ?_, fun s hs' => ?_⟩
      · unfold cx_tk
        rw [cx_up_J (by omega), cx_up_J (by omega), cx_up_s]
      · rw [Nat.testBit_xor, hb2 s hs', Nat.testBit_two_pow, e1]
        by_cases hsq : x % 8 = s
        · have hxe : 8 * i + s = x := by omega
          rw [hxe, hx2]
          simp [hsq]
        · have : 8 * i + s ≠ x := by omega
          simp [hsq, this]
    · rw [cx_tk_n (by omega) (by omega) (by omega) (by omega)]
      refine ⟨ha1, ha2, bb, c1, c2, fun s hs' => ?_⟩
      rw [c3 s hs', e1, if_neg (by omega)]
  · refine hO.keep2 (fun p hp => cx_tk_n (by omega) (by omega) (by omega) (by omega)) (fun p i y _ => ?_) (fun y _ g2 g4 => ?_)
    · rw [mq_hold_iff, mq_hold_iff, e1, eo 5 y (by omega) (by omega), eo 8 y (by omega) (by omega)]
      by_cases hyx : y = x
      · subst hyx
        rw [if_pos rfl, hx2]
        constructor
        · rintro ⟨g, -⟩; omega
        · rintro ⟨-, g, -⟩; omega
      · rw [if_neg hyx]
    · rw [e1] at g2 g4
      by_cases hyx : y = x
      · rw [if_pos hyx] at g2; omega
      · rw [if_neg hyx] at g2 g4
        exact ⟨g2, g4, eo 8 y (by omega) (by omega)⟩
  · refine hG.keep (fun y _ g0 => ?_) (fun y hy => cx_tk_n (by omega) (by omega) (by omega) (by omega)) (fun y => eo 3 y (by omega) (by omega)) (fun y => eo 4 y (by omega) (by omega)) (fun y => eo 5 y (by omega) (by omega)) (fun y => eo 7 y (by omega) (by omega)) (fun y _ => by rw [gx_upL_J (by omega)]) (fun _ _ => rfl)
    rw [e1] at g0
    by_cases hyx : y = x
    · rw [if_pos hyx] at g0; exact absurd rfl g0
    · rw [if_neg hyx] at g0; exact g0
  · obtain ⟨hB1, hB2, hB3, hB4⟩ := hB
    refine ⟨fun c hc => ?_, fun k hk => ?_, fun k hk => ?_, ?_⟩
    · rw [cx_tk_n (by omega) (by omega) (by omega) (by omega), eo 14 c (by omega) (by omega)]
      exact hB1 c hc
    · rw [cx_tk_n (by omega) (by omega) (by omega) (by omega), eo 15 k (by omega) (by omega)]
      exact hB2 k hk
    · rw [e16]
      unfold cx_tk
      by_cases hk6 : k = 6
      · subst hk6
        rw [cx_up_s, if_pos rfl, hB3 6 (by omega), nI_add]
      · rw [cx_up_k hk6, if_neg hk6]
        by_cases hk5 : k = 5
        · subst hk5
          rw [cx_up_s, if_pos rfl, hB3 5 (by omega), nI_succ]
        · rw [cx_up_k hk5, if_neg hk5, cx_up_J (by omega), cx_rem_n (by omega) (by omega)]
          exact hB3 k hk
    · rw [e16, eo 0 1 (by omega) (by omega), if_neg (by omega), if_neg (by omega)]
      exact hB4
  · rw [gx_upL_s]
end
section
theorem cx_orb : ∀ b, b < 256 → ∀ q, q < 8 → nI b ||| (nI 1 <<< (nI q &&& 31)) = nI (b ||| 2 ^ q) := by decide +kernel
theorem cx_xorb : ∀ b, b < 256 → ∀ q, q < 8 → b.testBit q = true → nI b &&& ((nI 1 <<< (nI q &&& 31)) ^^^ -1) = nI (b ^^^ 2 ^ q) := by decide +kernel
end
section
/-! the crossbar's calls, with arguments that it takes -/
theorem cx_bl {a n : Nat} (h : a < n) (hn : n < 2 ^ 31) : 0 ≤ nI a ∧ nI a < nI n := ⟨nI_pos' (by omega), nI_lt h hn⟩
theorem cx_shl3 {m : Nat} (hm : m < 3) : nI m <<< (nI 3 &&& 31) = nI (m * 2 ^ 3) := pk_shlN (nI 3 &&& 31) 3 (by decide) (by omega)
theorem cx_and7 {x : Nat} (hx : x < 24) : nI x &&& nI 7 = nI (x % 8) := pk_andN (by omega) 3 (by decide)
theorem cx_alg : ∀ z, z < 4 → (nI 1 <<< (nI z &&& 31)) - nI 1 = nI (2 ^ z - 1) := by decide +kernel
theorem cx_algn {a z : Nat} (ha : a < 1024) (hz : z < 4) : nI a &&& ((nI 1 <<< (nI z &&& 31)) - nI 1) = nI (a % 2 ^ z) := by
  rw [cx_alg z hz]
  have : z = 0 ∨ z = 1 ∨ z = 2 ∨ z = 3 := by omega
  rcases this with rfl | rfl | rfl | rfl
  · exact pk_andN (by omega) 0 (by decide)
  · exact pk_andN (by omega) 1 (by decide)
  · exact pk_andN (by omega) 2 (by decide)
  · exact pk_andN (by omega) 3 (by decide)
theorem mq_end_12 {ρ : Nat → Nat → Nat} {p : Nat} : mq_end ρ 12 p = ρ 12 p := by
  unfold mq_end mq_inc
  rw [mq_up_j (by omega), mq_up_j (by omega)]
theorem mq_end_02 {ρ : Nat → Nat → Nat} : mq_end ρ 0 2 = ρ 0 2 := by
  unfold mq_end mq_inc
  rw [mq_up_j (by omega), mq_up_j (by omega)]
theorem mq_end_01 {ρ : Nat → Nat → Nat} : mq_end ρ 0 1 = ρ 0 1 := by
  unfold mq_end mq_inc
  rw [mq_up_j (by omega), mq_up_j (by omega)]
theorem mq_begin_01 {ρ : Nat → Nat → Nat} {p : Nat} : mq_begin ρ p 0 1 ≤ ρ 0 1 + 1 := by
  unfold mq_begin
  cases mq_first ρ 2 (3 + p) with
  | none => exact Nat.le_succ _
  | some x =>
    show mq_go _ x 3 0 1 ≤ _
    rw [mq_go_01, mq_up_j (by omega)]
    exact Nat.le_refl _
theorem mq_serve_01 {ρ : Nat → Nat → Nat} {μ : Nat → Int64} {p : Nat} : (mq_serve ρ μ p).1 0 1 ≤ ρ 0 1 + 2 := by
  unfold mq_serve
  cases mq_first ρ 3 (3 + p) with
  | none =>
    have := mq_begin_01 (ρ := ρ) (p := p)
    show mq_begin ρ p 0 1 ≤ _
    omega
  | some x =>
    show (match mq_finD (mq_cd ρ p) p with | none => (mq_cd ρ p, μ) | some _ => _).1 0 1 ≤ _
    cases mq_finD (mq_cd ρ p) p with
    | none =>
      show mq_cd ρ p 0 1 ≤ _
      unfold mq_cd
      rw [mq_up_j (by omega)]
      omega
    | some y =>
      show mq_begin (mq_fin _ p x) p 0 1 ≤ _
      have h1 := mq_begin_01 (ρ := mq_fin (mq_work (mq_cd ρ p) (μ x) x).1 p x) (p := p)
      rw [mq_work_01] at h1
      unfold mq_cd at h1
      rw [mq_up_j (by omega)] at h1
      exact h1
theorem mq_srv_01 {ρ : Nat → Nat → Nat} {μ : Nat → Int64} : ∀ n, (mq_srv ρ μ n).1 0 1 ≤ ρ 0 1 + 2 * n := by
  intro n
  induction n with
  | zero => exact Nat.le_refl _
  | succ n ih =>
    have := mq_serve_01 (ρ := (mq_srv ρ μ n).1) (μ := (mq_srv ρ μ n).2) (p := n)
    show (mq_serve (mq_srv ρ μ n).1 (mq_srv ρ μ n).2 n).1 0 1 ≤ _
    omega
theorem mq_fetch_01 {ρ : Nat → Nat → Nat} {p : Nat} : mq_fetch ρ p 0 1 ≤ ρ 0 1 + 1 := by
  unfold mq_fetch
  cases mq_reqD ρ p with
  | none => exact Nat.le_succ _
  | some k => exact Nat.le_of_eq mq_reqM_sp.2.2.2.2.2.2.1
theorem mq_ftc_01 {ρ : Nat → Nat → Nat} : ∀ n, mq_ftc ρ n 0 1 ≤ ρ 0 1 + n := by
  intro n
  induction n with
  | zero => exact Nat.le_refl _
  | succ n ih =>
    have := mq_fetch_01 (ρ := mq_ftc ρ n) (p := n)
    show mq_fetch (mq_ftc ρ n) n 0 1 ≤ _
    omega
theorem mq_tick1_01 {ρ : Nat → Nat → Nat} {μ : Nat → Int64} : (mq_tick1 ρ μ).1 0 1 ≤ ρ 0 1 + 16 := by
  show mq_end (mq_mid ρ μ).1 0 1 ≤ _
  rw [mq_end_01]
  show mq_ftc (mq_srv (mq_ansN (mq_up ρ 0 2 0) 3) μ 4).1 4 0 1 ≤ _
  have h1 := mq_ftc_01 (ρ := (mq_srv (mq_ansN (mq_up ρ 0 2 0) 3) μ 4).1) 4
  have h2 := mq_srv_01 (ρ := mq_ansN (mq_up ρ 0 2 0) 3) (μ := μ) 4
  have h3 := mq_ansN_01 (ρ := ρ) (v := 0) 3
  omega

set_option maxHeartbeats 4000000 in
set_option maxRecDepth 100000 in
theorem k_X_tick (l : Launch) {D : va_G} {K : Nat → ClassId} {ad : Nat → Nat} {σ : Nat → Nat → Int32} {τ : Nat → Nat → Int64} {n : Nat} (hn : n ≤ 10000) {ρ : Nat → Nat → Nat} {μ : Nat → Int64} {lt : Int64} {pl : Nat → Nat → List Nat} (hR : rr_R σ τ ρ μ lt pl) (hmv : ρ 0 1 + 16 * n + 64 < 2 ^ 31) : Met l yX_tick (Cond.code yX_tick prog_1_method_4_code 4 (some .int) :: mx_T) { frames := 6, cells := 0, slots := 0, locals := 135 } (va_Pc [.ref (ad 0), .int (nI n)] (cx_P D K ad σ τ)) (cx_Qi D K ad (fun rr u => ∃ pl' : Nat → Nat → List Nat, rr = nI ((mq_tick ρ μ n).1 16 0) ∧ rr_R u.1 u.2 (mq_tick ρ μ n).1 (mq_tick ρ μ n).2 lt pl')) 0 0 (gx_A ad 70) := by
  refine gx_met (by decide) rfl (Nat.le_of_ble_eq_true rfl) ?_
  intro pg ev s mid as below mth c ls hx hb hr hml ht hown hlk hnm hargs hB hl
  obtain ⟨hV, hZ⟩ := hB
  have hS : va_S (gx_A ad 70) s.heap s.heap [] := va_S.rf
  have hl : lv_has ls 4 [(0, .ref (ad 0)), (1, .int (nI n))] := hl
  refine lv_iload_n hx hb dX_tick_0 rfl (lv_at hl 1 rfl) ?_
  refine lv_if_lt (tgt := 11) hx hb dX_tick_1 (by decide) (fun h1 => ?_) (fun h1 => ?_)
  · exact absurd h1 (nI_pos (by omega))
  · refine lv_iload_n hx hb dX_tick_4 rfl (lv_at hl 1 rfl) ?_
    refine lv_sipush (v := nI 10000) hx hb dX_tick_5 (by decide) ?_
    refine gx_icmp_le (a := n) (b := 10000) (tgt := 19) hx hb dX_tick_8 (by decide) (by omega) (by omega) (fun h8 => ?_) (fun h8 => ?_)
    · refine lv_iconst (v := nI 0) hx hb dX_tick_19 (by decide) ?_
      refine lv_istore_n (lv' := [(2, .int (nI 0)), (0, .ref (ad 0)), (1, .int (nI n))]) hx hb dX_tick_20 rfl hl (by decide) rfl (fun ls hl => ?_)
      have loop : ∀ (k : Nat) (i : Nat) (σ1 : Nat → Nat → Int32) (τ1 : Nat → Nat → Int64) (ρ1 : Nat → Nat → Nat) (μ1 : Nat → Int64) (pl1 : Nat → Nat → List Nat) (H : Heap) (locs : List Loc) (ls : Array Slot), i + k = n → mq_tick ρ μ i = (ρ1, μ1) → ρ1 0 1 ≤ ρ 0 1 + 16 * i → rr_R σ1 τ1 ρ1 μ1 lt pl1 → gx_V D mx_cl (mx_tys K) (cx_E ad K) ad 70 (σ1) (τ1) s H → va_S (gx_A ad 70) s.heap H locs → lv_has ls 4 [(2, .int (nI i)), (0, .ref (ad 0)), (1, .int (nI n))] → W pg l ev (headSpec (Cond.code yX_tick prog_1_method_4_code 4 (some .int) :: mx_T) { frames := 6, cells := 0, slots := 0, locals := 135 }).room s mid as below mth c H locs 0 0 (MQ below (cx_Qi D K ad (fun rr u => ∃ pl' : Nat → Nat → List Nat, rr = nI ((mq_tick ρ μ n).1 16 0) ∧ rr_R u.1 u.2 (mq_tick ρ μ n).1 (mq_tick ρ μ n).2 lt pl')) as s 0 0 (gx_A ad 70)) (F0 mid 21 ls []) := by
        intro k
        induction k with
        | zero =>
          intro i σ1 τ1 ρ1 μ1 pl1 H locs ls hk hs hm1 R1 hV hS hl
          refine lv_iload_n hx hb dX_tick_21 rfl (lv_at hl 0 rfl) ?_
          refine lv_iload_n hx hb dX_tick_22 rfl (lv_at hl 2 rfl) ?_
          refine gx_icmp_ge (a := i) (b := n) (tgt := 60) hx hb dX_tick_23 (by decide) (by omega) (by omega) (fun h23 => ?_) (fun h23 => ?_)
          · refine lv_aload_n hx hb dX_tick_60 rfl (lv_at hl 1 rfl) ?_
            refine gx_get (C := mR_X) (T := mT_X) (N' := 7) hx hb ht mh_X hown hV (by decide) cx_E_X rfl 5 (by decide) (ht _ mw_134) (fun _ h => h) rfl dX_tick_61 ?_
            refine lv_iconst (v := nI 0) hx hb dX_tick_64 (by decide) ?_
            refine gx_ialdv (v := nI (ρ1 16 0)) hx hb hV (by decide) 0 cx_E_Ct rfl 0 (by decide) (by decide) rfl (R1.2.2.2.2.2.2.1.2.2.1 0 (by omega)) dX_tick_65 ?_
            exact gx_iret hx hb hr hV hS ⟨pl1, by rw [show n = i by omega, hs], by rw [show n = i by omega, hs]; exact R1⟩ dX_tick_66 hlk
          · exact absurd h23 (by omega)
        | succ k ih =>
          intro i σ1 τ1 ρ1 μ1 pl1 H locs ls hk hs hm1 R1 hV hS hl
          refine lv_iload_n hx hb dX_tick_21 rfl (lv_at hl 0 rfl) ?_
          refine lv_iload_n hx hb dX_tick_22 rfl (lv_at hl 2 rfl) ?_
          refine gx_icmp_ge (a := i) (b := n) (tgt := 60) hx hb dX_tick_23 (by decide) (by omega) (by omega) (fun h23 => ?_) (fun h23 => ?_)
          · exact absurd h23 (by omega)
          · refine lv_aload_n hx hb dX_tick_26 rfl (lv_at hl 1 rfl) ?_
            refine gx_calli (va_runV (As := []) (rest := []) ⟨hx, hb, hml, hown, ht⟩ (k_X_runTick l R1 (by omega)) (cwV 0 ht (mx_gV (C := "MessageCrossbar") mw_273 mw_275 ms_1 mw_1 mw_276) rfl rfl rfl (by decide +kernel) ⟨Nat.le_of_ble_eq_true rfl, Nat.le_of_ble_eq_true rfl⟩) (gx_preV cx_ok hV hZ hS (q := (mR_X, mT_X, 7)) (by decide) cx_E_X rfl []) rfl rfl hl.1 rfl (lv_room (Nat.le_of_ble_eq_true rfl)) dX_tick_27 ⟨Nat.le_of_ble_eq_true rfl, Nat.le_of_ble_eq_true rfl⟩) hV hS (fun r9 σ' τ' H locs hp hV hS => ?_)
            obtain ⟨pl2, hr9, R2⟩ := hp
            generalize hσ2 : σ' = σ2 at hV R2
            generalize hτ2 : τ' = τ2 at hV R2
            have hs2 : mq_tick ρ μ (i + 1) = mq_tick1 ρ1 μ1 := by show mq_tick1 (mq_tick ρ μ i).1 (mq_tick ρ μ i).2 = _; rw [hs]
            have hm2 := mq_tick1_01 (ρ := ρ1) (μ := μ1)
            obtain ⟨ρ2, μ2, h12⟩ : ∃ x y, mq_tick1 ρ1 μ1 = (x, y) := ⟨_, _, rfl⟩
            have hq2 : (mq_mid ρ1 μ1).1 0 2 = 0 → (∀ p, p < 4 → ρ2 12 p = 0) → mq_quiet ρ2 ∧ ρ2 0 2 = 0 := by
              intro q0 q12
              have e1 : ρ2 = mq_end (mq_mid ρ1 μ1).1 := by have := congrArg Prod.fst h12; exact this.symm
              refine ⟨?_, by rw [e1, mq_end_02]; exact q0⟩
              have := mq_still (ρ := ρ1) (μ := μ1) (by omega) (fun p hp => by have := q12 p hp; rw [e1, mq_end_12] at this; exact this)
              rw [h12] at this
              exact this
            rw [h12] at R2 hs2 hm2
            have hm2 : ρ2 0 1 ≤ ρ1 0 1 + 16 := hm2
            by_cases hz : (mq_mid ρ1 μ1).1 0 2 = 0
            · rw [if_pos hz] at hr9
              subst hr9
              refine lv_istore_n (lv' := [(3, .int (nI 0)), (2, .int (nI i)), (0, .ref (ad 0)), (1, .int (nI n))]) hx hb dX_tick_30 rfl hl (by decide) rfl (fun ls hl => ?_)
              refine lv_iload_n hx hb dX_tick_31 rfl (lv_at hl 0 rfl) ?_
              refine gx_if_ne (a := 0) (tgt := 54) hx hb dX_tick_32 (by decide) (by omega) (fun h32 => ?_) (fun h32 => ?_)
              · exact absurd rfl h32
              · refine lv_aload_n hx hb dX_tick_35 rfl (lv_at hl 2 rfl) ?_
                refine gx_calli (va_runV (As := []) (rest := []) ⟨hx, hb, hml, hown, ht⟩ (k_X_anyJobRuns l (tl := ρ2 12) (fun q hq => ⟨(R2.2.2.1 q hq).2.2.1, (R2.2.2.1 q hq).2.2.2.2.1⟩)) (cwV 0 ht (mx_gV (C := "MessageCrossbar") mw_403 mw_405 ms_14 mw_1 mw_406) rfl rfl rfl (by decide +kernel) ⟨Nat.le_of_ble_eq_true rfl, Nat.le_of_ble_eq_true rfl⟩) (gx_preV cx_ok hV hZ hS (q := (mR_X, mT_X, 7)) (by decide) cx_E_X rfl []) rfl rfl hl.1 rfl (lv_room (Nat.le_of_ble_eq_true rfl)) dX_tick_36 ⟨Nat.le_of_ble_eq_true rfl, Nat.le_of_ble_eq_true rfl⟩) hV hS (fun r2 σ' τ' H locs hp hV hS => ?_)
                obtain ⟨rfl, hu⟩ := hp
                cases hu
                refine gx_ifb_ne (q := (mq_fnd (fun q => decide (0 < ρ2 12 q)) 0 4).isSome = true) (tgt := 54) hx hb dX_tick_39 (by decide) (fun h39 => ?_) (fun h39 => ?_)
                · refine lv_iinc (k := 1) (v := (nI (i + 1))) (lv' := [(2, .int (nI (i + 1))), (3, .int (nI 0)), (0, .ref (ad 0)), (1, .int (nI n))]) hx hb dX_tick_54 hl rfl (nI_succ i).symm (by decide) rfl (fun ls hl => ?_)
                  refine lv_goto (tgt := 21) hx hb dX_tick_57 (by decide) ?_
                  exact ih (i + 1) _ _ ρ2 μ2 pl2 H locs ls (by omega) hs2 (by omega) R2 hV hS (lv_sub hl [0, 2, 3] rfl)
                · refine lv_aload_n hx hb dX_tick_42 rfl (lv_at hl 2 rfl) ?_
                  refine lv_iload_n hx hb dX_tick_43 rfl (lv_at hl 3 rfl) ?_
                  refine lv_iconst (v := nI 1) hx hb dX_tick_44 (by decide) ?_
                  refine gx_isub (a := n) (b := 1) hx hb dX_tick_45 (by omega) ?_
                  refine lv_iload_n hx hb dX_tick_46 rfl (lv_at hl 1 rfl) ?_
                  refine gx_isub (a := (n - 1)) (b := i) hx hb dX_tick_47 (by omega) ?_
                  have h12z : ∀ p, p < 4 → ρ2 12 p = 0 := fun p hp => by have := (mq_fnd_sp (p := fun q => decide (0 < ρ2 12 q)) 4 0).2 (by cases hh : mq_fnd (fun q => decide (0 < ρ2 12 q)) 0 4 with | none => rfl | some y => rw [hh] at h39; exact absurd rfl h39) p (by omega) (by omega); simpa using this
                  obtain ⟨hqu, hq0⟩ := hq2 hz h12z
                  have R3 := R2.tickEnd (a := n - 1 - i) (b := n - 1 - i)
                  have hend : mq_tick ρ μ n = (mq_bump ρ2 (n - 1 - i), μ2) := by rw [show n = (i + 1) + (n - 1 - i) by omega, mq_tick_add, hs2]; rw [show i + 1 + (n - 1 - i) - 1 - i = n - 1 - i by omega]; exact hqu.tick hq0 (n - 1 - i)
                  refine gx_callv (va_runV (As := [.int (nI ((n - 1) - i))]) (rest := []) ⟨hx, hb, hml, hown, ht⟩ (k_X_countStillTicks l) (cwV 1 ht (mx_gV (C := "MessageCrossbar") mw_407 mw_409 ms_15 mw_1 mw_410) rfl rfl rfl (by decide +kernel) ⟨Nat.le_of_ble_eq_true rfl, Nat.le_of_ble_eq_true rfl⟩) (gx_preV cx_ok hV hZ hS (q := (mR_X, mT_X, 7)) (by decide) cx_E_X rfl [.int (nI ((n - 1) - i))]) rfl rfl hl.1 rfl (lv_room (Nat.le_of_ble_eq_true rfl)) dX_tick_48 ⟨Nat.le_of_ble_eq_true rfl, Nat.le_of_ble_eq_true rfl⟩) hV hS (fun σ' τ' H locs hp hV hS => ?_)
                  cases hp
                  refine lv_goto (tgt := 60) hx hb dX_tick_51 (by decide) ?_
                  refine lv_aload_n hx hb dX_tick_60 rfl (lv_at hl 2 rfl) ?_
                  refine gx_get (C := mR_X) (T := mT_X) (N' := 7) hx hb ht mh_X hown hV (by decide) cx_E_X rfl 5 (by decide) (ht _ mw_134) (fun _ h => h) rfl dX_tick_61 ?_
                  refine lv_iconst (v := nI 0) hx hb dX_tick_64 (by decide) ?_
                  refine gx_ialdv (v := nI (mq_bump ρ2 (n - 1 - i) 16 0)) hx hb hV (by decide) 0 cx_E_Ct rfl 0 (by decide) (by decide) rfl (R3.2.2.2.2.2.2.1.2.2.1 0 (by omega)) dX_tick_65 ?_
                  exact gx_iret hx hb hr hV hS ⟨pl2, by rw [hend], by rw [hend]; exact R3⟩ dX_tick_66 hlk
            · rw [if_neg hz] at hr9
              subst hr9
              refine lv_istore_n (lv' := [(3, .int (nI 1)), (2, .int (nI i)), (0, .ref (ad 0)), (1, .int (nI n))]) hx hb dX_tick_30 rfl hl (by decide) rfl (fun ls hl => ?_)
              refine lv_iload_n hx hb dX_tick_31 rfl (lv_at hl 0 rfl) ?_
              refine gx_if_ne (a := 1) (tgt := 54) hx hb dX_tick_32 (by decide) (by omega) (fun h32 => ?_) (fun h32 => ?_)
              · refine lv_iinc (k := 1) (v := (nI (i + 1))) (lv' := [(2, .int (nI (i + 1))), (3, .int (nI 1)), (0, .ref (ad 0)), (1, .int (nI n))]) hx hb dX_tick_54 hl rfl (nI_succ i).symm (by decide) rfl (fun ls hl => ?_)
                refine lv_goto (tgt := 21) hx hb dX_tick_57 (by decide) ?_
                exact ih (i + 1) _ _ ρ2 μ2 pl2 H locs ls (by omega) hs2 (by omega) R2 hV hS (lv_sub hl [0, 2, 3] rfl)
              · exact absurd h32 (by decide)
      exact loop n 0 _ _ _ _ _ _ _ ls (by omega) rfl (by omega) hR hV hS hl
    · exact absurd h8 (by omega)
end
section
/-! the crossbar's other calls -/
theorem cx_fb1 {f : Nat} (h : f ≤ 1) : fits .boolean (.int (nI f)) = true := by
  have : f = 0 ∨ f = 1 := by omega
  rcases this with rfl | rfl <;> rfl
theorem cx_tk0 {σ : Nat → Nat → Int32} {m n b q : Nat} (hm : m < 3) : cx_tk σ m n b q 0 = cx_up (cx_up (cx_rem σ (5 + 5 * m) n) (2 + 5 * m) 2 (nI (b ^^^ 2 ^ q))) 69 5 (σ 69 5 + 1) := by
  unfold cx_tk
  apply cx_up_same
  rw [cx_up_k (by omega), cx_up_J (by omega), cx_rem_n (by omega) (by omega)]
  show σ 69 6 = σ 69 6 + 0
  rw [Int32.add_zero]

set_option maxHeartbeats 4000000 in
set_option maxRecDepth 100000 in
theorem k_X_request (l : Launch) {D : va_G} {K : Nat → ClassId} {ad : Nat → Nat} {σ : Nat → Nat → Int32} {τ : Nat → Nat → Int64} {m q so z a mk : Nat} {d : Int64} (hm : m < 3) (hq : q < 8) (hso : so < 3) (hz : z < 4) (ha : a < 1024) (hal : a % 2 ^ z = 0) (hmk : mk < 256) {ρ : Nat → Nat → Nat} {μ : Nat → Int64} {lt : Int64} {pl : Nat → Nat → List Nat} (hR : rr_R σ τ ρ μ lt pl) : Met l yX_request (Cond.code yX_request prog_1_method_2_code 11 (some .int) :: mx_T) { frames := 2, cells := 0, slots := 0, locals := 42 } (va_Pc [.ref (ad 0), .int (nI m), .int (nI q), .int (nI so), .int (nI z), .int (nI a), .long d, .int (nI mk)] (cx_P D K ad σ τ)) (cx_Qi D K ad (fun rr u => (ρ 1 (8 * m + q) ≠ 0 ∨ 8 ≤ (pl 1 m).length → rr = -1 ∧ u = (σ, τ)) ∧ (ρ 1 (8 * m + q) = 0 → (pl 1 m).length < 8 → rr = nI ((pl 1 m).length + 1) ∧ rr_R u.1 u.2 (mq_rq ρ (8 * m + q) so z a mk) (mq_upL μ (8 * m + q) d) lt (mq_set pl 1 m (pl 1 m ++ [8 * m + q]))))) 0 0 (gx_A ad 70) := by
  refine gx_met (by decide) rfl (Nat.le_of_ble_eq_true rfl) ?_
  intro pg ev s mid as below mth c ls hx hb hr hml ht hown hlk hnm hargs hB hl
  obtain ⟨hV, hZ⟩ := hB
  have hS : va_S (gx_A ad 70) s.heap s.heap [] := va_S.rf
  have hl : lv_has ls 11 [(0, .ref (ad 0)), (1, .int (nI m)), (2, .int (nI q)), (3, .int (nI so)), (4, .int (nI z)), (5, .int (nI a)), (6, .long d), (8, .int (nI mk))] := hl
  have hR0 := hR
  obtain ⟨hL, hP, hJ, hM, hO, hG, hBB, hT⟩ := hR
  have hx24 : 8 * m + q < 24 := by omega
  obtain ⟨-, -, b, hb0, hb1, hb2⟩ := hM m hm
  have hw := hL 1 m (Or.inl ⟨by simp, hm⟩) (by omega)
  rw [show rr_ln 1 m = 3 + 5 * m by simp [rr_ln], show rr_room 1 = 8 from rfl] at hw
  have hbq : b / 2 ^ q % 2 = 1 ↔ ρ 1 (8 * m + q) ≠ 0 := by have := hb2 q hq; rw [Nat.testBit_eq_decide_div_mod_eq] at this; exact decide_eq_decide.mp this
  refine lv_iload_n hx hb dX_request_0 rfl (lv_at hl 1 rfl) ?_
  refine lv_iconst (v := nI 3) hx hb dX_request_1 (by decide) ?_
  refine gx_callp (va_runS (As := [.int (nI m), .int (nI 3)]) (rest := []) ⟨hx, hb, hml, hown, ht⟩ (k_X_isBelow l) (cwS 2 ht (mx_gS mw_160 mw_161 mw_1 mw_162) rfl rfl rfl (by decide +kernel) ⟨Nat.le_of_ble_eq_true rfl, Nat.le_of_ble_eq_true rfl⟩) (gx_preP [.int (nI m), .int (nI 3)]) rfl rfl hl.1 rfl (lv_room (Nat.le_of_ble_eq_true rfl)) dX_request_2 ⟨Nat.le_of_ble_eq_true rfl, Nat.le_of_ble_eq_true rfl⟩) hV hS (fun r1 H locs hp hV hS => ?_)
  subst hp
  refine gx_ifb_eq (q := 0 ≤ nI m ∧ nI m < nI 3) (tgt := 46) hx hb dX_request_5 (by decide) (fun h5 => ?_) (fun h5 => ?_)
  · exact absurd (cx_bl hm (by decide)) h5
  · refine lv_iload_n hx hb dX_request_8 rfl (lv_at hl 2 rfl) ?_
    refine lv_bipush (v := nI 8) hx hb dX_request_9 (by decide) ?_
    refine gx_callp (va_runS (As := [.int (nI q), .int (nI 8)]) (rest := []) ⟨hx, hb, hml, hown, ht⟩ (k_X_isBelow l) (cwS 2 ht (mx_gS mw_160 mw_161 mw_1 mw_162) rfl rfl rfl (by decide +kernel) ⟨Nat.le_of_ble_eq_true rfl, Nat.le_of_ble_eq_true rfl⟩) (gx_preP [.int (nI q), .int (nI 8)]) rfl rfl hl.1 rfl (lv_room (Nat.le_of_ble_eq_true rfl)) dX_request_11 ⟨Nat.le_of_ble_eq_true rfl, Nat.le_of_ble_eq_true rfl⟩) hV hS (fun r2 H locs hp hV hS => ?_)
    subst hp
    refine gx_ifb_eq (q := 0 ≤ nI q ∧ nI q < nI 8) (tgt := 46) hx hb dX_request_14 (by decide) (fun h14 => ?_) (fun h14 => ?_)
    · exact absurd (cx_bl hq (by decide)) h14
    · refine lv_iload_n hx hb dX_request_17 rfl (lv_at hl 3 rfl) ?_
      refine lv_iconst (v := nI 3) hx hb dX_request_18 (by decide) ?_
      refine gx_callp (va_runS (As := [.int (nI so), .int (nI 3)]) (rest := []) ⟨hx, hb, hml, hown, ht⟩ (k_X_isBelow l) (cwS 2 ht (mx_gS mw_160 mw_161 mw_1 mw_162) rfl rfl rfl (by decide +kernel) ⟨Nat.le_of_ble_eq_true rfl, Nat.le_of_ble_eq_true rfl⟩) (gx_preP [.int (nI so), .int (nI 3)]) rfl rfl hl.1 rfl (lv_room (Nat.le_of_ble_eq_true rfl)) dX_request_19 ⟨Nat.le_of_ble_eq_true rfl, Nat.le_of_ble_eq_true rfl⟩) hV hS (fun r3 H locs hp hV hS => ?_)
      subst hp
      refine gx_ifb_eq (q := 0 ≤ nI so ∧ nI so < nI 3) (tgt := 46) hx hb dX_request_22 (by decide) (fun h22 => ?_) (fun h22 => ?_)
      · exact absurd (cx_bl hso (by decide)) h22
      · refine lv_iload hx hb dX_request_25 (lv_at hl 5 rfl) ?_
        refine lv_iload hx hb dX_request_27 (lv_at hl 4 rfl) ?_
        refine gx_callp (va_runS (As := [.int (nI a), .int (nI z)]) (rest := []) ⟨hx, hb, hml, hown, ht⟩ (k_X_isAligned l) (cwS 2 ht (mx_gS mw_178 mw_179 mw_1 mw_180) rfl rfl rfl (by decide +kernel) ⟨Nat.le_of_ble_eq_true rfl, Nat.le_of_ble_eq_true rfl⟩) (gx_preP [.int (nI a), .int (nI z)]) rfl rfl hl.1 rfl (lv_room (Nat.le_of_ble_eq_true rfl)) dX_request_29 ⟨Nat.le_of_ble_eq_true rfl, Nat.le_of_ble_eq_true rfl⟩) hV hS (fun r4 H locs hp hV hS => ?_)
        subst hp
        refine gx_ifb_eq (q := (0 ≤ nI z ∧ nI z < nI 4) ∧ (0 ≤ nI a ∧ nI a < nI 1024) ∧ nI a &&& ((nI 1 <<< (nI z &&& 31)) - nI 1) = 0) (tgt := 46) hx hb dX_request_32 (by decide) (fun h32 => ?_) (fun h32 => ?_)
        · exact absurd ⟨cx_bl hz (by decide), cx_bl ha (by decide), by rw [cx_algn ha hz, hal]; rfl⟩ h32
        · refine lv_iload hx hb dX_request_35 (lv_at hl 7 rfl) ?_
          refine lv_sipush (v := nI 256) hx hb dX_request_37 (by decide) ?_
          refine gx_callp (va_runS (As := [.int (nI mk), .int (nI 256)]) (rest := []) ⟨hx, hb, hml, hown, ht⟩ (k_X_isBelow l) (cwS 2 ht (mx_gS mw_160 mw_161 mw_1 mw_162) rfl rfl rfl (by decide +kernel) ⟨Nat.le_of_ble_eq_true rfl, Nat.le_of_ble_eq_true rfl⟩) (gx_preP [.int (nI mk), .int (nI 256)]) rfl rfl hl.1 rfl (lv_room (Nat.le_of_ble_eq_true rfl)) dX_request_40 ⟨Nat.le_of_ble_eq_true rfl, Nat.le_of_ble_eq_true rfl⟩) hV hS (fun r5 H locs hp hV hS => ?_)
          subst hp
          refine gx_ifb_ne (q := 0 ≤ nI mk ∧ nI mk < nI 256) (tgt := 54) hx hb dX_request_43 (by decide) (fun h43 => ?_) (fun h43 => ?_)
          · refine lv_aload_n hx hb dX_request_54 rfl (lv_at hl 0 rfl) ?_
            refine gx_get (C := mR_X) (T := mT_X) (N' := 7) hx hb ht mh_X hown hV (by decide) cx_E_X rfl 0 (by decide) (ht _ mw_129) (fun _ h => h) rfl dX_request_55 ?_
            refine lv_iload_n hx hb dX_request_58 rfl (lv_at hl 1 rfl) ?_
            refine gx_aald hx hb hV (by decide) 4 cx_E_Ms rfl m hm (by decide) rfl rfl dX_request_59 ?_
            refine lv_astore (lv' := [(9, .ref (ad (2 + 5 * m))), (0, .ref (ad 0)), (1, .int (nI m)), (2, .int (nI q)), (3, .int (nI so)), (4, .int (nI z)), (5, .int (nI a)), (6, .long d), (8, .int (nI mk))]) hx hb dX_request_60 hl (by decide) rfl (fun ls hl => ?_)
            refine lv_aload hx hb dX_request_62 (lv_at hl 0 rfl) ?_
            refine lv_iload_n hx hb dX_request_64 rfl (lv_at hl 3 rfl) ?_
            refine gx_calli (va_runV (As := [.int (nI q)]) (rest := []) ⟨hx, hb, hml, hown, ht⟩ (k_M_hasInFlight l hm hb1 hb0 hq) (cwV 1 ht (mx_gV (C := "MessageCrossbar$Master") mw_243 mw_244 mw_245 mw_2 mw_246) rfl rfl rfl (by decide +kernel) ⟨Nat.le_of_ble_eq_true rfl, Nat.le_of_ble_eq_true rfl⟩) (gx_preV cx_ok hV hZ hS (q := (mR_M, mT_M, 5)) (show 2 + 5 * m < 70 by omega) (cx_E_M hm) rfl [.int (nI q)]) rfl rfl hl.1 rfl (lv_room (Nat.le_of_ble_eq_true rfl)) dX_request_65 ⟨Nat.le_of_ble_eq_true rfl, Nat.le_of_ble_eq_true rfl⟩) hV hS (fun r6 σ' τ' H locs hp hV hS => ?_)
            obtain ⟨rfl, hu⟩ := hp
            cases hu
            refine gx_ifb_ne (q := b / 2 ^ q % 2 = 1) (tgt := 82) hx hb dX_request_68 (by decide) (fun h68 => ?_) (fun h68 => ?_)
            · refine lv_iconst (v := -1) hx hb dX_request_82 (by decide) ?_
              exact gx_iret hx hb hr hV hS ⟨fun _ => ⟨rfl, rfl⟩, fun q0 _ => absurd q0 (hbq.mp h68)⟩ dX_request_83 hlk
            · refine lv_aload hx hb dX_request_71 (lv_at hl 0 rfl) ?_
              refine gx_get (C := mR_M) (T := mT_M) (N' := 5) hx hb ht mh_M hown hV (show 2 + 5 * m < 70 by omega) (cx_E_M hm) rfl 0 (by decide) (ht _ mw_45) (fun _ h => h) rfl dX_request_73 ?_
              refine gx_calli (va_runV (As := []) (rest := []) ⟨hx, hb, hml, hown, ht⟩ (k_L_isFull l (cx_isL_W hm) hw.1.1 hw.2) (cwV 0 ht (mx_gV (C := "MessageCrossbar$Line") mw_247 mw_248 mw_249 mw_3 mw_250) rfl rfl rfl (by decide +kernel) ⟨Nat.le_of_ble_eq_true rfl, Nat.le_of_ble_eq_true rfl⟩) (gx_preV cx_ok hV hZ hS (q := (mR_L, mT_L, 2)) ((cx_isL_W hm)).lt.1 (cx_E_L (cx_isL_W hm)).1 rfl []) rfl rfl hl.1 rfl (lv_room (Nat.le_of_ble_eq_true rfl)) dX_request_76 ⟨Nat.le_of_ble_eq_true rfl, Nat.le_of_ble_eq_true rfl⟩) hV hS (fun r7 σ' τ' H locs hp hV hS => ?_)
              obtain ⟨rfl, hu⟩ := hp
              cases hu
              refine gx_ifb_eq (q := 8 ≤ (pl 1 m).length) (tgt := 84) hx hb dX_request_79 (by decide) (fun h79 => ?_) (fun h79 => ?_)
              · refine lv_iload_n hx hb dX_request_84 rfl (lv_at hl 2 rfl) ?_
                refine lv_iconst (v := nI 3) hx hb dX_request_85 (by decide) ?_
                refine lv_ishl hx hb dX_request_86 ?_
                refine gx_top (cx_shl3 hm) ?_
                refine lv_iload_n hx hb dX_request_87 rfl (lv_at hl 3 rfl) ?_
                refine gx_iadd (a := (m * 2 ^ 3)) (b := q) hx hb dX_request_88 ?_
                refine gx_top (by rw [show m * 2 ^ 3 + q = 8 * m + q by omega]) ?_
                refine lv_istore (lv' := [(10, .int (nI (8 * m + q))), (9, .ref (ad (2 + 5 * m))), (0, .ref (ad 0)), (1, .int (nI m)), (2, .int (nI q)), (3, .int (nI so)), (4, .int (nI z)), (5, .int (nI a)), (6, .long d), (8, .int (nI mk))]) hx hb dX_request_89 hl (by decide) rfl (fun ls hl => ?_)
                refine lv_aload_n hx hb dX_request_91 rfl (lv_at hl 2 rfl) ?_
                refine gx_get (C := mR_X) (T := mT_X) (N' := 7) hx hb ht mh_X hown hV (by decide) cx_E_X rfl 2 (by decide) (ht _ mw_131) (fun _ h => h) rfl dX_request_92 ?_
                refine lv_iload hx hb dX_request_95 (lv_at hl 0 rfl) ?_
                refine gx_aald hx hb hV (by decide) 6 cx_E_Gs rfl (8 * m + q) hx24 (by decide) rfl rfl dX_request_97 ?_
                refine lv_iload_n hx hb dX_request_98 rfl (lv_at hl 5 rfl) ?_
                refine lv_iload hx hb dX_request_99 (lv_at hl 6 rfl) ?_
                refine lv_iload hx hb dX_request_101 (lv_at hl 7 rfl) ?_
                refine lv_lload hx hb dX_request_103 (lv_at hl 8 rfl) ?_
                refine lv_iload hx hb dX_request_105 (lv_at hl 9 rfl) ?_
                refine gx_callv (va_runV (As := [.int (nI so), .int (nI z), .int (nI a), .long d, .int (nI mk)]) (rest := []) ⟨hx, hb, hml, hown, ht⟩ (k_G_become l hx24) (cwV 5 ht (mx_gV (C := "MessageCrossbar$Message") mw_251 mw_252 mw_253 mw_5 mw_254) rfl rfl rfl (by decide +kernel) ⟨Nat.le_of_ble_eq_true rfl, Nat.le_of_ble_eq_true rfl⟩) (gx_preV cx_ok hV hZ hS (q := (mR_G, mT_G, 5)) (show 43 + (8 * m + q) < 70 by omega) (cx_E_G hx24) rfl [.int (nI so), .int (nI z), .int (nI a), .long d, .int (nI mk)]) rfl rfl hl.1 rfl (lv_room (Nat.le_of_ble_eq_true rfl)) dX_request_107 ⟨Nat.le_of_ble_eq_true rfl, Nat.le_of_ble_eq_true rfl⟩) hV hS (fun σ' τ' H locs hp hV hS => ?_)
                cases hp
                refine lv_aload hx hb dX_request_110 (lv_at hl 1 rfl) ?_
                refine gx_get (C := mR_M) (T := mT_M) (N' := 5) hx hb ht mh_M hown hV (show 2 + 5 * m < 70 by omega) (cx_E_M hm) rfl 0 (by decide) (ht _ mw_45) (fun _ h => h) rfl dX_request_112 ?_
                refine lv_iload hx hb dX_request_115 (lv_at hl 0 rfl) ?_
                refine gx_callv (va_runV (As := [.int (nI (8 * m + q))]) (rest := []) ⟨hx, hb, hml, hown, ht⟩ (k_L_append l (cx_isL_W hm) (by rw [cx_up_J (by omega), cx_up_J (by omega), cx_up_J (by omega), cx_up_J (by omega)]; exact hw.1.1) (show (pl 1 m).length < 8 by omega)) (cwV 1 ht (mx_gV (C := "MessageCrossbar$Line") mw_255 mw_256 mw_257 mw_3 mw_258) rfl rfl rfl (by decide +kernel) ⟨Nat.le_of_ble_eq_true rfl, Nat.le_of_ble_eq_true rfl⟩) (gx_preV cx_ok hV hZ hS (q := (mR_L, mT_L, 2)) ((cx_isL_W hm)).lt.1 (cx_E_L (cx_isL_W hm)).1 rfl [.int (nI (8 * m + q))]) rfl rfl hl.1 rfl (lv_room (Nat.le_of_ble_eq_true rfl)) dX_request_117 ⟨Nat.le_of_ble_eq_true rfl, Nat.le_of_ble_eq_true rfl⟩) hV hS (fun σ' τ' H locs hp hV hS => ?_)
                cases hp
                refine lv_aload hx hb dX_request_120 (lv_at hl 1 rfl) ?_
                refine lv_dup hx hb dX_request_122 rfl ?_
                refine gx_get (C := mR_M) (T := mT_M) (N' := 5) (v := .int (nI b)) hx hb ht mh_M hown hV (show 2 + 5 * m < 70 by omega) (cx_E_M hm) rfl 2 (by decide) (ht _ mw_49) (fun _ h => h) (congrArg (fun z => some (Value.int z)) (by rw [cx_app_n (by omega) (by omega), cx_up_J (by omega), cx_up_J (by omega), cx_up_J (by omega), cx_up_J (by omega)]; exact hb1)) dX_request_123 ?_
                refine lv_iconst (v := nI 1) hx hb dX_request_126 (by decide) ?_
                refine lv_iload_n hx hb dX_request_127 rfl (lv_at hl 4 rfl) ?_
                refine lv_ishl hx hb dX_request_128 ?_
                refine lv_ior hx hb dX_request_129 ?_
                refine gx_top (cx_orb b hb0 q hq) ?_
                refine gx_put cx_loc (C := mR_M) (T := mT_M) (N' := 5) (ty := .int) (v := .int (nI (b ||| 2 ^ q))) hx hb ht mh_M mt_M mk_M mn_M hown hV hS (show 2 + 5 * m < 70 by omega) (cx_E_M hm) rfl 2 (by decide) (ht _ mw_49) (fun _ h => h) rfl (by decide +kernel) rfl rfl (Nat.le_of_ble_eq_true rfl) dX_request_130 (cx_up (cx_app (cx_up (cx_up (cx_up (cx_up σ (43 + (8 * m + q)) 0 (nI so)) (43 + (8 * m + q)) 1 (nI z)) (43 + (8 * m + q)) 2 (nI a)) (43 + (8 * m + q)) 4 (nI mk)) (3 + 5 * m) (pl 1 m).length (nI (8 * m + q))) (2 + 5 * m) 2 (nI (b ||| 2 ^ q))) (gx_upL τ (43 + (8 * m + q)) 0 d) (by rw [cx_E_M hm]; simp [cx_up, gx_upL]) (fun _ h => cx_up_J h) (fun _ _ => rfl) (fun H locs hV hS => ?_)
                refine lv_aload_n hx hb dX_request_133 rfl (lv_at hl 2 rfl) ?_
                refine gx_get (C := mR_X) (T := mT_X) (N' := 7) hx hb ht mh_X hown hV (by decide) cx_E_X rfl 5 (by decide) (ht _ mw_134) (fun _ h => h) rfl dX_request_134 ?_
                refine lv_iconst (v := nI 1) hx hb dX_request_137 (by decide) ?_
                refine lv_dup2_11 hx hb dX_request_138 rfl rfl ?_
                refine gx_ialdv (v := σ 69 1) hx hb hV (by decide) 0 cx_E_Ct rfl 1 (by decide) (by decide) rfl (by simp (disch := omega) only [cx_up_J, cx_app_n, cx_rel_n, cx_rem_n]) dX_request_139 ?_
                refine lv_iconst (v := nI 1) hx hb dX_request_140 (by decide) ?_
                refine lv_iadd hx hb dX_request_141 ?_
                refine gx_iast cx_loc hx hb hV hS (by decide) 0 cx_E_Ct rfl 1 (by decide) (by decide) rfl dX_request_142 (cx_up (cx_up (cx_app (cx_up (cx_up (cx_up (cx_up σ (43 + (8 * m + q)) 0 (nI so)) (43 + (8 * m + q)) 1 (nI z)) (43 + (8 * m + q)) 2 (nI a)) (43 + (8 * m + q)) 4 (nI mk)) (3 + 5 * m) (pl 1 m).length (nI (8 * m + q))) (2 + 5 * m) 2 (nI (b ||| 2 ^ q))) 69 1 (σ 69 1 + (nI 1))) (by rw [cx_E_Ct, cx_up_upd]) (fun _ h => cx_up_J h) (fun H locs hV hS => ?_)
                refine lv_aload hx hb dX_request_143 (lv_at hl 1 rfl) ?_
                refine gx_get (C := mR_M) (T := mT_M) (N' := 5) hx hb ht mh_M hown hV (show 2 + 5 * m < 70 by omega) (cx_E_M hm) rfl 0 (by decide) (ht _ mw_45) (fun _ h => h) rfl dX_request_145 ?_
                refine gx_get (C := mR_L) (T := mT_L) (N' := 2) (v := .int (nI ((pl 1 m).length + 1))) hx hb ht mh_L hown hV ((cx_isL_W hm)).lt.1 (cx_E_L (cx_isL_W hm)).1 rfl 1 (by decide) (ht _ mw_36) (fun _ h => h) (congrArg (fun z => some (Value.int z)) (by rw [cx_up_J (by omega), cx_up_J (by omega)]; exact cx_up_s)) dX_request_148 ?_
                exact gx_iret hx hb hr hV hS ⟨fun q0 => q0.elim (fun z0 => absurd (hbq.mpr z0) h68) (fun z0 => absurd z0 h79), fun q0 q1 => ⟨rfl, hR0.rq hm hq hso hz ha hal hmk q0 q1 hb0 hb1 hb2⟩⟩ dX_request_151 hlk
              · refine lv_iconst (v := -1) hx hb dX_request_82 (by decide) ?_
                exact gx_iret hx hb hr hV hS ⟨fun _ => ⟨rfl, rfl⟩, fun _ q0 => absurd q0 (by omega)⟩ dX_request_83 hlk
          · exact absurd (cx_bl hmk (by decide)) h43

set_option maxHeartbeats 4000000 in
set_option maxRecDepth 100000 in
theorem k_X_accept (l : Launch) {D : va_G} {K : Nat → ClassId} {ad : Nat → Nat} {σ : Nat → Nat → Int32} {τ : Nat → Nat → Int64} {m y : Nat} (hm : m < 3) (hy : y ≤ 1) {ρ : Nat → Nat → Nat} {μ : Nat → Int64} {lt : Int64} {pl : Nat → Nat → List Nat} (hR : rr_R σ τ ρ μ lt pl) : Met l yX_accept (Cond.code yX_accept prog_1_method_3_code 4 (some .boolean) :: mx_T) { frames := 1, cells := 0, slots := 0, locals := 21 } (va_Pc [.ref (ad 0), .int (nI m), .int (nI y)] (cx_P D K ad σ τ)) (cx_Qi D K ad (fun rr u => rr = nI (1 - ρ 9 m) ∧ rr_R u.1 u.2 (mq_up ρ 9 m (1 - y)) μ lt pl)) 0 0 (gx_A ad 70) := by
  refine gx_met (by decide) rfl (Nat.le_of_ble_eq_true rfl) ?_
  intro pg ev s mid as below mth c ls hx hb hr hml ht hown hlk hnm hargs hB hl
  obtain ⟨hV, hZ⟩ := hB
  have hS : va_S (gx_A ad 70) s.heap s.heap [] := va_S.rf
  have hl : lv_has ls 4 [(0, .ref (ad 0)), (1, .int (nI m)), (2, .int (nI y))] := hl
  have hR0 := hR
  obtain ⟨hL, hP, hJ, hM, hO, hG, hBB, hT⟩ := hR
  obtain ⟨-, ⟨h9a, h9b⟩, -⟩ := hM m hm
  refine lv_iload_n hx hb dX_accept_0 rfl (lv_at hl 1 rfl) ?_
  refine lv_iconst (v := nI 3) hx hb dX_accept_1 (by decide) ?_
  refine gx_callp (va_runS (As := [.int (nI m), .int (nI 3)]) (rest := []) ⟨hx, hb, hml, hown, ht⟩ (k_X_isBelow l) (cwS 2 ht (mx_gS mw_160 mw_161 mw_1 mw_162) rfl rfl rfl (by decide +kernel) ⟨Nat.le_of_ble_eq_true rfl, Nat.le_of_ble_eq_true rfl⟩) (gx_preP [.int (nI m), .int (nI 3)]) rfl rfl hl.1 rfl (lv_room (Nat.le_of_ble_eq_true rfl)) dX_accept_2 ⟨Nat.le_of_ble_eq_true rfl, Nat.le_of_ble_eq_true rfl⟩) hV hS (fun r1 H locs hp hV hS => ?_)
  subst hp
  refine gx_ifb_ne (q := 0 ≤ nI m ∧ nI m < nI 3) (tgt := 16) hx hb dX_accept_5 (by decide) (fun h5 => ?_) (fun h5 => ?_)
  · refine lv_aload_n hx hb dX_accept_16 rfl (lv_at hl 0 rfl) ?_
    refine gx_get (C := mR_X) (T := mT_X) (N' := 7) hx hb ht mh_X hown hV (by decide) cx_E_X rfl 0 (by decide) (ht _ mw_129) (fun _ h => h) rfl dX_accept_17 ?_
    refine lv_iload_n hx hb dX_accept_20 rfl (lv_at hl 1 rfl) ?_
    refine gx_aald hx hb hV (by decide) 4 cx_E_Ms rfl m hm (by decide) rfl rfl dX_accept_21 ?_
    refine gx_get (C := mR_M) (T := mT_M) (N' := 5) (v := .int (nI (1 - ρ 9 m))) hx hb ht mh_M hown hV (show 2 + 5 * m < 70 by omega) (cx_E_M hm) rfl 3 (by decide) (ht _ mw_51) (fun _ h => h) (congrArg (fun z => some (Value.int z)) h9b) dX_accept_22 ?_
    refine lv_istore_n (lv' := [(3, .int (nI (1 - ρ 9 m))), (0, .ref (ad 0)), (1, .int (nI m)), (2, .int (nI y))]) hx hb dX_accept_25 rfl hl (by decide) rfl (fun ls hl => ?_)
    refine lv_aload_n hx hb dX_accept_26 rfl (lv_at hl 1 rfl) ?_
    refine gx_get (C := mR_X) (T := mT_X) (N' := 7) hx hb ht mh_X hown hV (by decide) cx_E_X rfl 0 (by decide) (ht _ mw_129) (fun _ h => h) rfl dX_accept_27 ?_
    refine lv_iload_n hx hb dX_accept_30 rfl (lv_at hl 2 rfl) ?_
    refine gx_aald hx hb hV (by decide) 4 cx_E_Ms rfl m hm (by decide) rfl rfl dX_accept_31 ?_
    refine lv_iload_n hx hb dX_accept_32 rfl (lv_at hl 3 rfl) ?_
    refine gx_put cx_loc (C := mR_M) (T := mT_M) (N' := 5) (ty := .boolean) (v := .int (nI y)) hx hb ht mh_M mt_M mk_M mn_M hown hV hS (show 2 + 5 * m < 70 by omega) (cx_E_M hm) rfl 3 (by decide) (ht _ mw_51) (fun _ h => h) rfl (by decide +kernel) (cx_nb1 hy) (cx_fb1 hy) (Nat.le_of_ble_eq_true rfl) dX_accept_33 (cx_up σ (2 + 5 * m) 3 (nI y)) τ (by rw [cx_E_M hm]; simp [cx_up, gx_upL]) (fun _ h => cx_up_J h) (fun _ _ => rfl) (fun H locs hV hS => ?_)
    refine lv_iload_n hx hb dX_accept_36 rfl (lv_at hl 0 rfl) ?_
    exact gx_zret hx hb hr (cx_nb1 (by omega)) hV hS ⟨rfl, hR0.acc hm hy⟩ dX_accept_37 hlk
  · exact absurd (cx_bl hm (by decide)) h5

set_option maxHeartbeats 4000000 in
set_option maxRecDepth 100000 in
theorem k_X_take (l : Launch) {D : va_G} {K : Nat → ClassId} {ad : Nat → Nat} {σ : Nat → Nat → Int32} {τ : Nat → Nat → Int64} {m : Nat} (hm : m < 3) {ρ : Nat → Nat → Nat} {μ : Nat → Int64} {lt : Int64} {pl : Nat → Nat → List Nat} (hR : rr_R σ τ ρ μ lt pl) : Met l yX_take (Cond.code yX_take prog_1_method_5_code 7 (some .int) :: mx_T) { frames := 1, cells := 0, slots := 0, locals := 22 } (va_Pc [.ref (ad 0), .int (nI m)] (cx_P D K ad σ τ)) (cx_Qi D K ad (fun rr u => (pl 5 m = [] → rr = -1 ∧ u = (σ, τ)) ∧ ∀ x t, pl 5 m = x :: t → rr = nI (x % 8 + 8 * ρ 3 x + (if 640 ≤ ρ 5 x then 32 else 0)) ∧ rr_R u.1 u.2 (mq_tk ρ x) μ (τ (43 + x) 0) (mq_set pl 5 m t))) 0 0 (gx_A ad 70) := by
  refine gx_met (by decide) rfl (Nat.le_of_ble_eq_true rfl) ?_
  intro pg ev s mid as below mth c ls hx hb hr hml ht hown hlk hnm hargs hB hl
  obtain ⟨hV, hZ⟩ := hB
  have hS : va_S (gx_A ad 70) s.heap s.heap [] := va_S.rf
  have hl : lv_has ls 7 [(0, .ref (ad 0)), (1, .int (nI m))] := hl
  have hR0 := hR
  obtain ⟨hL, hP, hJ, hM, hO, hG, hBB, hT⟩ := hR
  have ok5 : mq_ok 5 m := Or.inl ⟨by simp, hm⟩
  obtain ⟨-, -, b, hb0, hb1, hb2⟩ := hM m hm
  have hw := hL 5 m ok5 (by omega)
  rw [show rr_ln 5 m = 5 + 5 * m by simp [rr_ln], show rr_room 5 = 4 from rfl] at hw
  refine lv_iload_n hx hb dX_take_0 rfl (lv_at hl 1 rfl) ?_
  refine lv_iconst (v := nI 3) hx hb dX_take_1 (by decide) ?_
  refine gx_callp (va_runS (As := [.int (nI m), .int (nI 3)]) (rest := []) ⟨hx, hb, hml, hown, ht⟩ (k_X_isBelow l) (cwS 2 ht (mx_gS mw_160 mw_161 mw_1 mw_162) rfl rfl rfl (by decide +kernel) ⟨Nat.le_of_ble_eq_true rfl, Nat.le_of_ble_eq_true rfl⟩) (gx_preP [.int (nI m), .int (nI 3)]) rfl rfl hl.1 rfl (lv_room (Nat.le_of_ble_eq_true rfl)) dX_take_2 ⟨Nat.le_of_ble_eq_true rfl, Nat.le_of_ble_eq_true rfl⟩) hV hS (fun r1 H locs hp hV hS => ?_)
  subst hp
  refine gx_ifb_ne (q := 0 ≤ nI m ∧ nI m < nI 3) (tgt := 16) hx hb dX_take_5 (by decide) (fun h5 => ?_) (fun h5 => ?_)
  · refine lv_aload_n hx hb dX_take_16 rfl (lv_at hl 0 rfl) ?_
    refine gx_get (C := mR_X) (T := mT_X) (N' := 7) hx hb ht mh_X hown hV (by decide) cx_E_X rfl 0 (by decide) (ht _ mw_129) (fun _ h => h) rfl dX_take_17 ?_
    refine lv_iload_n hx hb dX_take_20 rfl (lv_at hl 1 rfl) ?_
    refine gx_aald hx hb hV (by decide) 4 cx_E_Ms rfl m hm (by decide) rfl rfl dX_take_21 ?_
    refine lv_astore_n (lv' := [(2, .ref (ad (2 + 5 * m))), (0, .ref (ad 0)), (1, .int (nI m))]) hx hb dX_take_22 rfl hl (by decide) rfl (fun ls hl => ?_)
    refine lv_aload_n hx hb dX_take_23 rfl (lv_at hl 0 rfl) ?_
    refine gx_get (C := mR_M) (T := mT_M) (N' := 5) hx hb ht mh_M hown hV (show 2 + 5 * m < 70 by omega) (cx_E_M hm) rfl 1 (by decide) (ht _ mw_47) (fun _ h => h) rfl dX_take_24 ?_
    rcases mq_nc (pl 5 m) with hh | ⟨x, t, hh⟩
    · refine gx_calli (va_runV (As := []) (rest := []) ⟨hx, hb, hml, hown, ht⟩ (k_L_removeNone l (cx_isL_B hm) (by have := hw.1.1; rw [hh] at this; exact this)) (cwV 0 ht (mx_gV (C := "MessageCrossbar$Line") mw_304 mw_305 mw_306 mw_3 mw_307) rfl rfl rfl (by decide +kernel) ⟨Nat.le_of_ble_eq_true rfl, Nat.le_of_ble_eq_true rfl⟩) (gx_preV cx_ok hV hZ hS (q := (mR_L, mT_L, 2)) ((cx_isL_B hm)).lt.1 (cx_E_L (cx_isL_B hm)).1 rfl []) rfl rfl hl.1 rfl (lv_room (Nat.le_of_ble_eq_true rfl)) dX_take_27 ⟨Nat.le_of_ble_eq_true rfl, Nat.le_of_ble_eq_true rfl⟩) hV hS (fun r2 σ' τ' H locs hp hV hS => ?_)
      obtain ⟨rfl, hu⟩ := hp
      cases hu
      refine lv_istore_n (lv' := [(3, .int (-1)), (2, .ref (ad (2 + 5 * m))), (0, .ref (ad 0)), (1, .int (nI m))]) hx hb dX_take_30 rfl hl (by decide) rfl (fun ls hl => ?_)
      refine lv_iload_n hx hb dX_take_31 rfl (lv_at hl 0 rfl) ?_
      refine lv_iconst (v := -1) hx hb dX_take_32 (by decide) ?_
      refine lv_icmp_ne (tgt := 38) hx hb dX_take_33 (by decide) (fun h33 => ?_) (fun h33 => ?_)
      · exact absurd rfl h33
      · refine lv_iconst (v := -1) hx hb dX_take_36 (by decide) ?_
        exact gx_iret hx hb hr hV hS ⟨fun _ => ⟨rfl, rfl⟩, fun x t q0 => (by rw [hh] at q0; cases q0)⟩ dX_take_37 hlk
    · rw [hh] at hw
      obtain ⟨hx24, hx5, hx8⟩ := hP.mem ok5 (x := x) (by rw [hh]; simp)
      have hxm : x / 8 = m := by unfold mq_in at hx8; rw [if_pos hm] at hx8; exact hx8
      have hbt : b.testBit (x % 8) = true := by rw [hb2 (x % 8) (by omega), show 8 * m + x % 8 = x by omega, hx5]; decide
      obtain ⟨⟨hso, hso3⟩, -, ⟨had, had4, -⟩, -, hdt⟩ := hG x hx24 (by rw [hx5]; decide)
      refine gx_calli (va_runV (As := []) (rest := []) ⟨hx, hb, hml, hown, ht⟩ (k_L_removeFirst l (t := t.length) (cx_isL_B hm) hw.1.1 hw.2) (cwV 0 ht (mx_gV (C := "MessageCrossbar$Line") mw_304 mw_305 mw_306 mw_3 mw_307) rfl rfl rfl (by decide +kernel) ⟨Nat.le_of_ble_eq_true rfl, Nat.le_of_ble_eq_true rfl⟩) (gx_preV cx_ok hV hZ hS (q := (mR_L, mT_L, 2)) ((cx_isL_B hm)).lt.1 (cx_E_L (cx_isL_B hm)).1 rfl []) rfl rfl hl.1 rfl (lv_room (Nat.le_of_ble_eq_true rfl)) dX_take_27 ⟨Nat.le_of_ble_eq_true rfl, Nat.le_of_ble_eq_true rfl⟩) hV hS (fun r3 σ' τ' H locs hp hV hS => ?_)
      obtain ⟨h9, hu⟩ := hp
      rw [hw.1.first] at h9
      subst h9
      cases hu
      refine lv_istore_n (lv' := [(3, .int (nI x)), (2, .ref (ad (2 + 5 * m))), (0, .ref (ad 0)), (1, .int (nI m))]) hx hb dX_take_30 rfl hl (by decide) rfl (fun ls hl => ?_)
      refine lv_iload_n hx hb dX_take_31 rfl (lv_at hl 0 rfl) ?_
      refine lv_iconst (v := -1) hx hb dX_take_32 (by decide) ?_
      refine lv_icmp_ne (tgt := 38) hx hb dX_take_33 (by decide) (fun h33 => ?_) (fun h33 => ?_)
      · refine lv_iload_n hx hb dX_take_38 rfl (lv_at hl 0 rfl) ?_
        refine gx_callp (va_runS (As := [.int (nI x)]) (rest := []) ⟨hx, hb, hml, hown, ht⟩ (k_X_sourceOf l) (cwS 1 ht (mx_gS mw_418 mw_419 mw_1 mw_420) rfl rfl rfl (by decide +kernel) ⟨Nat.le_of_ble_eq_true rfl, Nat.le_of_ble_eq_true rfl⟩) (gx_preP [.int (nI x)]) rfl rfl hl.1 rfl (lv_room (Nat.le_of_ble_eq_true rfl)) dX_take_39 ⟨Nat.le_of_ble_eq_true rfl, Nat.le_of_ble_eq_true rfl⟩) hV hS (fun r4 H locs hp hV hS => ?_)
        rw [cx_and7 hx24] at hp
        subst hp
        refine lv_istore (lv' := [(4, .int (nI (x % 8))), (3, .int (nI x)), (2, .ref (ad (2 + 5 * m))), (0, .ref (ad 0)), (1, .int (nI m))]) hx hb dX_take_42 hl (by decide) rfl (fun ls hl => ?_)
        refine lv_aload_n hx hb dX_take_44 rfl (lv_at hl 3 rfl) ?_
        refine gx_get (C := mR_X) (T := mT_X) (N' := 7) hx hb ht mh_X hown hV (by decide) cx_E_X rfl 2 (by decide) (ht _ mw_131) (fun _ h => h) rfl dX_take_45 ?_
        refine lv_iload_n hx hb dX_take_48 rfl (lv_at hl 1 rfl) ?_
        refine gx_aald hx hb hV (by decide) 6 cx_E_Gs rfl x hx24 (by decide) rfl rfl dX_take_49 ?_
        refine lv_astore (lv' := [(5, .ref (ad (43 + x))), (4, .int (nI (x % 8))), (3, .int (nI x)), (2, .ref (ad (2 + 5 * m))), (0, .ref (ad 0)), (1, .int (nI m))]) hx hb dX_take_50 hl (by decide) rfl (fun ls hl => ?_)
        refine lv_aload_n hx hb dX_take_52 rfl (lv_at hl 3 rfl) ?_
        refine lv_dup hx hb dX_take_53 rfl ?_
        refine gx_get (C := mR_M) (T := mT_M) (N' := 5) (v := .int (nI b)) hx hb ht mh_M hown hV (show 2 + 5 * m < 70 by omega) (cx_E_M hm) rfl 2 (by decide) (ht _ mw_49) (fun _ h => h) (congrArg (fun z => some (Value.int z)) (by rw [cx_rem_n (by omega) (by omega)]; exact hb1)) dX_take_54 ?_
        refine lv_iconst (v := nI 1) hx hb dX_take_57 (by decide) ?_
        refine lv_iload hx hb dX_take_58 (lv_at hl 1 rfl) ?_
        refine lv_ishl hx hb dX_take_60 ?_
        refine lv_iconst (v := -1) hx hb dX_take_61 (by decide) ?_
        refine lv_ixor hx hb dX_take_62 ?_
        refine lv_iand hx hb dX_take_63 ?_
        refine gx_top (cx_xorb b hb0 (x % 8) (by omega) hbt) ?_
        refine gx_put cx_loc (C := mR_M) (T := mT_M) (N' := 5) (ty := .int) (v := .int (nI (b ^^^ 2 ^ (x % 8)))) hx hb ht mh_M mt_M mk_M mn_M hown hV hS (show 2 + 5 * m < 70 by omega) (cx_E_M hm) rfl 2 (by decide) (ht _ mw_49) (fun _ h => h) rfl (by decide +kernel) rfl rfl (Nat.le_of_ble_eq_true rfl) dX_take_64 (cx_up (cx_rem σ (5 + 5 * m) t.length) (2 + 5 * m) 2 (nI (b ^^^ 2 ^ (x % 8)))) τ (by rw [cx_E_M hm]; simp [cx_up, gx_upL]) (fun _ h => cx_up_J h) (fun _ _ => rfl) (fun H locs hV hS => ?_)
        refine lv_aload_n hx hb dX_take_67 rfl (lv_at hl 4 rfl) ?_
        refine lv_aload hx hb dX_take_68 (lv_at hl 0 rfl) ?_
        refine gx_get (C := mR_G) (T := mT_G) (N' := 5) hx hb ht mh_G hown hV (show 43 + x < 70 by omega) (cx_E_G hx24) rfl 3 (by decide) (ht _ mw_116) (fun _ h => h) rfl dX_take_70 ?_
        refine gx_put cx_loc (C := mR_X) (T := mT_X) (N' := 7) (ty := .long) (v := .long (τ (43 + x) 0)) hx hb ht mh_X mt_X mk_X mn_X hown hV hS (by decide) cx_E_X rfl 6 (by decide) (ht _ mw_135) (fun _ h => h) rfl (by decide +kernel) rfl rfl (Nat.le_of_ble_eq_true rfl) dX_take_73 (cx_up (cx_rem σ (5 + 5 * m) t.length) (2 + 5 * m) 2 (nI (b ^^^ 2 ^ (x % 8)))) (gx_upL τ 0 0 (τ (43 + x) 0)) (by rw [cx_E_X]; simp [cx_up, gx_upL]) (fun _ _ => rfl) (fun _ h => gx_upL_J h) (fun H locs hV hS => ?_)
        refine lv_aload_n hx hb dX_take_76 rfl (lv_at hl 4 rfl) ?_
        refine gx_get (C := mR_X) (T := mT_X) (N' := 7) hx hb ht mh_X hown hV (by decide) cx_E_X rfl 5 (by decide) (ht _ mw_134) (fun _ h => h) rfl dX_take_77 ?_
        refine lv_iconst (v := nI 5) hx hb dX_take_80 (by decide) ?_
        refine lv_dup2_11 hx hb dX_take_81 rfl rfl ?_
        refine gx_ialdv (v := σ 69 5) hx hb hV (by decide) 0 cx_E_Ct rfl 5 (by decide) (by decide) rfl (by simp (disch := omega) only [cx_up_J, cx_app_n, cx_rel_n, cx_rem_n]) dX_take_82 ?_
        refine lv_iconst (v := nI 1) hx hb dX_take_83 (by decide) ?_
        refine lv_iadd hx hb dX_take_84 ?_
        refine gx_iast cx_loc hx hb hV hS (by decide) 0 cx_E_Ct rfl 5 (by decide) (by decide) rfl dX_take_85 (cx_up (cx_up (cx_rem σ (5 + 5 * m) t.length) (2 + 5 * m) 2 (nI (b ^^^ 2 ^ (x % 8)))) 69 5 (σ 69 5 + (nI 1))) (by rw [cx_E_Ct, cx_up_upd]) (fun _ h => cx_up_J h) (fun H locs hV hS => ?_)
        refine lv_iload hx hb dX_take_86 (lv_at hl 1 rfl) ?_
        refine lv_bipush (v := nI 8) hx hb dX_take_88 (by decide) ?_
        refine lv_aload hx hb dX_take_90 (lv_at hl 0 rfl) ?_
        refine gx_get (C := mR_G) (T := mT_G) (N' := 5) (v := .int (nI (ρ 3 x))) hx hb ht mh_G hown hV (show 43 + x < 70 by omega) (cx_E_G hx24) rfl 0 (by decide) (ht _ mw_111) (fun _ h => h) (congrArg (fun z => some (Value.int z)) (by rw [cx_up_J (by omega), cx_up_J (by omega), cx_rem_n (by omega) (by omega)]; exact hso)) dX_take_92 ?_
        refine gx_imul (a := 8) (b := (ρ 3 x)) hx hb dX_take_95 ?_
        refine gx_iadd (a := (x % 8)) (b := (8 * (ρ 3 x))) hx hb dX_take_96 ?_
        refine lv_istore (lv' := [(6, .int (nI ((x % 8) + (8 * (ρ 3 x))))), (5, .ref (ad (43 + x))), (4, .int (nI (x % 8))), (3, .int (nI x)), (2, .ref (ad (2 + 5 * m))), (0, .ref (ad 0)), (1, .int (nI m))]) hx hb dX_take_97 hl (by decide) rfl (fun ls hl => ?_)
        refine lv_aload hx hb dX_take_99 (lv_at hl 1 rfl) ?_
        refine gx_calli (va_runV (As := []) (rest := []) ⟨hx, hb, hml, hown, ht⟩ (k_G_isDenied l hx24 (a := ρ 5 x) (by rw [cx_up_J (by omega), cx_up_J (by omega), cx_rem_n (by omega) (by omega)]; exact had) had4) (cwV 0 ht (mx_gV (C := "MessageCrossbar$Message") mw_338 mw_339 mw_340 mw_5 mw_341) rfl rfl rfl (by decide +kernel) ⟨Nat.le_of_ble_eq_true rfl, Nat.le_of_ble_eq_true rfl⟩) (gx_preV cx_ok hV hZ hS (q := (mR_G, mT_G, 5)) (show 43 + x < 70 by omega) (cx_E_G hx24) rfl []) rfl rfl hl.1 rfl (lv_room (Nat.le_of_ble_eq_true rfl)) dX_take_101 ⟨Nat.le_of_ble_eq_true rfl, Nat.le_of_ble_eq_true rfl⟩) hV hS (fun r5 σ' τ' H locs hp hV hS => ?_)
        obtain ⟨rfl, hu⟩ := hp
        cases hu
        refine gx_ifb_ne (q := 640 ≤ ρ 5 x) (tgt := 110) hx hb dX_take_104 (by decide) (fun h104 => ?_) (fun h104 => ?_)
        · refine lv_aload_n hx hb dX_take_110 rfl (lv_at hl 5 rfl) ?_
          refine gx_get (C := mR_X) (T := mT_X) (N' := 7) hx hb ht mh_X hown hV (by decide) cx_E_X rfl 5 (by decide) (ht _ mw_134) (fun _ h => h) rfl dX_take_111 ?_
          refine lv_bipush (v := nI 6) hx hb dX_take_114 (by decide) ?_
          refine lv_dup2_11 hx hb dX_take_116 rfl rfl ?_
          refine gx_ialdv (v := σ 69 6) hx hb hV (by decide) 0 cx_E_Ct rfl 6 (by decide) (by decide) rfl (by rw [cx_up_k (by omega), cx_up_J (by omega), cx_rem_n (by omega) (by omega)]) dX_take_117 ?_
          refine lv_iconst (v := nI 1) hx hb dX_take_118 (by decide) ?_
          refine lv_iadd hx hb dX_take_119 ?_
          refine gx_iast cx_loc hx hb hV hS (by decide) 0 cx_E_Ct rfl 6 (by decide) (by decide) rfl dX_take_120 (cx_up (cx_up (cx_up (cx_rem σ (5 + 5 * m) t.length) (2 + 5 * m) 2 (nI (b ^^^ 2 ^ (x % 8)))) 69 5 (σ 69 5 + (nI 1))) 69 6 (σ 69 6 + (nI 1))) (by rw [cx_E_Ct, cx_up_upd]) (fun _ h => cx_up_J h) (fun H locs hV hS => ?_)
          refine lv_iload hx hb dX_take_121 (lv_at hl 0 rfl) ?_
          refine lv_bipush (v := nI 32) hx hb dX_take_123 (by decide) ?_
          refine gx_iadd (a := ((x % 8) + (8 * (ρ 3 x)))) (b := 32) hx hb dX_take_125 ?_
          exact gx_iret hx hb hr hV hS ⟨fun q0 => (by rw [hh] at q0; cases q0), fun x' t' q0 => (by rw [hh] at q0; cases q0; exact ⟨by rw [if_pos h104], by have := hR0.tk hm hh hb0 hb1 hb2; rw [← hdt] at this; rw [if_pos h104] at this; exact this⟩)⟩ dX_take_126 hlk
        · refine lv_iload hx hb dX_take_107 (lv_at hl 0 rfl) ?_
          exact gx_iret hx hb hr hV hS ⟨fun q0 => (by rw [hh] at q0; cases q0), fun x' t' q0 => (by rw [hh] at q0; cases q0; exact ⟨by rw [if_neg h104]; rfl, by have := hR0.tk hm hh hb0 hb1 hb2; rw [← hdt] at this; rw [if_neg h104, cx_tk0 hm] at this; exact this⟩)⟩ dX_take_109 hlk
      · exact absurd h33 (rr_m1 hx24)
  · exact absurd (cx_bl hm (by decide)) h5

set_option maxHeartbeats 4000000 in
set_option maxRecDepth 100000 in
theorem k_X_data (l : Launch) {D : va_G} {K : Nat → ClassId} {ad : Nat → Nat} {σ : Nat → Nat → Int32} {τ : Nat → Nat → Int64} {ρ : Nat → Nat → Nat} {μ : Nat → Int64} {lt : Int64} {pl : Nat → Nat → List Nat} (hR : rr_R σ τ ρ μ lt pl) : Met l yX_data (Cond.code yX_data prog_1_method_6_code 1 (some .long) :: mx_T) { frames := 0, cells := 0, slots := 0, locals := 0 } (va_Pc [.ref (ad 0)] (cx_P D K ad σ τ)) (cx_Ql D K ad (fun rr u => rr = lt ∧ u = (σ, τ))) 0 0 (gx_A ad 70) := by
  refine gx_met (by decide) rfl (Nat.le_of_ble_eq_true rfl) ?_
  intro pg ev s mid as below mth c ls hx hb hr hml ht hown hlk hnm hargs hB hl
  obtain ⟨hV, hZ⟩ := hB
  have hS : va_S (gx_A ad 70) s.heap s.heap [] := va_S.rf
  have hl : lv_has ls 1 [(0, .ref (ad 0))] := hl
  refine lv_aload_n hx hb dX_data_0 rfl (lv_at hl 0 rfl) ?_
  refine gx_get (C := mR_X) (T := mT_X) (N' := 7) hx hb ht mh_X hown hV (by decide) cx_E_X rfl 6 (by decide) (ht _ mw_135) (fun _ h => h) rfl dX_data_1 ?_
  exact gx_lret hx hb hr hV hS ⟨hR.2.2.2.2.2.2.2, rfl⟩ dX_data_4 hlk
end
section
/-! the crossbar's calls that only ask -/
theorem cx_tb {w n : Nat} (h : w < n) (hn : n < 2 ^ 31) : ¬ (nI w).toInt < 0 := by
  rw [nI_toInt (by omega)]
  omega

set_option maxHeartbeats 4000000 in
set_option maxRecDepth 100000 in
theorem k_X_port (l : Launch) {D : va_G} {K : Nat → ClassId} {ad : Nat → Nat} {σ : Nat → Nat → Int32} {τ : Nat → Nat → Int64} {p w : Nat} (hp0 : p < 4) (hw : w < 5) {ρ : Nat → Nat → Nat} {μ : Nat → Int64} {lt : Int64} {pl : Nat → Nat → List Nat} (hR : rr_R σ τ ρ μ lt pl) : Met l yX_port (Cond.code yX_port prog_1_method_7_code 4 (some .int) :: mx_T) { frames := 1, cells := 0, slots := 0, locals := 22 } (va_Pc [.ref (ad 0), .int (nI p), .int (nI w)] (cx_P D K ad σ τ)) (cx_Qi D K ad (fun rr u => rr = (match w with | 0 => nI (pl 2 (3 + p)).length | 1 => (if (pl 3 (3 + p)).length = 0 then -1 else nI (ρ 12 p)) | 2 => nI (pl 4 (3 + p)).length | 3 => nI (mq_cnt (fun q => decide (σ (23 + 6 * p) q ≠ -1)) 4) | _ => nI (ρ 13 p)) ∧ u = (σ, τ))) 0 0 (gx_A ad 70) := by
  refine gx_met (by decide) rfl (Nat.le_of_ble_eq_true rfl) ?_
  intro pg ev s mid as below mth c ls hx hb hr hml ht hown hlk hnm hargs hB hl
  obtain ⟨hV, hZ⟩ := hB
  have hS : va_S (gx_A ad 70) s.heap s.heap [] := va_S.rf
  have hl : lv_has ls 4 [(0, .ref (ad 0)), (1, .int (nI p)), (2, .int (nI w))] := hl
  have hR0 := hR
  obtain ⟨hL, hP, hJ, hM, hO, hG, hBB, hT⟩ := hR
  obtain ⟨j1, j2, j3, j4, j5, j6, -⟩ := hJ p hp0
  have hq2 := hL 2 (3 + p) (Or.inr ⟨by simp, by omega, by omega⟩) (by omega)
  have hq4 := hL 4 (3 + p) (Or.inr ⟨by simp, by omega, by omega⟩) (by omega)
  rw [show rr_ln 2 (3 + p) = 19 + 6 * p by simp [rr_ln]] at hq2
  rw [show rr_ln 4 (3 + p) = 21 + 6 * p by simp [rr_ln]] at hq4
  refine lv_iload_n hx hb dX_port_0 rfl (lv_at hl 1 rfl) ?_
  refine lv_iconst (v := nI 4) hx hb dX_port_1 (by decide) ?_
  refine gx_callp (va_runS (As := [.int (nI p), .int (nI 4)]) (rest := []) ⟨hx, hb, hml, hown, ht⟩ (k_X_isBelow l) (cwS 2 ht (mx_gS mw_160 mw_161 mw_1 mw_162) rfl rfl rfl (by decide +kernel) ⟨Nat.le_of_ble_eq_true rfl, Nat.le_of_ble_eq_true rfl⟩) (gx_preP [.int (nI p), .int (nI 4)]) rfl rfl hl.1 rfl (lv_room (Nat.le_of_ble_eq_true rfl)) dX_port_2 ⟨Nat.le_of_ble_eq_true rfl, Nat.le_of_ble_eq_true rfl⟩) hV hS (fun r1 H locs hp hV hS => ?_)
  subst hp
  refine gx_ifb_ne (q := 0 ≤ nI p ∧ nI p < nI 4) (tgt := 16) hx hb dX_port_5 (by decide) (fun h5 => ?_) (fun h5 => ?_)
  · refine lv_aload_n hx hb dX_port_16 rfl (lv_at hl 0 rfl) ?_
    refine gx_get (C := mR_X) (T := mT_X) (N' := 7) hx hb ht mh_X hown hV (by decide) cx_E_X rfl 1 (by decide) (ht _ mw_130) (fun _ h => h) rfl dX_port_17 ?_
    refine lv_iload_n hx hb dX_port_20 rfl (lv_at hl 1 rfl) ?_
    refine gx_aald hx hb hV (by decide) 5 cx_E_Ps rfl p hp0 (by decide) rfl rfl dX_port_21 ?_
    refine lv_astore_n (lv' := [(3, .ref (ad (18 + 6 * p))), (0, .ref (ad 0)), (1, .int (nI p)), (2, .int (nI w))]) hx hb dX_port_22 rfl hl (by decide) rfl (fun ls hl => ?_)
    refine lv_iload_n hx hb dX_port_23 rfl (lv_at hl 3 rfl) ?_
    rcases (show w = 0 ∨ w = 1 ∨ w = 2 ∨ w = 3 ∨ w = 4 by omega) with rfl | rfl | rfl | rfl | rfl
    · refine lv_tableIn (off := 36) (tgt := 60) hx hb dX_port_24 (by decide) (by decide) rfl (by decide) ?_
      refine lv_aload_n hx hb dX_port_60 rfl (lv_at hl 0 rfl) ?_
      refine gx_get (C := mR_P) (T := mT_P) (N' := 7) hx hb ht mh_P hown hV (show 18 + 6 * p < 70 by omega) (cx_E_P hp0) rfl 0 (by decide) (ht _ mw_75) (fun _ h => h) rfl dX_port_61 ?_
      refine gx_get (C := mR_L) (T := mT_L) (N' := 2) (v := .int (nI (pl 2 (3 + p)).length)) hx hb ht mh_L hown hV ((cx_isL_Q hp0)).lt.1 (cx_E_L (cx_isL_Q hp0)).1 rfl 1 (by decide) (ht _ mw_36) (fun _ h => h) (congrArg (fun z => some (Value.int z)) hq2.1.1) dX_port_64 ?_
      exact gx_iret hx hb hr hV hS ⟨rfl, rfl⟩ dX_port_67 hlk
    · refine lv_tableIn (off := 44) (tgt := 68) hx hb dX_port_24 (by decide) (by decide) rfl (by decide) ?_
      rcases mq_nc (pl 3 (3 + p)) with hh | ⟨x, t, hh⟩
      · have hjn : σ (18 + 6 * p) 3 = -1 := by rw [j2, hh]; rfl
        refine lv_aload_n hx hb dX_port_68 rfl (lv_at hl 0 rfl) ?_
        refine gx_get (C := mR_P) (T := mT_P) (N' := 7) hx hb ht mh_P hown hV (show 18 + 6 * p < 70 by omega) (cx_E_P hp0) rfl 3 (by decide) (ht _ mw_81) (fun _ h => h) rfl dX_port_69 ?_
        refine lv_iconst (v := -1) hx hb dX_port_72 (by decide) ?_
        refine lv_icmp_ne (tgt := 80) hx hb dX_port_73 (by decide) (fun h73 => ?_) (fun h73 => ?_)
        · exact absurd hjn h73
        · refine lv_iconst (v := -1) hx hb dX_port_76 (by decide) ?_
          refine lv_goto (tgt := 84) hx hb dX_port_77 (by decide) ?_
          exact gx_iret hx hb hr hV hS ⟨by rw [hh]; rfl, rfl⟩ dX_port_84 hlk
      · have hx24 := (hP.mem (w := 3) (g := 3 + p) (Or.inr ⟨by simp, by omega, by omega⟩) (x := x) (by rw [hh]; simp)).1
        have hjs : σ (18 + 6 * p) 3 = nI x := by rw [j2, hh]; rfl
        refine lv_aload_n hx hb dX_port_68 rfl (lv_at hl 0 rfl) ?_
        refine gx_get (C := mR_P) (T := mT_P) (N' := 7) hx hb ht mh_P hown hV (show 18 + 6 * p < 70 by omega) (cx_E_P hp0) rfl 3 (by decide) (ht _ mw_81) (fun _ h => h) rfl dX_port_69 ?_
        refine lv_iconst (v := -1) hx hb dX_port_72 (by decide) ?_
        refine lv_icmp_ne (tgt := 80) hx hb dX_port_73 (by decide) (fun h73 => ?_) (fun h73 => ?_)
        · refine lv_aload_n hx hb dX_port_80 rfl (lv_at hl 0 rfl) ?_
          refine gx_get (C := mR_P) (T := mT_P) (N' := 7) (v := .int (nI (ρ 12 p))) hx hb ht mh_P hown hV (show 18 + 6 * p < 70 by omega) (cx_E_P hp0) rfl 4 (by decide) (ht _ mw_83) (fun _ h => h) (congrArg (fun z => some (Value.int z)) j3) dX_port_81 ?_
          exact gx_iret hx hb hr hV hS ⟨by rw [hh]; rfl, rfl⟩ dX_port_84 hlk
        · exact absurd (hjs.symm.trans h73) (rr_m1 hx24)
    · refine lv_tableIn (off := 61) (tgt := 85) hx hb dX_port_24 (by decide) (by decide) rfl (by decide) ?_
      refine lv_aload_n hx hb dX_port_85 rfl (lv_at hl 0 rfl) ?_
      refine gx_get (C := mR_P) (T := mT_P) (N' := 7) hx hb ht mh_P hown hV (show 18 + 6 * p < 70 by omega) (cx_E_P hp0) rfl 1 (by decide) (ht _ mw_77) (fun _ h => h) rfl dX_port_86 ?_
      refine gx_get (C := mR_L) (T := mT_L) (N' := 2) (v := .int (nI (pl 4 (3 + p)).length)) hx hb ht mh_L hown hV ((cx_isL_A hp0)).lt.1 (cx_E_L (cx_isL_A hp0)).1 rfl 1 (by decide) (ht _ mw_36) (fun _ h => h) (congrArg (fun z => some (Value.int z)) hq4.1.1) dX_port_89 ?_
      exact gx_iret hx hb hr hV hS ⟨rfl, rfl⟩ dX_port_92 hlk
    · refine lv_tableIn (off := 69) (tgt := 93) hx hb dX_port_24 (by decide) (by decide) rfl (by decide) ?_
      refine lv_aload_n hx hb dX_port_93 rfl (lv_at hl 0 rfl) ?_
      refine gx_calli (va_runV (As := []) (rest := []) ⟨hx, hb, hml, hown, ht⟩ (k_P_idsInUse l hp0) (cwV 0 ht (mx_gV (C := "MessageCrossbar$Port") mw_444 mw_386 mw_387 mw_4 mw_388) rfl rfl rfl (by decide +kernel) ⟨Nat.le_of_ble_eq_true rfl, Nat.le_of_ble_eq_true rfl⟩) (gx_preV cx_ok hV hZ hS (q := (mR_P, mT_P, 7)) (show 18 + 6 * p < 70 by omega) (cx_E_P hp0) rfl []) rfl rfl hl.1 rfl (lv_room (Nat.le_of_ble_eq_true rfl)) dX_port_94 ⟨Nat.le_of_ble_eq_true rfl, Nat.le_of_ble_eq_true rfl⟩) hV hS (fun r2 σ' τ' H locs hp hV hS => ?_)
      obtain ⟨rfl, hu⟩ := hp
      cases hu
      exact gx_iret hx hb hr hV hS ⟨rfl, rfl⟩ dX_port_97 hlk
    · refine lv_tableIn (off := 74) (tgt := 98) hx hb dX_port_24 (by decide) (by decide) rfl (by decide) ?_
      refine lv_aload_n hx hb dX_port_98 rfl (lv_at hl 0 rfl) ?_
      refine gx_get (C := mR_P) (T := mT_P) (N' := 7) (v := .int (nI (ρ 13 p))) hx hb ht mh_P hown hV (show 18 + 6 * p < 70 by omega) (cx_E_P hp0) rfl 5 (by decide) (ht _ mw_85) (fun _ h => h) (congrArg (fun z => some (Value.int z)) j6) dX_port_99 ?_
      exact gx_iret hx hb hr hV hS ⟨rfl, rfl⟩ dX_port_102 hlk
  · exact absurd (cx_bl hp0 (by decide)) h5

set_option maxHeartbeats 4000000 in
set_option maxRecDepth 100000 in
theorem k_X_owner (l : Launch) {D : va_G} {K : Nat → ClassId} {ad : Nat → Nat} {σ : Nat → Nat → Int32} {τ : Nat → Nat → Int64} {p i : Nat} (hp0 : p < 4) (hi : i < 4) {ρ : Nat → Nat → Nat} {μ : Nat → Int64} {lt : Int64} {pl : Nat → Nat → List Nat} (hR : rr_R σ τ ρ μ lt pl) : Met l yX_owner (Cond.code yX_owner prog_1_method_8_code 3 (some .int) :: mx_T) { frames := 1, cells := 0, slots := 0, locals := 21 } (va_Pc [.ref (ad 0), .int (nI p), .int (nI i)] (cx_P D K ad σ τ)) (cx_Qi D K ad (fun rr u => rr = mq_oI (mq_holder ρ p i) ∧ u = (σ, τ))) 0 0 (gx_A ad 70) := by
  refine gx_met (by decide) rfl (Nat.le_of_ble_eq_true rfl) ?_
  intro pg ev s mid as below mth c ls hx hb hr hml ht hown hlk hnm hargs hB hl
  obtain ⟨hV, hZ⟩ := hB
  have hS : va_S (gx_A ad 70) s.heap s.heap [] := va_S.rf
  have hl : lv_has ls 3 [(0, .ref (ad 0)), (1, .int (nI p)), (2, .int (nI i))] := hl
  refine lv_iload_n hx hb dX_owner_0 rfl (lv_at hl 1 rfl) ?_
  refine lv_iconst (v := nI 4) hx hb dX_owner_1 (by decide) ?_
  refine gx_callp (va_runS (As := [.int (nI p), .int (nI 4)]) (rest := []) ⟨hx, hb, hml, hown, ht⟩ (k_X_isBelow l) (cwS 2 ht (mx_gS mw_160 mw_161 mw_1 mw_162) rfl rfl rfl (by decide +kernel) ⟨Nat.le_of_ble_eq_true rfl, Nat.le_of_ble_eq_true rfl⟩) (gx_preP [.int (nI p), .int (nI 4)]) rfl rfl hl.1 rfl (lv_room (Nat.le_of_ble_eq_true rfl)) dX_owner_2 ⟨Nat.le_of_ble_eq_true rfl, Nat.le_of_ble_eq_true rfl⟩) hV hS (fun r1 H locs hp hV hS => ?_)
  subst hp
  refine gx_ifb_eq (q := 0 ≤ nI p ∧ nI p < nI 4) (tgt := 16) hx hb dX_owner_5 (by decide) (fun h5 => ?_) (fun h5 => ?_)
  · exact absurd (cx_bl hp0 (by decide)) h5
  · refine lv_iload_n hx hb dX_owner_8 rfl (lv_at hl 2 rfl) ?_
    refine lv_iconst (v := nI 4) hx hb dX_owner_9 (by decide) ?_
    refine gx_callp (va_runS (As := [.int (nI i), .int (nI 4)]) (rest := []) ⟨hx, hb, hml, hown, ht⟩ (k_X_isBelow l) (cwS 2 ht (mx_gS mw_160 mw_161 mw_1 mw_162) rfl rfl rfl (by decide +kernel) ⟨Nat.le_of_ble_eq_true rfl, Nat.le_of_ble_eq_true rfl⟩) (gx_preP [.int (nI i), .int (nI 4)]) rfl rfl hl.1 rfl (lv_room (Nat.le_of_ble_eq_true rfl)) dX_owner_10 ⟨Nat.le_of_ble_eq_true rfl, Nat.le_of_ble_eq_true rfl⟩) hV hS (fun r2 H locs hp hV hS => ?_)
    subst hp
    refine gx_ifb_ne (q := 0 ≤ nI i ∧ nI i < nI 4) (tgt := 24) hx hb dX_owner_13 (by decide) (fun h13 => ?_) (fun h13 => ?_)
    · refine lv_aload_n hx hb dX_owner_24 rfl (lv_at hl 0 rfl) ?_
      refine gx_get (C := mR_X) (T := mT_X) (N' := 7) hx hb ht mh_X hown hV (by decide) cx_E_X rfl 1 (by decide) (ht _ mw_130) (fun _ h => h) rfl dX_owner_25 ?_
      refine lv_iload_n hx hb dX_owner_28 rfl (lv_at hl 1 rfl) ?_
      refine gx_aald hx hb hV (by decide) 5 cx_E_Ps rfl p hp0 (by decide) rfl rfl dX_owner_29 ?_
      refine gx_get (C := mR_P) (T := mT_P) (N' := 7) hx hb ht mh_P hown hV (show 18 + 6 * p < 70 by omega) (cx_E_P hp0) rfl 2 (by decide) (ht _ mw_79) (fun _ h => h) rfl dX_owner_30 ?_
      refine lv_iload_n hx hb dX_owner_33 rfl (lv_at hl 2 rfl) ?_
      refine gx_ialdv (v := mq_oI (mq_holder ρ p i)) hx hb hV (show 23 + 6 * p < 70 by omega) 0 (cx_E_O hp0) rfl i hi (by decide) rfl (hR.own hp0 hi) dX_owner_34 ?_
      exact gx_iret hx hb hr hV hS ⟨rfl, rfl⟩ dX_owner_35 hlk
    · exact absurd (cx_bl hi (by decide)) h13

set_option maxHeartbeats 4000000 in
set_option maxRecDepth 100000 in
theorem k_X_master (l : Launch) {D : va_G} {K : Nat → ClassId} {ad : Nat → Nat} {σ : Nat → Nat → Int32} {τ : Nat → Nat → Int64} {m w : Nat} (hm : m < 3) (hw : w < 4) {ρ : Nat → Nat → Nat} {μ : Nat → Int64} {lt : Int64} {pl : Nat → Nat → List Nat} (hR : rr_R σ τ ρ μ lt pl) : Met l yX_master (Cond.code yX_master prog_1_method_9_code 4 (some .int) :: mx_T) { frames := 1, cells := 0, slots := 0, locals := 21 } (va_Pc [.ref (ad 0), .int (nI m), .int (nI w)] (cx_P D K ad σ τ)) (cx_Qi D K ad (fun rr u => rr = (match w with | 0 => nI (pl 1 m).length | 1 => nI (pl 5 m).length | 2 => σ (2 + 5 * m) 2 | _ => nI (1 - ρ 9 m)) ∧ u = (σ, τ))) 0 0 (gx_A ad 70) := by
  refine gx_met (by decide) rfl (Nat.le_of_ble_eq_true rfl) ?_
  intro pg ev s mid as below mth c ls hx hb hr hml ht hown hlk hnm hargs hB hl
  obtain ⟨hV, hZ⟩ := hB
  have hS : va_S (gx_A ad 70) s.heap s.heap [] := va_S.rf
  have hl : lv_has ls 4 [(0, .ref (ad 0)), (1, .int (nI m)), (2, .int (nI w))] := hl
  have hR0 := hR
  obtain ⟨hL, hP, hJ, hM, hO, hG, hBB, hT⟩ := hR
  obtain ⟨-, ⟨h9a, h9b⟩, -⟩ := hM m hm
  have hq1 := hL 1 m (Or.inl ⟨by simp, by omega⟩) (by omega)
  have hq5 := hL 5 m (Or.inl ⟨by simp, by omega⟩) (by omega)
  rw [show rr_ln 1 m = 3 + 5 * m by simp [rr_ln]] at hq1
  rw [show rr_ln 5 m = 5 + 5 * m by simp [rr_ln]] at hq5
  refine lv_iload_n hx hb dX_master_0 rfl (lv_at hl 1 rfl) ?_
  refine lv_iconst (v := nI 3) hx hb dX_master_1 (by decide) ?_
  refine gx_callp (va_runS (As := [.int (nI m), .int (nI 3)]) (rest := []) ⟨hx, hb, hml, hown, ht⟩ (k_X_isBelow l) (cwS 2 ht (mx_gS mw_160 mw_161 mw_1 mw_162) rfl rfl rfl (by decide +kernel) ⟨Nat.le_of_ble_eq_true rfl, Nat.le_of_ble_eq_true rfl⟩) (gx_preP [.int (nI m), .int (nI 3)]) rfl rfl hl.1 rfl (lv_room (Nat.le_of_ble_eq_true rfl)) dX_master_2 ⟨Nat.le_of_ble_eq_true rfl, Nat.le_of_ble_eq_true rfl⟩) hV hS (fun r1 H locs hp hV hS => ?_)
  subst hp
  refine gx_ifb_ne (q := 0 ≤ nI m ∧ nI m < nI 3) (tgt := 16) hx hb dX_master_5 (by decide) (fun h5 => ?_) (fun h5 => ?_)
  · refine lv_aload_n hx hb dX_master_16 rfl (lv_at hl 0 rfl) ?_
    refine gx_get (C := mR_X) (T := mT_X) (N' := 7) hx hb ht mh_X hown hV (by decide) cx_E_X rfl 0 (by decide) (ht _ mw_129) (fun _ h => h) rfl dX_master_17 ?_
    refine lv_iload_n hx hb dX_master_20 rfl (lv_at hl 1 rfl) ?_
    refine gx_aald hx hb hV (by decide) 4 cx_E_Ms rfl m hm (by decide) rfl rfl dX_master_21 ?_
    refine lv_astore_n (lv' := [(3, .ref (ad (2 + 5 * m))), (0, .ref (ad 0)), (1, .int (nI m)), (2, .int (nI w))]) hx hb dX_master_22 rfl hl (by decide) rfl (fun ls hl => ?_)
    refine lv_iload_n hx hb dX_master_23 rfl (lv_at hl 3 rfl) ?_
    rcases (show w = 0 ∨ w = 1 ∨ w = 2 ∨ w = 3 by omega) with rfl | rfl | rfl | rfl
    · refine lv_tableIn (off := 32) (tgt := 56) hx hb dX_master_24 (by decide) (by decide) rfl (by decide) ?_
      refine lv_aload_n hx hb dX_master_56 rfl (lv_at hl 0 rfl) ?_
      refine gx_get (C := mR_M) (T := mT_M) (N' := 5) hx hb ht mh_M hown hV (show 2 + 5 * m < 70 by omega) (cx_E_M hm) rfl 0 (by decide) (ht _ mw_45) (fun _ h => h) rfl dX_master_57 ?_
      refine gx_get (C := mR_L) (T := mT_L) (N' := 2) (v := .int (nI (pl 1 m).length)) hx hb ht mh_L hown hV ((cx_isL_W hm)).lt.1 (cx_E_L (cx_isL_W hm)).1 rfl 1 (by decide) (ht _ mw_36) (fun _ h => h) (congrArg (fun z => some (Value.int z)) hq1.1.1) dX_master_60 ?_
      exact gx_iret hx hb hr hV hS ⟨rfl, rfl⟩ dX_master_63 hlk
    · refine lv_tableIn (off := 40) (tgt := 64) hx hb dX_master_24 (by decide) (by decide) rfl (by decide) ?_
      refine lv_aload_n hx hb dX_master_64 rfl (lv_at hl 0 rfl) ?_
      refine gx_get (C := mR_M) (T := mT_M) (N' := 5) hx hb ht mh_M hown hV (show 2 + 5 * m < 70 by omega) (cx_E_M hm) rfl 1 (by decide) (ht _ mw_47) (fun _ h => h) rfl dX_master_65 ?_
      refine gx_get (C := mR_L) (T := mT_L) (N' := 2) (v := .int (nI (pl 5 m).length)) hx hb ht mh_L hown hV ((cx_isL_B hm)).lt.1 (cx_E_L (cx_isL_B hm)).1 rfl 1 (by decide) (ht _ mw_36) (fun _ h => h) (congrArg (fun z => some (Value.int z)) hq5.1.1) dX_master_68 ?_
      exact gx_iret hx hb hr hV hS ⟨rfl, rfl⟩ dX_master_71 hlk
    · refine lv_tableIn (off := 48) (tgt := 72) hx hb dX_master_24 (by decide) (by decide) rfl (by decide) ?_
      refine lv_aload_n hx hb dX_master_72 rfl (lv_at hl 0 rfl) ?_
      refine gx_get (C := mR_M) (T := mT_M) (N' := 5) hx hb ht mh_M hown hV (show 2 + 5 * m < 70 by omega) (cx_E_M hm) rfl 2 (by decide) (ht _ mw_49) (fun _ h => h) rfl dX_master_73 ?_
      exact gx_iret hx hb hr hV hS ⟨rfl, rfl⟩ dX_master_76 hlk
    · refine lv_tableIn (off := 53) (tgt := 77) hx hb dX_master_24 (by decide) (by decide) rfl (by decide) ?_
      refine lv_aload_n hx hb dX_master_77 rfl (lv_at hl 0 rfl) ?_
      refine gx_get (C := mR_M) (T := mT_M) (N' := 5) (v := .int (nI (1 - ρ 9 m))) hx hb ht mh_M hown hV (show 2 + 5 * m < 70 by omega) (cx_E_M hm) rfl 3 (by decide) (ht _ mw_51) (fun _ h => h) (congrArg (fun z => some (Value.int z)) h9b) dX_master_78 ?_
      refine gx_if_eq (a := (1 - ρ 9 m)) (tgt := 88) hx hb dX_master_81 (by decide) (by omega) (fun h81 => ?_) (fun h81 => ?_)
      · refine lv_iconst (v := nI 0) hx hb dX_master_88 (by decide) ?_
        exact gx_iret hx hb hr hV hS ⟨by show nI 0 = nI (1 - ρ 9 m); congr 1; omega, rfl⟩ dX_master_89 hlk
      · refine lv_iconst (v := nI 1) hx hb dX_master_84 (by decide) ?_
        refine lv_goto (tgt := 89) hx hb dX_master_85 (by decide) ?_
        exact gx_iret hx hb hr hV hS ⟨by show nI 1 = nI (1 - ρ 9 m); congr 1; omega, rfl⟩ dX_master_89 hlk
  · exact absurd (cx_bl hm (by decide)) h5

set_option maxHeartbeats 4000000 in
set_option maxRecDepth 100000 in
theorem k_X_memory (l : Launch) {D : va_G} {K : Nat → ClassId} {ad : Nat → Nat} {σ : Nat → Nat → Int32} {τ : Nat → Nat → Int64} {a : Nat} (ha : a < 640) {ρ : Nat → Nat → Nat} {μ : Nat → Int64} {lt : Int64} {pl : Nat → Nat → List Nat} (hR : rr_R σ τ ρ μ lt pl) : Met l yX_memory (Cond.code yX_memory prog_1_method_10_code 2 (some .int) :: mx_T) { frames := 1, cells := 0, slots := 0, locals := 21 } (va_Pc [.ref (ad 0), .int (nI a)] (cx_P D K ad σ τ)) (cx_Qi D K ad (fun rr u => rr = nI (ρ 14 a) ∧ u = (σ, τ))) 0 0 (gx_A ad 70) := by
  refine gx_met (by decide) rfl (Nat.le_of_ble_eq_true rfl) ?_
  intro pg ev s mid as below mth c ls hx hb hr hml ht hown hlk hnm hargs hB hl
  obtain ⟨hV, hZ⟩ := hB
  have hS : va_S (gx_A ad 70) s.heap s.heap [] := va_S.rf
  have hl : lv_has ls 2 [(0, .ref (ad 0)), (1, .int (nI a))] := hl
  refine lv_iload_n hx hb dX_memory_0 rfl (lv_at hl 1 rfl) ?_
  refine lv_sipush (v := nI 640) hx hb dX_memory_1 (by decide) ?_
  refine gx_callp (va_runS (As := [.int (nI a), .int (nI 640)]) (rest := []) ⟨hx, hb, hml, hown, ht⟩ (k_X_isBelow l) (cwS 2 ht (mx_gS mw_160 mw_161 mw_1 mw_162) rfl rfl rfl (by decide +kernel) ⟨Nat.le_of_ble_eq_true rfl, Nat.le_of_ble_eq_true rfl⟩) (gx_preP [.int (nI a), .int (nI 640)]) rfl rfl hl.1 rfl (lv_room (Nat.le_of_ble_eq_true rfl)) dX_memory_4 ⟨Nat.le_of_ble_eq_true rfl, Nat.le_of_ble_eq_true rfl⟩) hV hS (fun r1 H locs hp hV hS => ?_)
  subst hp
  refine gx_ifb_ne (q := 0 ≤ nI a ∧ nI a < nI 640) (tgt := 18) hx hb dX_memory_7 (by decide) (fun h7 => ?_) (fun h7 => ?_)
  · refine lv_aload_n hx hb dX_memory_18 rfl (lv_at hl 0 rfl) ?_
    refine gx_get (C := mR_X) (T := mT_X) (N' := 7) hx hb ht mh_X hown hV (by decide) cx_E_X rfl 3 (by decide) (ht _ mw_132) (fun _ h => h) rfl dX_memory_19 ?_
    refine lv_iload_n hx hb dX_memory_22 rfl (lv_at hl 1 rfl) ?_
    refine gx_bald hx hb hV (by decide) 1 cx_E_By rfl a ha (by decide) rfl dX_memory_23 ?_
    refine lv_sipush (v := nI 255) hx hb dX_memory_24 (by decide) ?_
    refine lv_iand hx hb dX_memory_27 ?_
    refine gx_top (y := nI (ρ 14 a)) (by rw [(hR.2.2.2.2.2.2.1.1 a ha).2]; exact cx_by _ (hR.2.2.2.2.2.2.1.1 a ha).1) ?_
    exact gx_iret hx hb hr hV hS ⟨rfl, rfl⟩ dX_memory_28 hlk
  · exact absurd (cx_bl ha (by decide)) h7

set_option maxHeartbeats 4000000 in
set_option maxRecDepth 100000 in
theorem k_X_done (l : Launch) {D : va_G} {K : Nat → ClassId} {ad : Nat → Nat} {σ : Nat → Nat → Int32} {τ : Nat → Nat → Int64} {k : Nat} (hk : k < 32) {ρ : Nat → Nat → Nat} {μ : Nat → Int64} {lt : Int64} {pl : Nat → Nat → List Nat} (hR : rr_R σ τ ρ μ lt pl) (hmv : ρ 0 1 < 2 ^ 31) : Met l yX_done (Cond.code yX_done prog_1_method_11_code 2 (some .int) :: mx_T) { frames := 1, cells := 0, slots := 0, locals := 21 } (va_Pc [.ref (ad 0), .int (nI k)] (cx_P D K ad σ τ)) (cx_Qi D K ad (fun rr u => rr = (if ρ 16 3 ≤ k then -1 else nI (ρ 15 ((ρ 16 3 - 1 - k) % 32))) ∧ u = (σ, τ))) 0 0 (gx_A ad 70) := by
  refine gx_met (by decide) rfl (Nat.le_of_ble_eq_true rfl) ?_
  intro pg ev s mid as below mth c ls hx hb hr hml ht hown hlk hnm hargs hB hl
  obtain ⟨hV, hZ⟩ := hB
  have hS : va_S (gx_A ad 70) s.heap s.heap [] := va_S.rf
  have hl : lv_has ls 2 [(0, .ref (ad 0)), (1, .int (nI k))] := hl
  have hR0 := hR
  obtain ⟨hL, hP, hJ, hM, hO, hG, hBB, hT⟩ := hR
  have h163 := hBB.2.2.1 3 (by omega)
  have h164 := hBB.2.2.2
  refine lv_iload_n hx hb dX_done_0 rfl (lv_at hl 1 rfl) ?_
  refine lv_bipush (v := nI 32) hx hb dX_done_1 (by decide) ?_
  refine gx_callp (va_runS (As := [.int (nI k), .int (nI 32)]) (rest := []) ⟨hx, hb, hml, hown, ht⟩ (k_X_isBelow l) (cwS 2 ht (mx_gS mw_160 mw_161 mw_1 mw_162) rfl rfl rfl (by decide +kernel) ⟨Nat.le_of_ble_eq_true rfl, Nat.le_of_ble_eq_true rfl⟩) (gx_preP [.int (nI k), .int (nI 32)]) rfl rfl hl.1 rfl (lv_room (Nat.le_of_ble_eq_true rfl)) dX_done_3 ⟨Nat.le_of_ble_eq_true rfl, Nat.le_of_ble_eq_true rfl⟩) hV hS (fun r1 H locs hp hV hS => ?_)
  subst hp
  refine gx_ifb_eq (q := 0 ≤ nI k ∧ nI k < nI 32) (tgt := 19) hx hb dX_done_6 (by decide) (fun h6 => ?_) (fun h6 => ?_)
  · exact absurd (cx_bl hk (by decide)) h6
  · refine lv_iload_n hx hb dX_done_9 rfl (lv_at hl 1 rfl) ?_
    refine lv_aload_n hx hb dX_done_10 rfl (lv_at hl 0 rfl) ?_
    refine gx_get (C := mR_X) (T := mT_X) (N' := 7) hx hb ht mh_X hown hV (by decide) cx_E_X rfl 5 (by decide) (ht _ mw_134) (fun _ h => h) rfl dX_done_11 ?_
    refine lv_iconst (v := nI 3) hx hb dX_done_14 (by decide) ?_
    refine gx_ialdv (v := nI (ρ 16 3)) hx hb hV (by decide) 0 cx_E_Ct rfl 3 (by decide) (by decide) rfl h163 dX_done_15 ?_
    refine gx_icmp_lt (a := k) (b := (ρ 16 3)) (tgt := 21) hx hb dX_done_16 (by decide) (by omega) (by omega) (fun h16 => ?_) (fun h16 => ?_)
    · refine lv_aload_n hx hb dX_done_21 rfl (lv_at hl 0 rfl) ?_
      refine gx_get (C := mR_X) (T := mT_X) (N' := 7) hx hb ht mh_X hown hV (by decide) cx_E_X rfl 4 (by decide) (ht _ mw_133) (fun _ h => h) rfl dX_done_22 ?_
      refine lv_aload_n hx hb dX_done_25 rfl (lv_at hl 0 rfl) ?_
      refine gx_get (C := mR_X) (T := mT_X) (N' := 7) hx hb ht mh_X hown hV (by decide) cx_E_X rfl 5 (by decide) (ht _ mw_134) (fun _ h => h) rfl dX_done_26 ?_
      refine lv_iconst (v := nI 3) hx hb dX_done_29 (by decide) ?_
      refine gx_ialdv (v := nI (ρ 16 3)) hx hb hV (by decide) 0 cx_E_Ct rfl 3 (by decide) (by decide) rfl h163 dX_done_30 ?_
      refine lv_iconst (v := nI 1) hx hb dX_done_31 (by decide) ?_
      refine gx_isub (a := (ρ 16 3)) (b := 1) hx hb dX_done_32 (by omega) ?_
      refine lv_iload_n hx hb dX_done_33 rfl (lv_at hl 1 rfl) ?_
      refine gx_isub (a := ((ρ 16 3) - 1)) (b := k) hx hb dX_done_34 (by omega) ?_
      refine gx_callp (va_runS (As := [.int (nI (((ρ 16 3) - 1) - k))]) (rest := [.ref (ad 68)]) ⟨hx, hb, hml, hown, ht⟩ (k_X_logPlace l) (cwS 1 ht (mx_gS mw_163 mw_164 mw_1 mw_165) rfl rfl rfl (by decide +kernel) ⟨Nat.le_of_ble_eq_true rfl, Nat.le_of_ble_eq_true rfl⟩) (gx_preP [.int (nI (((ρ 16 3) - 1) - k))]) rfl rfl hl.1 rfl (lv_room (Nat.le_of_ble_eq_true rfl)) dX_done_35 ⟨Nat.le_of_ble_eq_true rfl, Nat.le_of_ble_eq_true rfl⟩) hV hS (fun r2 H locs hp hV hS => ?_)
      rw [cx_m32 (by omega)] at hp
      subst hp
      refine gx_ialdv (v := nI (ρ 15 ((ρ 16 3 - 1 - k) % 32))) hx hb hV (by decide) 0 cx_E_Lg rfl ((ρ 16 3 - 1 - k) % 32) (Nat.mod_lt _ (by decide)) (by decide) rfl (hBB.2.1 _ (Nat.mod_lt _ (by decide))) dX_done_38 ?_
      exact gx_iret hx hb hr hV hS ⟨(if_neg (by omega)).symm, rfl⟩ dX_done_39 hlk
    · refine lv_iconst (v := -1) hx hb dX_done_19 (by decide) ?_
      exact gx_iret hx hb hr hV hS ⟨(if_pos (by omega)).symm, rfl⟩ dX_done_20 hlk

set_option maxHeartbeats 4000000 in
set_option maxRecDepth 100000 in
theorem k_X_doneB (l : Launch) {D : va_G} {K : Nat → ClassId} {ad : Nat → Nat} {σ : Nat → Nat → Int32} {τ : Nat → Nat → Int64} {kk : Int32} (hk : ¬ (0 ≤ kk ∧ kk < nI 32)) : Met l yX_done (Cond.code yX_done prog_1_method_11_code 2 (some .int) :: mx_T) { frames := 1, cells := 0, slots := 0, locals := 21 } (va_Pc [.ref (ad 0), .int kk] (cx_P D K ad σ τ)) (cx_Qi D K ad (fun rr u => rr = -1 ∧ u = (σ, τ))) 0 0 (gx_A ad 70) := by
  refine gx_met (by decide) rfl (Nat.le_of_ble_eq_true rfl) ?_
  intro pg ev s mid as below mth c ls hx hb hr hml ht hown hlk hnm hargs hB hl
  obtain ⟨hV, hZ⟩ := hB
  have hS : va_S (gx_A ad 70) s.heap s.heap [] := va_S.rf
  have hl : lv_has ls 2 [(0, .ref (ad 0)), (1, .int kk)] := hl
  refine lv_iload_n hx hb dX_done_0 rfl (lv_at hl 1 rfl) ?_
  refine lv_bipush (v := nI 32) hx hb dX_done_1 (by decide) ?_
  refine gx_callp (va_runS (As := [.int kk, .int (nI 32)]) (rest := []) ⟨hx, hb, hml, hown, ht⟩ (k_X_isBelow l) (cwS 2 ht (mx_gS mw_160 mw_161 mw_1 mw_162) rfl rfl rfl (by decide +kernel) ⟨Nat.le_of_ble_eq_true rfl, Nat.le_of_ble_eq_true rfl⟩) (gx_preP [.int kk, .int (nI 32)]) rfl rfl hl.1 rfl (lv_room (Nat.le_of_ble_eq_true rfl)) dX_done_3 ⟨Nat.le_of_ble_eq_true rfl, Nat.le_of_ble_eq_true rfl⟩) hV hS (fun r1 H locs hp hV hS => ?_)
  subst hp
  refine gx_ifb_eq (q := 0 ≤ kk ∧ kk < nI 32) (tgt := 19) hx hb dX_done_6 (by decide) (fun h6 => ?_) (fun h6 => ?_)
  · refine lv_iconst (v := -1) hx hb dX_done_19 (by decide) ?_
    exact gx_iret hx hb hr hV hS ⟨rfl, rfl⟩ dX_done_20 hlk
  · exact absurd h6 hk

set_option maxHeartbeats 4000000 in
set_option maxRecDepth 100000 in
theorem k_X_count (l : Launch) {D : va_G} {K : Nat → ClassId} {ad : Nat → Nat} {σ : Nat → Nat → Int32} {τ : Nat → Nat → Int64} {k : Nat} (hk : k < 8) {ρ : Nat → Nat → Nat} {μ : Nat → Int64} {lt : Int64} {pl : Nat → Nat → List Nat} (hR : rr_R σ τ ρ μ lt pl) : Met l yX_count (Cond.code yX_count prog_1_method_12_code 2 (some .int) :: mx_T) { frames := 1, cells := 0, slots := 0, locals := 21 } (va_Pc [.ref (ad 0), .int (nI k)] (cx_P D K ad σ τ)) (cx_Qi D K ad (fun rr u => rr = nI (ρ 16 k) ∧ u = (σ, τ))) 0 0 (gx_A ad 70) := by
  refine gx_met (by decide) rfl (Nat.le_of_ble_eq_true rfl) ?_
  intro pg ev s mid as below mth c ls hx hb hr hml ht hown hlk hnm hargs hB hl
  obtain ⟨hV, hZ⟩ := hB
  have hS : va_S (gx_A ad 70) s.heap s.heap [] := va_S.rf
  have hl : lv_has ls 2 [(0, .ref (ad 0)), (1, .int (nI k))] := hl
  refine lv_iload_n hx hb dX_count_0 rfl (lv_at hl 1 rfl) ?_
  refine lv_bipush (v := nI 8) hx hb dX_count_1 (by decide) ?_
  refine gx_callp (va_runS (As := [.int (nI k), .int (nI 8)]) (rest := []) ⟨hx, hb, hml, hown, ht⟩ (k_X_isBelow l) (cwS 2 ht (mx_gS mw_160 mw_161 mw_1 mw_162) rfl rfl rfl (by decide +kernel) ⟨Nat.le_of_ble_eq_true rfl, Nat.le_of_ble_eq_true rfl⟩) (gx_preP [.int (nI k), .int (nI 8)]) rfl rfl hl.1 rfl (lv_room (Nat.le_of_ble_eq_true rfl)) dX_count_3 ⟨Nat.le_of_ble_eq_true rfl, Nat.le_of_ble_eq_true rfl⟩) hV hS (fun r1 H locs hp hV hS => ?_)
  subst hp
  refine gx_ifb_eq (q := 0 ≤ nI k ∧ nI k < nI 8) (tgt := 18) hx hb dX_count_6 (by decide) (fun h6 => ?_) (fun h6 => ?_)
  · exact absurd (cx_bl hk (by decide)) h6
  · refine lv_aload_n hx hb dX_count_9 rfl (lv_at hl 0 rfl) ?_
    refine gx_get (C := mR_X) (T := mT_X) (N' := 7) hx hb ht mh_X hown hV (by decide) cx_E_X rfl 5 (by decide) (ht _ mw_134) (fun _ h => h) rfl dX_count_10 ?_
    refine lv_iload_n hx hb dX_count_13 rfl (lv_at hl 1 rfl) ?_
    refine gx_ialdv (v := nI (ρ 16 k)) hx hb hV (by decide) 0 cx_E_Ct rfl k hk (by decide) rfl (hR.2.2.2.2.2.2.1.2.2.1 k hk) dX_count_14 ?_
    refine lv_goto (tgt := 19) hx hb dX_count_15 (by decide) ?_
    exact gx_iret hx hb hr hV hS ⟨rfl, rfl⟩ dX_count_19 hlk

set_option maxHeartbeats 4000000 in
set_option maxRecDepth 100000 in
theorem k_X_countB (l : Launch) {D : va_G} {K : Nat → ClassId} {ad : Nat → Nat} {σ : Nat → Nat → Int32} {τ : Nat → Nat → Int64} {kk : Int32} (hk : ¬ (0 ≤ kk ∧ kk < nI 8)) : Met l yX_count (Cond.code yX_count prog_1_method_12_code 2 (some .int) :: mx_T) { frames := 1, cells := 0, slots := 0, locals := 21 } (va_Pc [.ref (ad 0), .int kk] (cx_P D K ad σ τ)) (cx_Qi D K ad (fun rr u => rr = -1 ∧ u = (σ, τ))) 0 0 (gx_A ad 70) := by
  refine gx_met (by decide) rfl (Nat.le_of_ble_eq_true rfl) ?_
  intro pg ev s mid as below mth c ls hx hb hr hml ht hown hlk hnm hargs hB hl
  obtain ⟨hV, hZ⟩ := hB
  have hS : va_S (gx_A ad 70) s.heap s.heap [] := va_S.rf
  have hl : lv_has ls 2 [(0, .ref (ad 0)), (1, .int kk)] := hl
  refine lv_iload_n hx hb dX_count_0 rfl (lv_at hl 1 rfl) ?_
  refine lv_bipush (v := nI 8) hx hb dX_count_1 (by decide) ?_
  refine gx_callp (va_runS (As := [.int kk, .int (nI 8)]) (rest := []) ⟨hx, hb, hml, hown, ht⟩ (k_X_isBelow l) (cwS 2 ht (mx_gS mw_160 mw_161 mw_1 mw_162) rfl rfl rfl (by decide +kernel) ⟨Nat.le_of_ble_eq_true rfl, Nat.le_of_ble_eq_true rfl⟩) (gx_preP [.int kk, .int (nI 8)]) rfl rfl hl.1 rfl (lv_room (Nat.le_of_ble_eq_true rfl)) dX_count_3 ⟨Nat.le_of_ble_eq_true rfl, Nat.le_of_ble_eq_true rfl⟩) hV hS (fun r1 H locs hp hV hS => ?_)
  subst hp
  refine gx_ifb_eq (q := 0 ≤ kk ∧ kk < nI 8) (tgt := 18) hx hb dX_count_6 (by decide) (fun h6 => ?_) (fun h6 => ?_)
  · refine lv_iconst (v := -1) hx hb dX_count_18 (by decide) ?_
    exact gx_iret hx hb hr hV hS ⟨rfl, rfl⟩ dX_count_19 hlk
  · exact absurd h6 hk
end
section
theorem dR_init_0 : decode prog_7_method_1_code 0 = .ok (.aload_n 0, 1) := by decide +kernel
theorem dR_init_1 : decode prog_7_method_1_code 1 = .ok (.invokespecial 1, 3) := by decide +kernel
theorem dR_init_4 : decode prog_7_method_1_code 4 = .ok (.aload_n 0, 1) := by decide +kernel
theorem dR_init_5 : decode prog_7_method_1_code 5 = .ok (.bipush 24, 2) := by decide +kernel
theorem dR_init_7 : decode prog_7_method_1_code 7 = .ok (.newarray .int, 2) := by decide +kernel
theorem dR_init_9 : decode prog_7_method_1_code 9 = .ok (.putfield 7, 3) := by decide +kernel
theorem dR_init_12 : decode prog_7_method_1_code 12 = .ok (.aload_n 0, 1) := by decide +kernel
theorem dR_init_13 : decode prog_7_method_1_code 13 = .ok (.bipush 24, 2) := by decide +kernel
theorem dR_init_15 : decode prog_7_method_1_code 15 = .ok (.newarray .int, 2) := by decide +kernel
theorem dR_init_17 : decode prog_7_method_1_code 17 = .ok (.putfield 13, 3) := by decide +kernel
theorem dR_init_20 : decode prog_7_method_1_code 20 = .ok (.aload_n 0, 1) := by decide +kernel
theorem dR_init_21 : decode prog_7_method_1_code 21 = .ok (.bipush 24, 2) := by decide +kernel
theorem dR_init_23 : decode prog_7_method_1_code 23 = .ok (.newarray .int, 2) := by decide +kernel
theorem dR_init_25 : decode prog_7_method_1_code 25 = .ok (.putfield 16, 3) := by decide +kernel
theorem dR_init_28 : decode prog_7_method_1_code 28 = .ok (.aload_n 0, 1) := by decide +kernel
theorem dR_init_29 : decode prog_7_method_1_code 29 = .ok (.bipush 24, 2) := by decide +kernel
theorem dR_init_31 : decode prog_7_method_1_code 31 = .ok (.newarray .int, 2) := by decide +kernel
theorem dR_init_33 : decode prog_7_method_1_code 33 = .ok (.putfield 19, 3) := by decide +kernel
theorem dR_init_36 : decode prog_7_method_1_code 36 = .ok (.aload_n 0, 1) := by decide +kernel
theorem dR_init_37 : decode prog_7_method_1_code 37 = .ok (.bipush 24, 2) := by decide +kernel
theorem dR_init_39 : decode prog_7_method_1_code 39 = .ok (.newarray .int, 2) := by decide +kernel
theorem dR_init_41 : decode prog_7_method_1_code 41 = .ok (.putfield 22, 3) := by decide +kernel
theorem dR_init_44 : decode prog_7_method_1_code 44 = .ok (.aload_n 0, 1) := by decide +kernel
theorem dR_init_45 : decode prog_7_method_1_code 45 = .ok (.bipush 24, 2) := by decide +kernel
theorem dR_init_47 : decode prog_7_method_1_code 47 = .ok (.newarray .long, 2) := by decide +kernel
theorem dR_init_49 : decode prog_7_method_1_code 49 = .ok (.putfield 25, 3) := by decide +kernel
theorem dR_init_52 : decode prog_7_method_1_code 52 = .ok (.aload_n 0, 1) := by decide +kernel
theorem dR_init_53 : decode prog_7_method_1_code 53 = .ok (.bipush 24, 2) := by decide +kernel
theorem dR_init_55 : decode prog_7_method_1_code 55 = .ok (.newarray .int, 2) := by decide +kernel
theorem dR_init_57 : decode prog_7_method_1_code 57 = .ok (.putfield 29, 3) := by decide +kernel
theorem dR_init_60 : decode prog_7_method_1_code 60 = .ok (.aload_n 0, 1) := by decide +kernel
theorem dR_init_61 : decode prog_7_method_1_code 61 = .ok (.bipush 24, 2) := by decide +kernel
theorem dR_init_63 : decode prog_7_method_1_code 63 = .ok (.newarray .int, 2) := by decide +kernel
theorem dR_init_65 : decode prog_7_method_1_code 65 = .ok (.putfield 32, 3) := by decide +kernel
theorem dR_init_68 : decode prog_7_method_1_code 68 = .ok (.aload_n 0, 1) := by decide +kernel
theorem dR_init_69 : decode prog_7_method_1_code 69 = .ok (.iconst 3, 1) := by decide +kernel
theorem dR_init_70 : decode prog_7_method_1_code 70 = .ok (.newarray .boolean, 2) := by decide +kernel
theorem dR_init_72 : decode prog_7_method_1_code 72 = .ok (.putfield 35, 3) := by decide +kernel
theorem dR_init_75 : decode prog_7_method_1_code 75 = .ok (.aload_n 0, 1) := by decide +kernel
theorem dR_init_76 : decode prog_7_method_1_code 76 = .ok (.iconst 3, 1) := by decide +kernel
theorem dR_init_77 : decode prog_7_method_1_code 77 = .ok (.newarray .int, 2) := by decide +kernel
theorem dR_init_79 : decode prog_7_method_1_code 79 = .ok (.putfield 39, 3) := by decide +kernel
theorem dR_init_82 : decode prog_7_method_1_code 82 = .ok (.aload_n 0, 1) := by decide +kernel
theorem dR_init_83 : decode prog_7_method_1_code 83 = .ok (.iconst 4, 1) := by decide +kernel
theorem dR_init_84 : decode prog_7_method_1_code 84 = .ok (.newarray .int, 2) := by decide +kernel
theorem dR_init_86 : decode prog_7_method_1_code 86 = .ok (.putfield 42, 3) := by decide +kernel
theorem dR_init_89 : decode prog_7_method_1_code 89 = .ok (.aload_n 0, 1) := by decide +kernel
theorem dR_init_90 : decode prog_7_method_1_code 90 = .ok (.iconst 4, 1) := by decide +kernel
theorem dR_init_91 : decode prog_7_method_1_code 91 = .ok (.newarray .int, 2) := by decide +kernel
theorem dR_init_93 : decode prog_7_method_1_code 93 = .ok (.putfield 45, 3) := by decide +kernel
theorem dR_init_96 : decode prog_7_method_1_code 96 = .ok (.aload_n 0, 1) := by decide +kernel
theorem dR_init_97 : decode prog_7_method_1_code 97 = .ok (.iconst 4, 1) := by decide +kernel
theorem dR_init_98 : decode prog_7_method_1_code 98 = .ok (.newarray .int, 2) := by decide +kernel
theorem dR_init_100 : decode prog_7_method_1_code 100 = .ok (.putfield 48, 3) := by decide +kernel
theorem dR_init_103 : decode prog_7_method_1_code 103 = .ok (.aload_n 0, 1) := by decide +kernel
theorem dR_init_104 : decode prog_7_method_1_code 104 = .ok (.sipush 640, 3) := by decide +kernel
theorem dR_init_107 : decode prog_7_method_1_code 107 = .ok (.newarray .int, 2) := by decide +kernel
theorem dR_init_109 : decode prog_7_method_1_code 109 = .ok (.putfield 51, 3) := by decide +kernel
theorem dR_init_112 : decode prog_7_method_1_code 112 = .ok (.aload_n 0, 1) := by decide +kernel
theorem dR_init_113 : decode prog_7_method_1_code 113 = .ok (.bipush 32, 2) := by decide +kernel
theorem dR_init_115 : decode prog_7_method_1_code 115 = .ok (.newarray .int, 2) := by decide +kernel
theorem dR_init_117 : decode prog_7_method_1_code 117 = .ok (.putfield 54, 3) := by decide +kernel
theorem dR_init_120 : decode prog_7_method_1_code 120 = .ok (.aload_n 0, 1) := by decide +kernel
theorem dR_init_121 : decode prog_7_method_1_code 121 = .ok (.bipush 8, 2) := by decide +kernel
theorem dR_init_123 : decode prog_7_method_1_code 123 = .ok (.newarray .int, 2) := by decide +kernel
theorem dR_init_125 : decode prog_7_method_1_code 125 = .ok (.putfield 57, 3) := by decide +kernel
theorem dR_init_128 : decode prog_7_method_1_code 128 = .ok (.return_, 1) := by decide +kernel
theorem dR_thrown_0 : decode prog_7_method_2_code 0 = .ok (.aload_n 0, 1) := by decide +kernel
theorem dR_thrown_1 : decode prog_7_method_2_code 1 = .ok (.getfield 60, 3) := by decide +kernel
theorem dR_thrown_4 : decode prog_7_method_2_code 4 = .ok (.ireturn, 1) := by decide +kernel
theorem dR_in_0 : decode prog_7_method_3_code 0 = .ok (.iload_n 0, 1) := by decide +kernel
theorem dR_in_1 : decode prog_7_method_3_code 1 = .ok (.ifCond .lt 12, 3) := by decide +kernel
theorem dR_in_4 : decode prog_7_method_3_code 4 = .ok (.iload_n 0, 1) := by decide +kernel
theorem dR_in_5 : decode prog_7_method_3_code 5 = .ok (.iload_n 1, 1) := by decide +kernel
theorem dR_in_6 : decode prog_7_method_3_code 6 = .ok (.if_icmp .ge 7, 3) := by decide +kernel
theorem dR_in_9 : decode prog_7_method_3_code 9 = .ok (.iconst 1, 1) := by decide +kernel
theorem dR_in_10 : decode prog_7_method_3_code 10 = .ok (.goto 4, 3) := by decide +kernel
theorem dR_in_13 : decode prog_7_method_3_code 13 = .ok (.iconst 0, 1) := by decide +kernel
theorem dR_in_14 : decode prog_7_method_3_code 14 = .ok (.ireturn, 1) := by decide +kernel
theorem dR_portOf_0 : decode prog_7_method_4_code 0 = .ok (.iload_n 0, 1) := by decide +kernel
theorem dR_portOf_1 : decode prog_7_method_4_code 1 = .ok (.sipush 256, 3) := by decide +kernel
theorem dR_portOf_4 : decode prog_7_method_4_code 4 = .ok (.if_icmp .ge 7, 3) := by decide +kernel
theorem dR_portOf_7 : decode prog_7_method_4_code 7 = .ok (.iconst 0, 1) := by decide +kernel
theorem dR_portOf_8 : decode prog_7_method_4_code 8 = .ok (.goto 26, 3) := by decide +kernel
theorem dR_portOf_11 : decode prog_7_method_4_code 11 = .ok (.iload_n 0, 1) := by decide +kernel
theorem dR_portOf_12 : decode prog_7_method_4_code 12 = .ok (.sipush 512, 3) := by decide +kernel
theorem dR_portOf_15 : decode prog_7_method_4_code 15 = .ok (.if_icmp .ge 7, 3) := by decide +kernel
theorem dR_portOf_18 : decode prog_7_method_4_code 18 = .ok (.iconst 1, 1) := by decide +kernel
theorem dR_portOf_19 : decode prog_7_method_4_code 19 = .ok (.goto 15, 3) := by decide +kernel
theorem dR_portOf_22 : decode prog_7_method_4_code 22 = .ok (.iload_n 0, 1) := by decide +kernel
theorem dR_portOf_23 : decode prog_7_method_4_code 23 = .ok (.sipush 640, 3) := by decide +kernel
theorem dR_portOf_26 : decode prog_7_method_4_code 26 = .ok (.if_icmp .ge 7, 3) := by decide +kernel
theorem dR_portOf_29 : decode prog_7_method_4_code 29 = .ok (.iconst 2, 1) := by decide +kernel
theorem dR_portOf_30 : decode prog_7_method_4_code 30 = .ok (.goto 4, 3) := by decide +kernel
theorem dR_portOf_33 : decode prog_7_method_4_code 33 = .ok (.iconst 3, 1) := by decide +kernel
theorem dR_portOf_34 : decode prog_7_method_4_code 34 = .ok (.ireturn, 1) := by decide +kernel
theorem dR_widthOf_0 : decode prog_7_method_5_code 0 = .ok (.iload_n 0, 1) := by decide +kernel
theorem dR_widthOf_1 : decode prog_7_method_5_code 1 = .ok (.ifCond .ne 7, 3) := by decide +kernel
theorem dR_widthOf_4 : decode prog_7_method_5_code 4 = .ok (.iconst 4, 1) := by decide +kernel
theorem dR_widthOf_5 : decode prog_7_method_5_code 5 = .ok (.goto 14, 3) := by decide +kernel
theorem dR_widthOf_8 : decode prog_7_method_5_code 8 = .ok (.iload_n 0, 1) := by decide +kernel
theorem dR_widthOf_9 : decode prog_7_method_5_code 9 = .ok (.iconst 1, 1) := by decide +kernel
theorem dR_widthOf_10 : decode prog_7_method_5_code 10 = .ok (.if_icmp .ne 7, 3) := by decide +kernel
theorem dR_widthOf_13 : decode prog_7_method_5_code 13 = .ok (.iconst 1, 1) := by decide +kernel
theorem dR_widthOf_14 : decode prog_7_method_5_code 14 = .ok (.goto 5, 3) := by decide +kernel
theorem dR_widthOf_17 : decode prog_7_method_5_code 17 = .ok (.bipush 8, 2) := by decide +kernel
theorem dR_widthOf_19 : decode prog_7_method_5_code 19 = .ok (.ireturn, 1) := by decide +kernel
theorem dR_delayOf_0 : decode prog_7_method_6_code 0 = .ok (.iload_n 0, 1) := by decide +kernel
theorem dR_delayOf_1 : decode prog_7_method_6_code 1 = .ok (.ifCond .ne 7, 3) := by decide +kernel
theorem dR_delayOf_4 : decode prog_7_method_6_code 4 = .ok (.iconst 2, 1) := by decide +kernel
theorem dR_delayOf_5 : decode prog_7_method_6_code 5 = .ok (.goto 13, 3) := by decide +kernel
theorem dR_delayOf_8 : decode prog_7_method_6_code 8 = .ok (.iload_n 0, 1) := by decide +kernel
theorem dR_delayOf_9 : decode prog_7_method_6_code 9 = .ok (.iconst 2, 1) := by decide +kernel
theorem dR_delayOf_10 : decode prog_7_method_6_code 10 = .ok (.if_icmp .ne 7, 3) := by decide +kernel
theorem dR_delayOf_13 : decode prog_7_method_6_code 13 = .ok (.iconst 3, 1) := by decide +kernel
theorem dR_delayOf_14 : decode prog_7_method_6_code 14 = .ok (.goto 4, 3) := by decide +kernel
theorem dR_delayOf_17 : decode prog_7_method_6_code 17 = .ok (.iconst 1, 1) := by decide +kernel
theorem dR_delayOf_18 : decode prog_7_method_6_code 18 = .ok (.ireturn, 1) := by decide +kernel
theorem dR_isAt_0 : decode prog_7_method_7_code 0 = .ok (.aload_n 0, 1) := by decide +kernel
theorem dR_isAt_1 : decode prog_7_method_7_code 1 = .ok (.getfield 7, 3) := by decide +kernel
theorem dR_isAt_4 : decode prog_7_method_7_code 4 = .ok (.iload_n 1, 1) := by decide +kernel
theorem dR_isAt_5 : decode prog_7_method_7_code 5 = .ok (.iaload, 1) := by decide +kernel
theorem dR_isAt_6 : decode prog_7_method_7_code 6 = .ok (.iload_n 2, 1) := by decide +kernel
theorem dR_isAt_7 : decode prog_7_method_7_code 7 = .ok (.if_icmp .eq 5, 3) := by decide +kernel
theorem dR_isAt_10 : decode prog_7_method_7_code 10 = .ok (.iconst 0, 1) := by decide +kernel
theorem dR_isAt_11 : decode prog_7_method_7_code 11 = .ok (.ireturn, 1) := by decide +kernel
theorem dR_isAt_12 : decode prog_7_method_7_code 12 = .ok (.iload_n 3, 1) := by decide +kernel
theorem dR_isAt_13 : decode prog_7_method_7_code 13 = .ok (.ifCond .lt 19, 3) := by decide +kernel
theorem dR_isAt_16 : decode prog_7_method_7_code 16 = .ok (.iload_n 1, 1) := by decide +kernel
theorem dR_isAt_17 : decode prog_7_method_7_code 17 = .ok (.bipush 8, 2) := by decide +kernel
theorem dR_isAt_19 : decode prog_7_method_7_code 19 = .ok (.idiv, 1) := by decide +kernel
theorem dR_isAt_20 : decode prog_7_method_7_code 20 = .ok (.iload_n 3, 1) := by decide +kernel
theorem dR_isAt_21 : decode prog_7_method_7_code 21 = .ok (.if_icmp .ne 7, 3) := by decide +kernel
theorem dR_isAt_24 : decode prog_7_method_7_code 24 = .ok (.iconst 1, 1) := by decide +kernel
theorem dR_isAt_25 : decode prog_7_method_7_code 25 = .ok (.goto 27, 3) := by decide +kernel
theorem dR_isAt_28 : decode prog_7_method_7_code 28 = .ok (.iconst 0, 1) := by decide +kernel
theorem dR_isAt_29 : decode prog_7_method_7_code 29 = .ok (.goto 23, 3) := by decide +kernel
theorem dR_isAt_32 : decode prog_7_method_7_code 32 = .ok (.aload_n 0, 1) := by decide +kernel
theorem dR_isAt_33 : decode prog_7_method_7_code 33 = .ok (.getfield 22, 3) := by decide +kernel
theorem dR_isAt_36 : decode prog_7_method_7_code 36 = .ok (.iload_n 1, 1) := by decide +kernel
theorem dR_isAt_37 : decode prog_7_method_7_code 37 = .ok (.iaload, 1) := by decide +kernel
theorem dR_isAt_38 : decode prog_7_method_7_code 38 = .ok (.invokestatic 64, 3) := by decide +kernel
theorem dR_isAt_41 : decode prog_7_method_7_code 41 = .ok (.iconst (-1), 1) := by decide +kernel
theorem dR_isAt_42 : decode prog_7_method_7_code 42 = .ok (.iload_n 3, 1) := by decide +kernel
theorem dR_isAt_43 : decode prog_7_method_7_code 43 = .ok (.isub, 1) := by decide +kernel
theorem dR_isAt_44 : decode prog_7_method_7_code 44 = .ok (.if_icmp .ne 7, 3) := by decide +kernel
theorem dR_isAt_47 : decode prog_7_method_7_code 47 = .ok (.iconst 1, 1) := by decide +kernel
theorem dR_isAt_48 : decode prog_7_method_7_code 48 = .ok (.goto 4, 3) := by decide +kernel
theorem dR_isAt_51 : decode prog_7_method_7_code 51 = .ok (.iconst 0, 1) := by decide +kernel
theorem dR_isAt_52 : decode prog_7_method_7_code 52 = .ok (.ireturn, 1) := by decide +kernel
theorem dR_many_0 : decode prog_7_method_8_code 0 = .ok (.iconst 0, 1) := by decide +kernel
theorem dR_many_1 : decode prog_7_method_8_code 1 = .ok (.istore_n 3, 1) := by decide +kernel
theorem dR_many_2 : decode prog_7_method_8_code 2 = .ok (.iconst 0, 1) := by decide +kernel
theorem dR_many_3 : decode prog_7_method_8_code 3 = .ok (.istore 4, 2) := by decide +kernel
theorem dR_many_5 : decode prog_7_method_8_code 5 = .ok (.iload 4, 2) := by decide +kernel
theorem dR_many_7 : decode prog_7_method_8_code 7 = .ok (.bipush 24, 2) := by decide +kernel
theorem dR_many_9 : decode prog_7_method_8_code 9 = .ok (.if_icmp .ge 28, 3) := by decide +kernel
theorem dR_many_12 : decode prog_7_method_8_code 12 = .ok (.iload_n 3, 1) := by decide +kernel
theorem dR_many_13 : decode prog_7_method_8_code 13 = .ok (.aload_n 0, 1) := by decide +kernel
theorem dR_many_14 : decode prog_7_method_8_code 14 = .ok (.iload 4, 2) := by decide +kernel
theorem dR_many_16 : decode prog_7_method_8_code 16 = .ok (.iload_n 1, 1) := by decide +kernel
theorem dR_many_17 : decode prog_7_method_8_code 17 = .ok (.iload_n 2, 1) := by decide +kernel
theorem dR_many_18 : decode prog_7_method_8_code 18 = .ok (.invokevirtual 68, 3) := by decide +kernel
theorem dR_many_21 : decode prog_7_method_8_code 21 = .ok (.ifCond .eq 7, 3) := by decide +kernel
theorem dR_many_24 : decode prog_7_method_8_code 24 = .ok (.iconst 1, 1) := by decide +kernel
theorem dR_many_25 : decode prog_7_method_8_code 25 = .ok (.goto 4, 3) := by decide +kernel
theorem dR_many_28 : decode prog_7_method_8_code 28 = .ok (.iconst 0, 1) := by decide +kernel
theorem dR_many_29 : decode prog_7_method_8_code 29 = .ok (.iadd, 1) := by decide +kernel
theorem dR_many_30 : decode prog_7_method_8_code 30 = .ok (.istore_n 3, 1) := by decide +kernel
theorem dR_many_31 : decode prog_7_method_8_code 31 = .ok (.iinc 4 1, 3) := by decide +kernel
theorem dR_many_34 : decode prog_7_method_8_code 34 = .ok (.goto (-29), 3) := by decide +kernel
theorem dR_many_37 : decode prog_7_method_8_code 37 = .ok (.iload_n 3, 1) := by decide +kernel
theorem dR_many_38 : decode prog_7_method_8_code 38 = .ok (.ireturn, 1) := by decide +kernel
theorem dR_first_0 : decode prog_7_method_9_code 0 = .ok (.iconst (-1), 1) := by decide +kernel
theorem dR_first_1 : decode prog_7_method_9_code 1 = .ok (.istore_n 3, 1) := by decide +kernel
theorem dR_first_2 : decode prog_7_method_9_code 2 = .ok (.iconst 0, 1) := by decide +kernel
theorem dR_first_3 : decode prog_7_method_9_code 3 = .ok (.istore 4, 2) := by decide +kernel
theorem dR_first_5 : decode prog_7_method_9_code 5 = .ok (.iload 4, 2) := by decide +kernel
theorem dR_first_7 : decode prog_7_method_9_code 7 = .ok (.bipush 24, 2) := by decide +kernel
theorem dR_first_9 : decode prog_7_method_9_code 9 = .ok (.if_icmp .ge 43, 3) := by decide +kernel
theorem dR_first_12 : decode prog_7_method_9_code 12 = .ok (.aload_n 0, 1) := by decide +kernel
theorem dR_first_13 : decode prog_7_method_9_code 13 = .ok (.iload 4, 2) := by decide +kernel
theorem dR_first_15 : decode prog_7_method_9_code 15 = .ok (.iload_n 1, 1) := by decide +kernel
theorem dR_first_16 : decode prog_7_method_9_code 16 = .ok (.iload_n 2, 1) := by decide +kernel
theorem dR_first_17 : decode prog_7_method_9_code 17 = .ok (.invokevirtual 68, 3) := by decide +kernel
theorem dR_first_20 : decode prog_7_method_9_code 20 = .ok (.ifCond .eq 26, 3) := by decide +kernel
theorem dR_first_23 : decode prog_7_method_9_code 23 = .ok (.iload_n 3, 1) := by decide +kernel
theorem dR_first_24 : decode prog_7_method_9_code 24 = .ok (.ifCond .lt 19, 3) := by decide +kernel
theorem dR_first_27 : decode prog_7_method_9_code 27 = .ok (.aload_n 0, 1) := by decide +kernel
theorem dR_first_28 : decode prog_7_method_9_code 28 = .ok (.getfield 13, 3) := by decide +kernel
theorem dR_first_31 : decode prog_7_method_9_code 31 = .ok (.iload 4, 2) := by decide +kernel
theorem dR_first_33 : decode prog_7_method_9_code 33 = .ok (.iaload, 1) := by decide +kernel
theorem dR_first_34 : decode prog_7_method_9_code 34 = .ok (.aload_n 0, 1) := by decide +kernel
theorem dR_first_35 : decode prog_7_method_9_code 35 = .ok (.getfield 13, 3) := by decide +kernel
theorem dR_first_38 : decode prog_7_method_9_code 38 = .ok (.iload_n 3, 1) := by decide +kernel
theorem dR_first_39 : decode prog_7_method_9_code 39 = .ok (.iaload, 1) := by decide +kernel
theorem dR_first_40 : decode prog_7_method_9_code 40 = .ok (.if_icmp .ge 6, 3) := by decide +kernel
theorem dR_first_43 : decode prog_7_method_9_code 43 = .ok (.iload 4, 2) := by decide +kernel
theorem dR_first_45 : decode prog_7_method_9_code 45 = .ok (.istore_n 3, 1) := by decide +kernel
theorem dR_first_46 : decode prog_7_method_9_code 46 = .ok (.iinc 4 1, 3) := by decide +kernel
theorem dR_first_49 : decode prog_7_method_9_code 49 = .ok (.goto (-44), 3) := by decide +kernel
theorem dR_first_52 : decode prog_7_method_9_code 52 = .ok (.iload_n 3, 1) := by decide +kernel
theorem dR_first_53 : decode prog_7_method_9_code 53 = .ok (.ireturn, 1) := by decide +kernel
theorem dR_go_0 : decode prog_7_method_10_code 0 = .ok (.aload_n 0, 1) := by decide +kernel
theorem dR_go_1 : decode prog_7_method_10_code 1 = .ok (.getfield 7, 3) := by decide +kernel
theorem dR_go_4 : decode prog_7_method_10_code 4 = .ok (.iload_n 1, 1) := by decide +kernel
theorem dR_go_5 : decode prog_7_method_10_code 5 = .ok (.iload_n 2, 1) := by decide +kernel
theorem dR_go_6 : decode prog_7_method_10_code 6 = .ok (.iastore, 1) := by decide +kernel
theorem dR_go_7 : decode prog_7_method_10_code 7 = .ok (.aload_n 0, 1) := by decide +kernel
theorem dR_go_8 : decode prog_7_method_10_code 8 = .ok (.getfield 13, 3) := by decide +kernel
theorem dR_go_11 : decode prog_7_method_10_code 11 = .ok (.iload_n 1, 1) := by decide +kernel
theorem dR_go_12 : decode prog_7_method_10_code 12 = .ok (.aload_n 0, 1) := by decide +kernel
theorem dR_go_13 : decode prog_7_method_10_code 13 = .ok (.getfield 72, 3) := by decide +kernel
theorem dR_go_16 : decode prog_7_method_10_code 16 = .ok (.iastore, 1) := by decide +kernel
theorem dR_go_17 : decode prog_7_method_10_code 17 = .ok (.aload_n 0, 1) := by decide +kernel
theorem dR_go_18 : decode prog_7_method_10_code 18 = .ok (.dup, 1) := by decide +kernel
theorem dR_go_19 : decode prog_7_method_10_code 19 = .ok (.getfield 72, 3) := by decide +kernel
theorem dR_go_22 : decode prog_7_method_10_code 22 = .ok (.iconst 1, 1) := by decide +kernel
theorem dR_go_23 : decode prog_7_method_10_code 23 = .ok (.iadd, 1) := by decide +kernel
theorem dR_go_24 : decode prog_7_method_10_code 24 = .ok (.putfield 72, 3) := by decide +kernel
theorem dR_go_27 : decode prog_7_method_10_code 27 = .ok (.aload_n 0, 1) := by decide +kernel
theorem dR_go_28 : decode prog_7_method_10_code 28 = .ok (.iconst 1, 1) := by decide +kernel
theorem dR_go_29 : decode prog_7_method_10_code 29 = .ok (.putfield 75, 3) := by decide +kernel
theorem dR_go_32 : decode prog_7_method_10_code 32 = .ok (.return_, 1) := by decide +kernel
theorem dR_holder_0 : decode prog_7_method_11_code 0 = .ok (.iconst 0, 1) := by decide +kernel
theorem dR_holder_1 : decode prog_7_method_11_code 1 = .ok (.istore_n 3, 1) := by decide +kernel
theorem dR_holder_2 : decode prog_7_method_11_code 2 = .ok (.iload_n 3, 1) := by decide +kernel
theorem dR_holder_3 : decode prog_7_method_11_code 3 = .ok (.bipush 24, 2) := by decide +kernel
theorem dR_holder_5 : decode prog_7_method_11_code 5 = .ok (.if_icmp .ge 54, 3) := by decide +kernel
theorem dR_holder_8 : decode prog_7_method_11_code 8 = .ok (.aload_n 0, 1) := by decide +kernel
theorem dR_holder_9 : decode prog_7_method_11_code 9 = .ok (.getfield 7, 3) := by decide +kernel
theorem dR_holder_12 : decode prog_7_method_11_code 12 = .ok (.iload_n 3, 1) := by decide +kernel
theorem dR_holder_13 : decode prog_7_method_11_code 13 = .ok (.iaload, 1) := by decide +kernel
theorem dR_holder_14 : decode prog_7_method_11_code 14 = .ok (.iconst 2, 1) := by decide +kernel
theorem dR_holder_15 : decode prog_7_method_11_code 15 = .ok (.if_icmp .lt 38, 3) := by decide +kernel
theorem dR_holder_18 : decode prog_7_method_11_code 18 = .ok (.aload_n 0, 1) := by decide +kernel
theorem dR_holder_19 : decode prog_7_method_11_code 19 = .ok (.getfield 7, 3) := by decide +kernel
theorem dR_holder_22 : decode prog_7_method_11_code 22 = .ok (.iload_n 3, 1) := by decide +kernel
theorem dR_holder_23 : decode prog_7_method_11_code 23 = .ok (.iaload, 1) := by decide +kernel
theorem dR_holder_24 : decode prog_7_method_11_code 24 = .ok (.iconst 4, 1) := by decide +kernel
theorem dR_holder_25 : decode prog_7_method_11_code 25 = .ok (.if_icmp .gt 28, 3) := by decide +kernel
theorem dR_holder_28 : decode prog_7_method_11_code 28 = .ok (.aload_n 0, 1) := by decide +kernel
theorem dR_holder_29 : decode prog_7_method_11_code 29 = .ok (.getfield 22, 3) := by decide +kernel
theorem dR_holder_32 : decode prog_7_method_11_code 32 = .ok (.iload_n 3, 1) := by decide +kernel
theorem dR_holder_33 : decode prog_7_method_11_code 33 = .ok (.iaload, 1) := by decide +kernel
theorem dR_holder_34 : decode prog_7_method_11_code 34 = .ok (.invokestatic 64, 3) := by decide +kernel
theorem dR_holder_37 : decode prog_7_method_11_code 37 = .ok (.iload_n 1, 1) := by decide +kernel
theorem dR_holder_38 : decode prog_7_method_11_code 38 = .ok (.if_icmp .ne 15, 3) := by decide +kernel
theorem dR_holder_41 : decode prog_7_method_11_code 41 = .ok (.aload_n 0, 1) := by decide +kernel
theorem dR_holder_42 : decode prog_7_method_11_code 42 = .ok (.getfield 32, 3) := by decide +kernel
theorem dR_holder_45 : decode prog_7_method_11_code 45 = .ok (.iload_n 3, 1) := by decide +kernel
theorem dR_holder_46 : decode prog_7_method_11_code 46 = .ok (.iaload, 1) := by decide +kernel
theorem dR_holder_47 : decode prog_7_method_11_code 47 = .ok (.iload_n 2, 1) := by decide +kernel
theorem dR_holder_48 : decode prog_7_method_11_code 48 = .ok (.if_icmp .ne 5, 3) := by decide +kernel
theorem dR_holder_51 : decode prog_7_method_11_code 51 = .ok (.iload_n 3, 1) := by decide +kernel
theorem dR_holder_52 : decode prog_7_method_11_code 52 = .ok (.ireturn, 1) := by decide +kernel
theorem dR_holder_53 : decode prog_7_method_11_code 53 = .ok (.iinc 3 1, 3) := by decide +kernel
theorem dR_holder_56 : decode prog_7_method_11_code 56 = .ok (.goto (-54), 3) := by decide +kernel
theorem dR_holder_59 : decode prog_7_method_11_code 59 = .ok (.iconst (-1), 1) := by decide +kernel
theorem dR_holder_60 : decode prog_7_method_11_code 60 = .ok (.ireturn, 1) := by decide +kernel
theorem dR_freeId_0 : decode prog_7_method_12_code 0 = .ok (.iconst 0, 1) := by decide +kernel
theorem dR_freeId_1 : decode prog_7_method_12_code 1 = .ok (.istore_n 2, 1) := by decide +kernel
theorem dR_freeId_2 : decode prog_7_method_12_code 2 = .ok (.iload_n 2, 1) := by decide +kernel
theorem dR_freeId_3 : decode prog_7_method_12_code 3 = .ok (.iconst 4, 1) := by decide +kernel
theorem dR_freeId_4 : decode prog_7_method_12_code 4 = .ok (.if_icmp .ge 20, 3) := by decide +kernel
theorem dR_freeId_7 : decode prog_7_method_12_code 7 = .ok (.aload_n 0, 1) := by decide +kernel
theorem dR_freeId_8 : decode prog_7_method_12_code 8 = .ok (.iload_n 1, 1) := by decide +kernel
theorem dR_freeId_9 : decode prog_7_method_12_code 9 = .ok (.iload_n 2, 1) := by decide +kernel
theorem dR_freeId_10 : decode prog_7_method_12_code 10 = .ok (.invokevirtual 79, 3) := by decide +kernel
theorem dR_freeId_13 : decode prog_7_method_12_code 13 = .ok (.ifCond .ge 5, 3) := by decide +kernel
theorem dR_freeId_16 : decode prog_7_method_12_code 16 = .ok (.iload_n 2, 1) := by decide +kernel
theorem dR_freeId_17 : decode prog_7_method_12_code 17 = .ok (.ireturn, 1) := by decide +kernel
theorem dR_freeId_18 : decode prog_7_method_12_code 18 = .ok (.iinc 2 1, 3) := by decide +kernel
theorem dR_freeId_21 : decode prog_7_method_12_code 21 = .ok (.goto (-19), 3) := by decide +kernel
theorem dR_freeId_24 : decode prog_7_method_12_code 24 = .ok (.iconst (-1), 1) := by decide +kernel
theorem dR_freeId_25 : decode prog_7_method_12_code 25 = .ok (.ireturn, 1) := by decide +kernel
theorem dR_request_0 : decode prog_7_method_13_code 0 = .ok (.iload_n 1, 1) := by decide +kernel
theorem dR_request_1 : decode prog_7_method_13_code 1 = .ok (.iconst 3, 1) := by decide +kernel
theorem dR_request_2 : decode prog_7_method_13_code 2 = .ok (.invokestatic 83, 3) := by decide +kernel
theorem dR_request_5 : decode prog_7_method_13_code 5 = .ok (.ifCond .eq 55, 3) := by decide +kernel
theorem dR_request_8 : decode prog_7_method_13_code 8 = .ok (.iload_n 2, 1) := by decide +kernel
theorem dR_request_9 : decode prog_7_method_13_code 9 = .ok (.bipush 8, 2) := by decide +kernel
theorem dR_request_11 : decode prog_7_method_13_code 11 = .ok (.invokestatic 83, 3) := by decide +kernel
theorem dR_request_14 : decode prog_7_method_13_code 14 = .ok (.ifCond .eq 46, 3) := by decide +kernel
theorem dR_request_17 : decode prog_7_method_13_code 17 = .ok (.iload_n 3, 1) := by decide +kernel
theorem dR_request_18 : decode prog_7_method_13_code 18 = .ok (.iconst 3, 1) := by decide +kernel
theorem dR_request_19 : decode prog_7_method_13_code 19 = .ok (.invokestatic 83, 3) := by decide +kernel
theorem dR_request_22 : decode prog_7_method_13_code 22 = .ok (.ifCond .eq 38, 3) := by decide +kernel
theorem dR_request_25 : decode prog_7_method_13_code 25 = .ok (.iload 4, 2) := by decide +kernel
theorem dR_request_27 : decode prog_7_method_13_code 27 = .ok (.iconst 4, 1) := by decide +kernel
theorem dR_request_28 : decode prog_7_method_13_code 28 = .ok (.invokestatic 83, 3) := by decide +kernel
theorem dR_request_31 : decode prog_7_method_13_code 31 = .ok (.ifCond .eq 29, 3) := by decide +kernel
theorem dR_request_34 : decode prog_7_method_13_code 34 = .ok (.iload 5, 2) := by decide +kernel
theorem dR_request_36 : decode prog_7_method_13_code 36 = .ok (.sipush 1024, 3) := by decide +kernel
theorem dR_request_39 : decode prog_7_method_13_code 39 = .ok (.invokestatic 83, 3) := by decide +kernel
theorem dR_request_42 : decode prog_7_method_13_code 42 = .ok (.ifCond .eq 18, 3) := by decide +kernel
theorem dR_request_45 : decode prog_7_method_13_code 45 = .ok (.iload 8, 2) := by decide +kernel
theorem dR_request_47 : decode prog_7_method_13_code 47 = .ok (.sipush 256, 3) := by decide +kernel
theorem dR_request_50 : decode prog_7_method_13_code 50 = .ok (.invokestatic 83, 3) := by decide +kernel
theorem dR_request_53 : decode prog_7_method_13_code 53 = .ok (.ifCond .eq 7, 3) := by decide +kernel
theorem dR_request_56 : decode prog_7_method_13_code 56 = .ok (.iconst 1, 1) := by decide +kernel
theorem dR_request_57 : decode prog_7_method_13_code 57 = .ok (.goto 4, 3) := by decide +kernel
theorem dR_request_60 : decode prog_7_method_13_code 60 = .ok (.iconst 0, 1) := by decide +kernel
theorem dR_request_61 : decode prog_7_method_13_code 61 = .ok (.istore 9, 2) := by decide +kernel
theorem dR_request_63 : decode prog_7_method_13_code 63 = .ok (.aload_n 0, 1) := by decide +kernel
theorem dR_request_64 : decode prog_7_method_13_code 64 = .ok (.iload 9, 2) := by decide +kernel
theorem dR_request_66 : decode prog_7_method_13_code 66 = .ok (.ifCond .eq 17, 3) := by decide +kernel
theorem dR_request_69 : decode prog_7_method_13_code 69 = .ok (.iload 5, 2) := by decide +kernel
theorem dR_request_71 : decode prog_7_method_13_code 71 = .ok (.iconst 1, 1) := by decide +kernel
theorem dR_request_72 : decode prog_7_method_13_code 72 = .ok (.iload 4, 2) := by decide +kernel
theorem dR_request_74 : decode prog_7_method_13_code 74 = .ok (.ishl, 1) := by decide +kernel
theorem dR_request_75 : decode prog_7_method_13_code 75 = .ok (.irem, 1) := by decide +kernel
theorem dR_request_76 : decode prog_7_method_13_code 76 = .ok (.ifCond .ne 7, 3) := by decide +kernel
theorem dR_request_79 : decode prog_7_method_13_code 79 = .ok (.iconst 0, 1) := by decide +kernel
theorem dR_request_80 : decode prog_7_method_13_code 80 = .ok (.goto 4, 3) := by decide +kernel
theorem dR_request_83 : decode prog_7_method_13_code 83 = .ok (.iconst 1, 1) := by decide +kernel
theorem dR_request_84 : decode prog_7_method_13_code 84 = .ok (.putfield 60, 3) := by decide +kernel
theorem dR_request_87 : decode prog_7_method_13_code 87 = .ok (.aload_n 0, 1) := by decide +kernel
theorem dR_request_88 : decode prog_7_method_13_code 88 = .ok (.getfield 60, 3) := by decide +kernel
theorem dR_request_91 : decode prog_7_method_13_code 91 = .ok (.ifCond .le 5, 3) := by decide +kernel
theorem dR_request_94 : decode prog_7_method_13_code 94 = .ok (.iconst 0, 1) := by decide +kernel
theorem dR_request_95 : decode prog_7_method_13_code 95 = .ok (.ireturn, 1) := by decide +kernel
theorem dR_request_96 : decode prog_7_method_13_code 96 = .ok (.bipush 8, 2) := by decide +kernel
theorem dR_request_98 : decode prog_7_method_13_code 98 = .ok (.iload_n 1, 1) := by decide +kernel
theorem dR_request_99 : decode prog_7_method_13_code 99 = .ok (.imul, 1) := by decide +kernel
theorem dR_request_100 : decode prog_7_method_13_code 100 = .ok (.iload_n 2, 1) := by decide +kernel
theorem dR_request_101 : decode prog_7_method_13_code 101 = .ok (.iadd, 1) := by decide +kernel
theorem dR_request_102 : decode prog_7_method_13_code 102 = .ok (.istore 10, 2) := by decide +kernel
theorem dR_request_104 : decode prog_7_method_13_code 104 = .ok (.aload_n 0, 1) := by decide +kernel
theorem dR_request_105 : decode prog_7_method_13_code 105 = .ok (.getfield 7, 3) := by decide +kernel
theorem dR_request_108 : decode prog_7_method_13_code 108 = .ok (.iload 10, 2) := by decide +kernel
theorem dR_request_110 : decode prog_7_method_13_code 110 = .ok (.iaload, 1) := by decide +kernel
theorem dR_request_111 : decode prog_7_method_13_code 111 = .ok (.ifCond .ne 14, 3) := by decide +kernel
theorem dR_request_114 : decode prog_7_method_13_code 114 = .ok (.aload_n 0, 1) := by decide +kernel
theorem dR_request_115 : decode prog_7_method_13_code 115 = .ok (.iconst 1, 1) := by decide +kernel
theorem dR_request_116 : decode prog_7_method_13_code 116 = .ok (.iload_n 1, 1) := by decide +kernel
theorem dR_request_117 : decode prog_7_method_13_code 117 = .ok (.invokevirtual 87, 3) := by decide +kernel
theorem dR_request_120 : decode prog_7_method_13_code 120 = .ok (.bipush 8, 2) := by decide +kernel
theorem dR_request_122 : decode prog_7_method_13_code 122 = .ok (.if_icmp .ne 5, 3) := by decide +kernel
theorem dR_request_125 : decode prog_7_method_13_code 125 = .ok (.iconst (-1), 1) := by decide +kernel
theorem dR_request_126 : decode prog_7_method_13_code 126 = .ok (.ireturn, 1) := by decide +kernel
theorem dR_request_127 : decode prog_7_method_13_code 127 = .ok (.aload_n 0, 1) := by decide +kernel
theorem dR_request_128 : decode prog_7_method_13_code 128 = .ok (.getfield 16, 3) := by decide +kernel
theorem dR_request_131 : decode prog_7_method_13_code 131 = .ok (.iload 10, 2) := by decide +kernel
theorem dR_request_133 : decode prog_7_method_13_code 133 = .ok (.iload_n 3, 1) := by decide +kernel
theorem dR_request_134 : decode prog_7_method_13_code 134 = .ok (.iastore, 1) := by decide +kernel
theorem dR_request_135 : decode prog_7_method_13_code 135 = .ok (.aload_n 0, 1) := by decide +kernel
theorem dR_request_136 : decode prog_7_method_13_code 136 = .ok (.getfield 19, 3) := by decide +kernel
theorem dR_request_139 : decode prog_7_method_13_code 139 = .ok (.iload 10, 2) := by decide +kernel
theorem dR_request_141 : decode prog_7_method_13_code 141 = .ok (.iconst 1, 1) := by decide +kernel
theorem dR_request_142 : decode prog_7_method_13_code 142 = .ok (.iload 4, 2) := by decide +kernel
theorem dR_request_144 : decode prog_7_method_13_code 144 = .ok (.ishl, 1) := by decide +kernel
theorem dR_request_145 : decode prog_7_method_13_code 145 = .ok (.iastore, 1) := by decide +kernel
theorem dR_request_146 : decode prog_7_method_13_code 146 = .ok (.aload_n 0, 1) := by decide +kernel
theorem dR_request_147 : decode prog_7_method_13_code 147 = .ok (.getfield 22, 3) := by decide +kernel
theorem dR_request_150 : decode prog_7_method_13_code 150 = .ok (.iload 10, 2) := by decide +kernel
theorem dR_request_152 : decode prog_7_method_13_code 152 = .ok (.iload 5, 2) := by decide +kernel
theorem dR_request_154 : decode prog_7_method_13_code 154 = .ok (.iastore, 1) := by decide +kernel
theorem dR_request_155 : decode prog_7_method_13_code 155 = .ok (.aload_n 0, 1) := by decide +kernel
theorem dR_request_156 : decode prog_7_method_13_code 156 = .ok (.getfield 25, 3) := by decide +kernel
theorem dR_request_159 : decode prog_7_method_13_code 159 = .ok (.iload 10, 2) := by decide +kernel
theorem dR_request_161 : decode prog_7_method_13_code 161 = .ok (.lload 6, 2) := by decide +kernel
theorem dR_request_163 : decode prog_7_method_13_code 163 = .ok (.lastore, 1) := by decide +kernel
theorem dR_request_164 : decode prog_7_method_13_code 164 = .ok (.aload_n 0, 1) := by decide +kernel
theorem dR_request_165 : decode prog_7_method_13_code 165 = .ok (.getfield 29, 3) := by decide +kernel
theorem dR_request_168 : decode prog_7_method_13_code 168 = .ok (.iload 10, 2) := by decide +kernel
theorem dR_request_170 : decode prog_7_method_13_code 170 = .ok (.iload 8, 2) := by decide +kernel
theorem dR_request_172 : decode prog_7_method_13_code 172 = .ok (.iastore, 1) := by decide +kernel
theorem dR_request_173 : decode prog_7_method_13_code 173 = .ok (.aload_n 0, 1) := by decide +kernel
theorem dR_request_174 : decode prog_7_method_13_code 174 = .ok (.iload 10, 2) := by decide +kernel
theorem dR_request_176 : decode prog_7_method_13_code 176 = .ok (.iconst 1, 1) := by decide +kernel
theorem dR_request_177 : decode prog_7_method_13_code 177 = .ok (.invokevirtual 90, 3) := by decide +kernel
theorem dR_request_180 : decode prog_7_method_13_code 180 = .ok (.aload_n 0, 1) := by decide +kernel
theorem dR_request_181 : decode prog_7_method_13_code 181 = .ok (.getfield 57, 3) := by decide +kernel
theorem dR_request_184 : decode prog_7_method_13_code 184 = .ok (.iconst 1, 1) := by decide +kernel
theorem dR_request_185 : decode prog_7_method_13_code 185 = .ok (.dup2, 1) := by decide +kernel
theorem dR_request_186 : decode prog_7_method_13_code 186 = .ok (.iaload, 1) := by decide +kernel
theorem dR_request_187 : decode prog_7_method_13_code 187 = .ok (.iconst 1, 1) := by decide +kernel
theorem dR_request_188 : decode prog_7_method_13_code 188 = .ok (.iadd, 1) := by decide +kernel
theorem dR_request_189 : decode prog_7_method_13_code 189 = .ok (.iastore, 1) := by decide +kernel
theorem dR_request_190 : decode prog_7_method_13_code 190 = .ok (.aload_n 0, 1) := by decide +kernel
theorem dR_request_191 : decode prog_7_method_13_code 191 = .ok (.iconst 1, 1) := by decide +kernel
theorem dR_request_192 : decode prog_7_method_13_code 192 = .ok (.iload_n 1, 1) := by decide +kernel
theorem dR_request_193 : decode prog_7_method_13_code 193 = .ok (.invokevirtual 87, 3) := by decide +kernel
theorem dR_request_196 : decode prog_7_method_13_code 196 = .ok (.ireturn, 1) := by decide +kernel
theorem dR_accept_0 : decode prog_7_method_14_code 0 = .ok (.aload_n 0, 1) := by decide +kernel
theorem dR_accept_1 : decode prog_7_method_14_code 1 = .ok (.iload_n 1, 1) := by decide +kernel
theorem dR_accept_2 : decode prog_7_method_14_code 2 = .ok (.iconst 3, 1) := by decide +kernel
theorem dR_accept_3 : decode prog_7_method_14_code 3 = .ok (.invokestatic 83, 3) := by decide +kernel
theorem dR_accept_6 : decode prog_7_method_14_code 6 = .ok (.ifCond .eq 7, 3) := by decide +kernel
theorem dR_accept_9 : decode prog_7_method_14_code 9 = .ok (.iconst 0, 1) := by decide +kernel
theorem dR_accept_10 : decode prog_7_method_14_code 10 = .ok (.goto 4, 3) := by decide +kernel
theorem dR_accept_13 : decode prog_7_method_14_code 13 = .ok (.iconst 1, 1) := by decide +kernel
theorem dR_accept_14 : decode prog_7_method_14_code 14 = .ok (.putfield 60, 3) := by decide +kernel
theorem dR_accept_17 : decode prog_7_method_14_code 17 = .ok (.aload_n 0, 1) := by decide +kernel
theorem dR_accept_18 : decode prog_7_method_14_code 18 = .ok (.getfield 60, 3) := by decide +kernel
theorem dR_accept_21 : decode prog_7_method_14_code 21 = .ok (.ifCond .le 5, 3) := by decide +kernel
theorem dR_accept_24 : decode prog_7_method_14_code 24 = .ok (.iconst 0, 1) := by decide +kernel
theorem dR_accept_25 : decode prog_7_method_14_code 25 = .ok (.ireturn, 1) := by decide +kernel
theorem dR_accept_26 : decode prog_7_method_14_code 26 = .ok (.aload_n 0, 1) := by decide +kernel
theorem dR_accept_27 : decode prog_7_method_14_code 27 = .ok (.getfield 35, 3) := by decide +kernel
theorem dR_accept_30 : decode prog_7_method_14_code 30 = .ok (.iload_n 1, 1) := by decide +kernel
theorem dR_accept_31 : decode prog_7_method_14_code 31 = .ok (.baload, 1) := by decide +kernel
theorem dR_accept_32 : decode prog_7_method_14_code 32 = .ok (.ifCond .ne 7, 3) := by decide +kernel
theorem dR_accept_35 : decode prog_7_method_14_code 35 = .ok (.iconst 1, 1) := by decide +kernel
theorem dR_accept_36 : decode prog_7_method_14_code 36 = .ok (.goto 4, 3) := by decide +kernel
theorem dR_accept_39 : decode prog_7_method_14_code 39 = .ok (.iconst 0, 1) := by decide +kernel
theorem dR_accept_40 : decode prog_7_method_14_code 40 = .ok (.istore_n 3, 1) := by decide +kernel
theorem dR_accept_41 : decode prog_7_method_14_code 41 = .ok (.aload_n 0, 1) := by decide +kernel
theorem dR_accept_42 : decode prog_7_method_14_code 42 = .ok (.getfield 35, 3) := by decide +kernel
theorem dR_accept_45 : decode prog_7_method_14_code 45 = .ok (.iload_n 1, 1) := by decide +kernel
theorem dR_accept_46 : decode prog_7_method_14_code 46 = .ok (.iload_n 2, 1) := by decide +kernel
theorem dR_accept_47 : decode prog_7_method_14_code 47 = .ok (.ifCond .ne 7, 3) := by decide +kernel
theorem dR_accept_50 : decode prog_7_method_14_code 50 = .ok (.iconst 1, 1) := by decide +kernel
theorem dR_accept_51 : decode prog_7_method_14_code 51 = .ok (.goto 4, 3) := by decide +kernel
theorem dR_accept_54 : decode prog_7_method_14_code 54 = .ok (.iconst 0, 1) := by decide +kernel
theorem dR_accept_55 : decode prog_7_method_14_code 55 = .ok (.bastore, 1) := by decide +kernel
theorem dR_accept_56 : decode prog_7_method_14_code 56 = .ok (.iload_n 3, 1) := by decide +kernel
theorem dR_accept_57 : decode prog_7_method_14_code 57 = .ok (.ireturn, 1) := by decide +kernel
theorem dR_answers_0 : decode prog_7_method_15_code 0 = .ok (.aload_n 0, 1) := by decide +kernel
theorem dR_answers_1 : decode prog_7_method_15_code 1 = .ok (.getfield 35, 3) := by decide +kernel
theorem dR_answers_4 : decode prog_7_method_15_code 4 = .ok (.iload_n 1, 1) := by decide +kernel
theorem dR_answers_5 : decode prog_7_method_15_code 5 = .ok (.baload, 1) := by decide +kernel
theorem dR_answers_6 : decode prog_7_method_15_code 6 = .ok (.ifCond .ne 13, 3) := by decide +kernel
theorem dR_answers_9 : decode prog_7_method_15_code 9 = .ok (.aload_n 0, 1) := by decide +kernel
theorem dR_answers_10 : decode prog_7_method_15_code 10 = .ok (.iconst 5, 1) := by decide +kernel
theorem dR_answers_11 : decode prog_7_method_15_code 11 = .ok (.iload_n 1, 1) := by decide +kernel
theorem dR_answers_12 : decode prog_7_method_15_code 12 = .ok (.invokevirtual 87, 3) := by decide +kernel
theorem dR_answers_15 : decode prog_7_method_15_code 15 = .ok (.iconst 3, 1) := by decide +kernel
theorem dR_answers_16 : decode prog_7_method_15_code 16 = .ok (.if_icmp .le 4, 3) := by decide +kernel
theorem dR_answers_19 : decode prog_7_method_15_code 19 = .ok (.return_, 1) := by decide +kernel
theorem dR_answers_20 : decode prog_7_method_15_code 20 = .ok (.iconst 0, 1) := by decide +kernel
theorem dR_answers_21 : decode prog_7_method_15_code 21 = .ok (.istore_n 2, 1) := by decide +kernel
theorem dR_answers_22 : decode prog_7_method_15_code 22 = .ok (.iload_n 2, 1) := by decide +kernel
theorem dR_answers_23 : decode prog_7_method_15_code 23 = .ok (.iconst 4, 1) := by decide +kernel
theorem dR_answers_24 : decode prog_7_method_15_code 24 = .ok (.if_icmp .ge 76, 3) := by decide +kernel
theorem dR_answers_27 : decode prog_7_method_15_code 27 = .ok (.aload_n 0, 1) := by decide +kernel
theorem dR_answers_28 : decode prog_7_method_15_code 28 = .ok (.getfield 39, 3) := by decide +kernel
theorem dR_answers_31 : decode prog_7_method_15_code 31 = .ok (.iload_n 1, 1) := by decide +kernel
theorem dR_answers_32 : decode prog_7_method_15_code 32 = .ok (.iaload, 1) := by decide +kernel
theorem dR_answers_33 : decode prog_7_method_15_code 33 = .ok (.iload_n 2, 1) := by decide +kernel
theorem dR_answers_34 : decode prog_7_method_15_code 34 = .ok (.iadd, 1) := by decide +kernel
theorem dR_answers_35 : decode prog_7_method_15_code 35 = .ok (.iconst 4, 1) := by decide +kernel
theorem dR_answers_36 : decode prog_7_method_15_code 36 = .ok (.irem, 1) := by decide +kernel
theorem dR_answers_37 : decode prog_7_method_15_code 37 = .ok (.istore_n 3, 1) := by decide +kernel
theorem dR_answers_38 : decode prog_7_method_15_code 38 = .ok (.aload_n 0, 1) := by decide +kernel
theorem dR_answers_39 : decode prog_7_method_15_code 39 = .ok (.iconst 4, 1) := by decide +kernel
theorem dR_answers_40 : decode prog_7_method_15_code 40 = .ok (.iconst (-1), 1) := by decide +kernel
theorem dR_answers_41 : decode prog_7_method_15_code 41 = .ok (.iload_n 3, 1) := by decide +kernel
theorem dR_answers_42 : decode prog_7_method_15_code 42 = .ok (.isub, 1) := by decide +kernel
theorem dR_answers_43 : decode prog_7_method_15_code 43 = .ok (.invokevirtual 94, 3) := by decide +kernel
theorem dR_answers_46 : decode prog_7_method_15_code 46 = .ok (.istore 4, 2) := by decide +kernel
theorem dR_answers_48 : decode prog_7_method_15_code 48 = .ok (.iload 4, 2) := by decide +kernel
theorem dR_answers_50 : decode prog_7_method_15_code 50 = .ok (.ifCond .lt 44, 3) := by decide +kernel
theorem dR_answers_53 : decode prog_7_method_15_code 53 = .ok (.iload 4, 2) := by decide +kernel
theorem dR_answers_55 : decode prog_7_method_15_code 55 = .ok (.bipush 8, 2) := by decide +kernel
theorem dR_answers_57 : decode prog_7_method_15_code 57 = .ok (.idiv, 1) := by decide +kernel
theorem dR_answers_58 : decode prog_7_method_15_code 58 = .ok (.iload_n 1, 1) := by decide +kernel
theorem dR_answers_59 : decode prog_7_method_15_code 59 = .ok (.if_icmp .eq 6, 3) := by decide +kernel
theorem dR_answers_62 : decode prog_7_method_15_code 62 = .ok (.goto 32, 3) := by decide +kernel
theorem dR_answers_65 : decode prog_7_method_15_code 65 = .ok (.aload_n 0, 1) := by decide +kernel
theorem dR_answers_66 : decode prog_7_method_15_code 66 = .ok (.getfield 39, 3) := by decide +kernel
theorem dR_answers_69 : decode prog_7_method_15_code 69 = .ok (.iload_n 1, 1) := by decide +kernel
theorem dR_answers_70 : decode prog_7_method_15_code 70 = .ok (.iload_n 3, 1) := by decide +kernel
theorem dR_answers_71 : decode prog_7_method_15_code 71 = .ok (.iconst 1, 1) := by decide +kernel
theorem dR_answers_72 : decode prog_7_method_15_code 72 = .ok (.iadd, 1) := by decide +kernel
theorem dR_answers_73 : decode prog_7_method_15_code 73 = .ok (.iconst 4, 1) := by decide +kernel
theorem dR_answers_74 : decode prog_7_method_15_code 74 = .ok (.irem, 1) := by decide +kernel
theorem dR_answers_75 : decode prog_7_method_15_code 75 = .ok (.iastore, 1) := by decide +kernel
theorem dR_answers_76 : decode prog_7_method_15_code 76 = .ok (.aload_n 0, 1) := by decide +kernel
theorem dR_answers_77 : decode prog_7_method_15_code 77 = .ok (.iload 4, 2) := by decide +kernel
theorem dR_answers_79 : decode prog_7_method_15_code 79 = .ok (.iconst 5, 1) := by decide +kernel
theorem dR_answers_80 : decode prog_7_method_15_code 80 = .ok (.invokevirtual 90, 3) := by decide +kernel
theorem dR_answers_83 : decode prog_7_method_15_code 83 = .ok (.aload_n 0, 1) := by decide +kernel
theorem dR_answers_84 : decode prog_7_method_15_code 84 = .ok (.getfield 57, 3) := by decide +kernel
theorem dR_answers_87 : decode prog_7_method_15_code 87 = .ok (.iconst 4, 1) := by decide +kernel
theorem dR_answers_88 : decode prog_7_method_15_code 88 = .ok (.dup2, 1) := by decide +kernel
theorem dR_answers_89 : decode prog_7_method_15_code 89 = .ok (.iaload, 1) := by decide +kernel
theorem dR_answers_90 : decode prog_7_method_15_code 90 = .ok (.iconst 1, 1) := by decide +kernel
theorem dR_answers_91 : decode prog_7_method_15_code 91 = .ok (.iadd, 1) := by decide +kernel
theorem dR_answers_92 : decode prog_7_method_15_code 92 = .ok (.iastore, 1) := by decide +kernel
theorem dR_answers_93 : decode prog_7_method_15_code 93 = .ok (.return_, 1) := by decide +kernel
theorem dR_answers_94 : decode prog_7_method_15_code 94 = .ok (.iinc 2 1, 3) := by decide +kernel
theorem dR_answers_97 : decode prog_7_method_15_code 97 = .ok (.goto (-75), 3) := by decide +kernel
theorem dR_answers_100 : decode prog_7_method_15_code 100 = .ok (.return_, 1) := by decide +kernel
theorem dR_work_0 : decode prog_7_method_16_code 0 = .ok (.lconst 0, 1) := by decide +kernel
theorem dR_work_1 : decode prog_7_method_16_code 1 = .ok (.lstore_n 2, 1) := by decide +kernel
theorem dR_work_2 : decode prog_7_method_16_code 2 = .ok (.iconst 0, 1) := by decide +kernel
theorem dR_work_3 : decode prog_7_method_16_code 3 = .ok (.istore 4, 2) := by decide +kernel
theorem dR_work_5 : decode prog_7_method_16_code 5 = .ok (.iload 4, 2) := by decide +kernel
theorem dR_work_7 : decode prog_7_method_16_code 7 = .ok (.aload_n 0, 1) := by decide +kernel
theorem dR_work_8 : decode prog_7_method_16_code 8 = .ok (.getfield 19, 3) := by decide +kernel
theorem dR_work_11 : decode prog_7_method_16_code 11 = .ok (.iload_n 1, 1) := by decide +kernel
theorem dR_work_12 : decode prog_7_method_16_code 12 = .ok (.iaload, 1) := by decide +kernel
theorem dR_work_13 : decode prog_7_method_16_code 13 = .ok (.if_icmp .ge 110, 3) := by decide +kernel
theorem dR_work_16 : decode prog_7_method_16_code 16 = .ok (.aload_n 0, 1) := by decide +kernel
theorem dR_work_17 : decode prog_7_method_16_code 17 = .ok (.getfield 22, 3) := by decide +kernel
theorem dR_work_20 : decode prog_7_method_16_code 20 = .ok (.iload_n 1, 1) := by decide +kernel
theorem dR_work_21 : decode prog_7_method_16_code 21 = .ok (.iaload, 1) := by decide +kernel
theorem dR_work_22 : decode prog_7_method_16_code 22 = .ok (.sipush 640, 3) := by decide +kernel
theorem dR_work_25 : decode prog_7_method_16_code 25 = .ok (.if_icmp .ge 98, 3) := by decide +kernel
theorem dR_work_28 : decode prog_7_method_16_code 28 = .ok (.aload_n 0, 1) := by decide +kernel
theorem dR_work_29 : decode prog_7_method_16_code 29 = .ok (.getfield 22, 3) := by decide +kernel
theorem dR_work_32 : decode prog_7_method_16_code 32 = .ok (.iload_n 1, 1) := by decide +kernel
theorem dR_work_33 : decode prog_7_method_16_code 33 = .ok (.iaload, 1) := by decide +kernel
theorem dR_work_34 : decode prog_7_method_16_code 34 = .ok (.iload 4, 2) := by decide +kernel
theorem dR_work_36 : decode prog_7_method_16_code 36 = .ok (.iadd, 1) := by decide +kernel
theorem dR_work_37 : decode prog_7_method_16_code 37 = .ok (.istore 5, 2) := by decide +kernel
theorem dR_work_39 : decode prog_7_method_16_code 39 = .ok (.aload_n 0, 1) := by decide +kernel
theorem dR_work_40 : decode prog_7_method_16_code 40 = .ok (.getfield 16, 3) := by decide +kernel
theorem dR_work_43 : decode prog_7_method_16_code 43 = .ok (.iload_n 1, 1) := by decide +kernel
theorem dR_work_44 : decode prog_7_method_16_code 44 = .ok (.iaload, 1) := by decide +kernel
theorem dR_work_45 : decode prog_7_method_16_code 45 = .ok (.ifCond .ne 23, 3) := by decide +kernel
theorem dR_work_48 : decode prog_7_method_16_code 48 = .ok (.lload_n 2, 1) := by decide +kernel
theorem dR_work_49 : decode prog_7_method_16_code 49 = .ok (.aload_n 0, 1) := by decide +kernel
theorem dR_work_50 : decode prog_7_method_16_code 50 = .ok (.getfield 51, 3) := by decide +kernel
theorem dR_work_53 : decode prog_7_method_16_code 53 = .ok (.iload 5, 2) := by decide +kernel
theorem dR_work_55 : decode prog_7_method_16_code 55 = .ok (.iaload, 1) := by decide +kernel
theorem dR_work_56 : decode prog_7_method_16_code 56 = .ok (.i2l, 1) := by decide +kernel
theorem dR_work_57 : decode prog_7_method_16_code 57 = .ok (.bipush 8, 2) := by decide +kernel
theorem dR_work_59 : decode prog_7_method_16_code 59 = .ok (.iload 4, 2) := by decide +kernel
theorem dR_work_61 : decode prog_7_method_16_code 61 = .ok (.imul, 1) := by decide +kernel
theorem dR_work_62 : decode prog_7_method_16_code 62 = .ok (.lshl, 1) := by decide +kernel
theorem dR_work_63 : decode prog_7_method_16_code 63 = .ok (.lor, 1) := by decide +kernel
theorem dR_work_64 : decode prog_7_method_16_code 64 = .ok (.lstore_n 2, 1) := by decide +kernel
theorem dR_work_65 : decode prog_7_method_16_code 65 = .ok (.goto 52, 3) := by decide +kernel
theorem dR_work_68 : decode prog_7_method_16_code 68 = .ok (.aload_n 0, 1) := by decide +kernel
theorem dR_work_69 : decode prog_7_method_16_code 69 = .ok (.getfield 16, 3) := by decide +kernel
theorem dR_work_72 : decode prog_7_method_16_code 72 = .ok (.iload_n 1, 1) := by decide +kernel
theorem dR_work_73 : decode prog_7_method_16_code 73 = .ok (.iaload, 1) := by decide +kernel
theorem dR_work_74 : decode prog_7_method_16_code 74 = .ok (.iconst 1, 1) := by decide +kernel
theorem dR_work_75 : decode prog_7_method_16_code 75 = .ok (.if_icmp .eq 18, 3) := by decide +kernel
theorem dR_work_78 : decode prog_7_method_16_code 78 = .ok (.aload_n 0, 1) := by decide +kernel
theorem dR_work_79 : decode prog_7_method_16_code 79 = .ok (.getfield 29, 3) := by decide +kernel
theorem dR_work_82 : decode prog_7_method_16_code 82 = .ok (.iload_n 1, 1) := by decide +kernel
theorem dR_work_83 : decode prog_7_method_16_code 83 = .ok (.iaload, 1) := by decide +kernel
theorem dR_work_84 : decode prog_7_method_16_code 84 = .ok (.iload 4, 2) := by decide +kernel
theorem dR_work_86 : decode prog_7_method_16_code 86 = .ok (.ishr, 1) := by decide +kernel
theorem dR_work_87 : decode prog_7_method_16_code 87 = .ok (.iconst 1, 1) := by decide +kernel
theorem dR_work_88 : decode prog_7_method_16_code 88 = .ok (.iand, 1) := by decide +kernel
theorem dR_work_89 : decode prog_7_method_16_code 89 = .ok (.iconst 1, 1) := by decide +kernel
theorem dR_work_90 : decode prog_7_method_16_code 90 = .ok (.if_icmp .ne 27, 3) := by decide +kernel
theorem dR_work_93 : decode prog_7_method_16_code 93 = .ok (.aload_n 0, 1) := by decide +kernel
theorem dR_work_94 : decode prog_7_method_16_code 94 = .ok (.getfield 51, 3) := by decide +kernel
theorem dR_work_97 : decode prog_7_method_16_code 97 = .ok (.iload 5, 2) := by decide +kernel
theorem dR_work_99 : decode prog_7_method_16_code 99 = .ok (.aload_n 0, 1) := by decide +kernel
theorem dR_work_100 : decode prog_7_method_16_code 100 = .ok (.getfield 25, 3) := by decide +kernel
theorem dR_work_103 : decode prog_7_method_16_code 103 = .ok (.iload_n 1, 1) := by decide +kernel
theorem dR_work_104 : decode prog_7_method_16_code 104 = .ok (.laload, 1) := by decide +kernel
theorem dR_work_105 : decode prog_7_method_16_code 105 = .ok (.bipush 8, 2) := by decide +kernel
theorem dR_work_107 : decode prog_7_method_16_code 107 = .ok (.iload 4, 2) := by decide +kernel
theorem dR_work_109 : decode prog_7_method_16_code 109 = .ok (.imul, 1) := by decide +kernel
theorem dR_work_110 : decode prog_7_method_16_code 110 = .ok (.lshr, 1) := by decide +kernel
theorem dR_work_111 : decode prog_7_method_16_code 111 = .ok (.ldc2_w 97, 3) := by decide +kernel
theorem dR_work_114 : decode prog_7_method_16_code 114 = .ok (.land, 1) := by decide +kernel
theorem dR_work_115 : decode prog_7_method_16_code 115 = .ok (.l2i, 1) := by decide +kernel
theorem dR_work_116 : decode prog_7_method_16_code 116 = .ok (.iastore, 1) := by decide +kernel
theorem dR_work_117 : decode prog_7_method_16_code 117 = .ok (.iinc 4 1, 3) := by decide +kernel
theorem dR_work_120 : decode prog_7_method_16_code 120 = .ok (.goto (-115), 3) := by decide +kernel
theorem dR_work_123 : decode prog_7_method_16_code 123 = .ok (.aload_n 0, 1) := by decide +kernel
theorem dR_work_124 : decode prog_7_method_16_code 124 = .ok (.getfield 25, 3) := by decide +kernel
theorem dR_work_127 : decode prog_7_method_16_code 127 = .ok (.iload_n 1, 1) := by decide +kernel
theorem dR_work_128 : decode prog_7_method_16_code 128 = .ok (.lload_n 2, 1) := by decide +kernel
theorem dR_work_129 : decode prog_7_method_16_code 129 = .ok (.lastore, 1) := by decide +kernel
theorem dR_work_130 : decode prog_7_method_16_code 130 = .ok (.return_, 1) := by decide +kernel
theorem dR_serve_0 : decode prog_7_method_17_code 0 = .ok (.aload_n 0, 1) := by decide +kernel
theorem dR_serve_1 : decode prog_7_method_17_code 1 = .ok (.iconst 3, 1) := by decide +kernel
theorem dR_serve_2 : decode prog_7_method_17_code 2 = .ok (.iconst (-1), 1) := by decide +kernel
theorem dR_serve_3 : decode prog_7_method_17_code 3 = .ok (.iload_n 1, 1) := by decide +kernel
theorem dR_serve_4 : decode prog_7_method_17_code 4 = .ok (.isub, 1) := by decide +kernel
theorem dR_serve_5 : decode prog_7_method_17_code 5 = .ok (.invokevirtual 94, 3) := by decide +kernel
theorem dR_serve_8 : decode prog_7_method_17_code 8 = .ok (.istore_n 2, 1) := by decide +kernel
theorem dR_serve_9 : decode prog_7_method_17_code 9 = .ok (.iload_n 2, 1) := by decide +kernel
theorem dR_serve_10 : decode prog_7_method_17_code 10 = .ok (.ifCond .lt 103, 3) := by decide +kernel
theorem dR_serve_13 : decode prog_7_method_17_code 13 = .ok (.aload_n 0, 1) := by decide +kernel
theorem dR_serve_14 : decode prog_7_method_17_code 14 = .ok (.getfield 45, 3) := by decide +kernel
theorem dR_serve_17 : decode prog_7_method_17_code 17 = .ok (.iload_n 1, 1) := by decide +kernel
theorem dR_serve_18 : decode prog_7_method_17_code 18 = .ok (.aload_n 0, 1) := by decide +kernel
theorem dR_serve_19 : decode prog_7_method_17_code 19 = .ok (.getfield 45, 3) := by decide +kernel
theorem dR_serve_22 : decode prog_7_method_17_code 22 = .ok (.iload_n 1, 1) := by decide +kernel
theorem dR_serve_23 : decode prog_7_method_17_code 23 = .ok (.iaload, 1) := by decide +kernel
theorem dR_serve_24 : decode prog_7_method_17_code 24 = .ok (.ifCond .le 14, 3) := by decide +kernel
theorem dR_serve_27 : decode prog_7_method_17_code 27 = .ok (.aload_n 0, 1) := by decide +kernel
theorem dR_serve_28 : decode prog_7_method_17_code 28 = .ok (.getfield 45, 3) := by decide +kernel
theorem dR_serve_31 : decode prog_7_method_17_code 31 = .ok (.iload_n 1, 1) := by decide +kernel
theorem dR_serve_32 : decode prog_7_method_17_code 32 = .ok (.iaload, 1) := by decide +kernel
theorem dR_serve_33 : decode prog_7_method_17_code 33 = .ok (.iconst 1, 1) := by decide +kernel
theorem dR_serve_34 : decode prog_7_method_17_code 34 = .ok (.isub, 1) := by decide +kernel
theorem dR_serve_35 : decode prog_7_method_17_code 35 = .ok (.goto 4, 3) := by decide +kernel
theorem dR_serve_38 : decode prog_7_method_17_code 38 = .ok (.iconst 0, 1) := by decide +kernel
theorem dR_serve_39 : decode prog_7_method_17_code 39 = .ok (.iastore, 1) := by decide +kernel
theorem dR_serve_40 : decode prog_7_method_17_code 40 = .ok (.aload_n 0, 1) := by decide +kernel
theorem dR_serve_41 : decode prog_7_method_17_code 41 = .ok (.getfield 45, 3) := by decide +kernel
theorem dR_serve_44 : decode prog_7_method_17_code 44 = .ok (.iload_n 1, 1) := by decide +kernel
theorem dR_serve_45 : decode prog_7_method_17_code 45 = .ok (.iaload, 1) := by decide +kernel
theorem dR_serve_46 : decode prog_7_method_17_code 46 = .ok (.ifCond .gt 15, 3) := by decide +kernel
theorem dR_serve_49 : decode prog_7_method_17_code 49 = .ok (.aload_n 0, 1) := by decide +kernel
theorem dR_serve_50 : decode prog_7_method_17_code 50 = .ok (.iconst 4, 1) := by decide +kernel
theorem dR_serve_51 : decode prog_7_method_17_code 51 = .ok (.iconst (-1), 1) := by decide +kernel
theorem dR_serve_52 : decode prog_7_method_17_code 52 = .ok (.iload_n 1, 1) := by decide +kernel
theorem dR_serve_53 : decode prog_7_method_17_code 53 = .ok (.isub, 1) := by decide +kernel
theorem dR_serve_54 : decode prog_7_method_17_code 54 = .ok (.invokevirtual 87, 3) := by decide +kernel
theorem dR_serve_57 : decode prog_7_method_17_code 57 = .ok (.iconst 1, 1) := by decide +kernel
theorem dR_serve_58 : decode prog_7_method_17_code 58 = .ok (.if_icmp .le 4, 3) := by decide +kernel
theorem dR_serve_61 : decode prog_7_method_17_code 61 = .ok (.return_, 1) := by decide +kernel
theorem dR_serve_62 : decode prog_7_method_17_code 62 = .ok (.aload_n 0, 1) := by decide +kernel
theorem dR_serve_63 : decode prog_7_method_17_code 63 = .ok (.iload_n 2, 1) := by decide +kernel
theorem dR_serve_64 : decode prog_7_method_17_code 64 = .ok (.invokevirtual 99, 3) := by decide +kernel
theorem dR_serve_67 : decode prog_7_method_17_code 67 = .ok (.aload_n 0, 1) := by decide +kernel
theorem dR_serve_68 : decode prog_7_method_17_code 68 = .ok (.iload_n 2, 1) := by decide +kernel
theorem dR_serve_69 : decode prog_7_method_17_code 69 = .ok (.iconst 4, 1) := by decide +kernel
theorem dR_serve_70 : decode prog_7_method_17_code 70 = .ok (.invokevirtual 90, 3) := by decide +kernel
theorem dR_serve_73 : decode prog_7_method_17_code 73 = .ok (.aload_n 0, 1) := by decide +kernel
theorem dR_serve_74 : decode prog_7_method_17_code 74 = .ok (.getfield 54, 3) := by decide +kernel
theorem dR_serve_77 : decode prog_7_method_17_code 77 = .ok (.aload_n 0, 1) := by decide +kernel
theorem dR_serve_78 : decode prog_7_method_17_code 78 = .ok (.getfield 57, 3) := by decide +kernel
theorem dR_serve_81 : decode prog_7_method_17_code 81 = .ok (.iconst 3, 1) := by decide +kernel
theorem dR_serve_82 : decode prog_7_method_17_code 82 = .ok (.iaload, 1) := by decide +kernel
theorem dR_serve_83 : decode prog_7_method_17_code 83 = .ok (.bipush 32, 2) := by decide +kernel
theorem dR_serve_85 : decode prog_7_method_17_code 85 = .ok (.irem, 1) := by decide +kernel
theorem dR_serve_86 : decode prog_7_method_17_code 86 = .ok (.bipush 64, 2) := by decide +kernel
theorem dR_serve_88 : decode prog_7_method_17_code 88 = .ok (.iload_n 1, 1) := by decide +kernel
theorem dR_serve_89 : decode prog_7_method_17_code 89 = .ok (.imul, 1) := by decide +kernel
theorem dR_serve_90 : decode prog_7_method_17_code 90 = .ok (.iload_n 2, 1) := by decide +kernel
theorem dR_serve_91 : decode prog_7_method_17_code 91 = .ok (.iadd, 1) := by decide +kernel
theorem dR_serve_92 : decode prog_7_method_17_code 92 = .ok (.iastore, 1) := by decide +kernel
theorem dR_serve_93 : decode prog_7_method_17_code 93 = .ok (.aload_n 0, 1) := by decide +kernel
theorem dR_serve_94 : decode prog_7_method_17_code 94 = .ok (.getfield 57, 3) := by decide +kernel
theorem dR_serve_97 : decode prog_7_method_17_code 97 = .ok (.iconst 3, 1) := by decide +kernel
theorem dR_serve_98 : decode prog_7_method_17_code 98 = .ok (.dup2, 1) := by decide +kernel
theorem dR_serve_99 : decode prog_7_method_17_code 99 = .ok (.iaload, 1) := by decide +kernel
theorem dR_serve_100 : decode prog_7_method_17_code 100 = .ok (.iconst 1, 1) := by decide +kernel
theorem dR_serve_101 : decode prog_7_method_17_code 101 = .ok (.iadd, 1) := by decide +kernel
theorem dR_serve_102 : decode prog_7_method_17_code 102 = .ok (.iastore, 1) := by decide +kernel
theorem dR_serve_103 : decode prog_7_method_17_code 103 = .ok (.aload_n 0, 1) := by decide +kernel
theorem dR_serve_104 : decode prog_7_method_17_code 104 = .ok (.getfield 48, 3) := by decide +kernel
theorem dR_serve_107 : decode prog_7_method_17_code 107 = .ok (.iload_n 1, 1) := by decide +kernel
theorem dR_serve_108 : decode prog_7_method_17_code 108 = .ok (.dup2, 1) := by decide +kernel
theorem dR_serve_109 : decode prog_7_method_17_code 109 = .ok (.iaload, 1) := by decide +kernel
theorem dR_serve_110 : decode prog_7_method_17_code 110 = .ok (.iconst 1, 1) := by decide +kernel
theorem dR_serve_111 : decode prog_7_method_17_code 111 = .ok (.iadd, 1) := by decide +kernel
theorem dR_serve_112 : decode prog_7_method_17_code 112 = .ok (.iastore, 1) := by decide +kernel
theorem dR_serve_113 : decode prog_7_method_17_code 113 = .ok (.aload_n 0, 1) := by decide +kernel
theorem dR_serve_114 : decode prog_7_method_17_code 114 = .ok (.iconst 2, 1) := by decide +kernel
theorem dR_serve_115 : decode prog_7_method_17_code 115 = .ok (.iconst (-1), 1) := by decide +kernel
theorem dR_serve_116 : decode prog_7_method_17_code 116 = .ok (.iload_n 1, 1) := by decide +kernel
theorem dR_serve_117 : decode prog_7_method_17_code 117 = .ok (.isub, 1) := by decide +kernel
theorem dR_serve_118 : decode prog_7_method_17_code 118 = .ok (.invokevirtual 94, 3) := by decide +kernel
theorem dR_serve_121 : decode prog_7_method_17_code 121 = .ok (.istore_n 3, 1) := by decide +kernel
theorem dR_serve_122 : decode prog_7_method_17_code 122 = .ok (.iload_n 3, 1) := by decide +kernel
theorem dR_serve_123 : decode prog_7_method_17_code 123 = .ok (.ifCond .ge 4, 3) := by decide +kernel
theorem dR_serve_126 : decode prog_7_method_17_code 126 = .ok (.return_, 1) := by decide +kernel
theorem dR_serve_127 : decode prog_7_method_17_code 127 = .ok (.aload_n 0, 1) := by decide +kernel
theorem dR_serve_128 : decode prog_7_method_17_code 128 = .ok (.getfield 19, 3) := by decide +kernel
theorem dR_serve_131 : decode prog_7_method_17_code 131 = .ok (.iload_n 3, 1) := by decide +kernel
theorem dR_serve_132 : decode prog_7_method_17_code 132 = .ok (.iaload, 1) := by decide +kernel
theorem dR_serve_133 : decode prog_7_method_17_code 133 = .ok (.iload_n 1, 1) := by decide +kernel
theorem dR_serve_134 : decode prog_7_method_17_code 134 = .ok (.invokestatic 103, 3) := by decide +kernel
theorem dR_serve_137 : decode prog_7_method_17_code 137 = .ok (.idiv, 1) := by decide +kernel
theorem dR_serve_138 : decode prog_7_method_17_code 138 = .ok (.istore 4, 2) := by decide +kernel
theorem dR_serve_140 : decode prog_7_method_17_code 140 = .ok (.aload_n 0, 1) := by decide +kernel
theorem dR_serve_141 : decode prog_7_method_17_code 141 = .ok (.getfield 45, 3) := by decide +kernel
theorem dR_serve_144 : decode prog_7_method_17_code 144 = .ok (.iload_n 1, 1) := by decide +kernel
theorem dR_serve_145 : decode prog_7_method_17_code 145 = .ok (.iload_n 1, 1) := by decide +kernel
theorem dR_serve_146 : decode prog_7_method_17_code 146 = .ok (.invokestatic 106, 3) := by decide +kernel
theorem dR_serve_149 : decode prog_7_method_17_code 149 = .ok (.iload 4, 2) := by decide +kernel
theorem dR_serve_151 : decode prog_7_method_17_code 151 = .ok (.iconst 1, 1) := by decide +kernel
theorem dR_serve_152 : decode prog_7_method_17_code 152 = .ok (.if_icmp .le 8, 3) := by decide +kernel
theorem dR_serve_155 : decode prog_7_method_17_code 155 = .ok (.iload 4, 2) := by decide +kernel
theorem dR_serve_157 : decode prog_7_method_17_code 157 = .ok (.goto 4, 3) := by decide +kernel
theorem dR_serve_160 : decode prog_7_method_17_code 160 = .ok (.iconst 1, 1) := by decide +kernel
theorem dR_serve_161 : decode prog_7_method_17_code 161 = .ok (.iadd, 1) := by decide +kernel
theorem dR_serve_162 : decode prog_7_method_17_code 162 = .ok (.iastore, 1) := by decide +kernel
theorem dR_serve_163 : decode prog_7_method_17_code 163 = .ok (.aload_n 0, 1) := by decide +kernel
theorem dR_serve_164 : decode prog_7_method_17_code 164 = .ok (.iload_n 3, 1) := by decide +kernel
theorem dR_serve_165 : decode prog_7_method_17_code 165 = .ok (.iconst 3, 1) := by decide +kernel
theorem dR_serve_166 : decode prog_7_method_17_code 166 = .ok (.invokevirtual 90, 3) := by decide +kernel
theorem dR_serve_169 : decode prog_7_method_17_code 169 = .ok (.return_, 1) := by decide +kernel
theorem dR_fetch_0 : decode prog_7_method_18_code 0 = .ok (.aload_n 0, 1) := by decide +kernel
theorem dR_fetch_1 : decode prog_7_method_18_code 1 = .ok (.iload_n 1, 1) := by decide +kernel
theorem dR_fetch_2 : decode prog_7_method_18_code 2 = .ok (.invokevirtual 109, 3) := by decide +kernel
theorem dR_fetch_5 : decode prog_7_method_18_code 5 = .ok (.istore_n 2, 1) := by decide +kernel
theorem dR_fetch_6 : decode prog_7_method_18_code 6 = .ok (.iload_n 2, 1) := by decide +kernel
theorem dR_fetch_7 : decode prog_7_method_18_code 7 = .ok (.ifCond .lt 15, 3) := by decide +kernel
theorem dR_fetch_10 : decode prog_7_method_18_code 10 = .ok (.aload_n 0, 1) := by decide +kernel
theorem dR_fetch_11 : decode prog_7_method_18_code 11 = .ok (.iconst 2, 1) := by decide +kernel
theorem dR_fetch_12 : decode prog_7_method_18_code 12 = .ok (.iconst (-1), 1) := by decide +kernel
theorem dR_fetch_13 : decode prog_7_method_18_code 13 = .ok (.iload_n 1, 1) := by decide +kernel
theorem dR_fetch_14 : decode prog_7_method_18_code 14 = .ok (.isub, 1) := by decide +kernel
theorem dR_fetch_15 : decode prog_7_method_18_code 15 = .ok (.invokevirtual 87, 3) := by decide +kernel
theorem dR_fetch_18 : decode prog_7_method_18_code 18 = .ok (.iconst 1, 1) := by decide +kernel
theorem dR_fetch_19 : decode prog_7_method_18_code 19 = .ok (.if_icmp .le 4, 3) := by decide +kernel
theorem dR_fetch_22 : decode prog_7_method_18_code 22 = .ok (.return_, 1) := by decide +kernel
theorem dR_fetch_23 : decode prog_7_method_18_code 23 = .ok (.iconst 0, 1) := by decide +kernel
theorem dR_fetch_24 : decode prog_7_method_18_code 24 = .ok (.istore_n 3, 1) := by decide +kernel
theorem dR_fetch_25 : decode prog_7_method_18_code 25 = .ok (.iload_n 3, 1) := by decide +kernel
theorem dR_fetch_26 : decode prog_7_method_18_code 26 = .ok (.iconst 3, 1) := by decide +kernel
theorem dR_fetch_27 : decode prog_7_method_18_code 27 = .ok (.if_icmp .ge 90, 3) := by decide +kernel
theorem dR_fetch_30 : decode prog_7_method_18_code 30 = .ok (.aload_n 0, 1) := by decide +kernel
theorem dR_fetch_31 : decode prog_7_method_18_code 31 = .ok (.getfield 42, 3) := by decide +kernel
theorem dR_fetch_34 : decode prog_7_method_18_code 34 = .ok (.iload_n 1, 1) := by decide +kernel
theorem dR_fetch_35 : decode prog_7_method_18_code 35 = .ok (.iaload, 1) := by decide +kernel
theorem dR_fetch_36 : decode prog_7_method_18_code 36 = .ok (.iload_n 3, 1) := by decide +kernel
theorem dR_fetch_37 : decode prog_7_method_18_code 37 = .ok (.iadd, 1) := by decide +kernel
theorem dR_fetch_38 : decode prog_7_method_18_code 38 = .ok (.iconst 3, 1) := by decide +kernel
theorem dR_fetch_39 : decode prog_7_method_18_code 39 = .ok (.irem, 1) := by decide +kernel
theorem dR_fetch_40 : decode prog_7_method_18_code 40 = .ok (.istore 4, 2) := by decide +kernel
theorem dR_fetch_42 : decode prog_7_method_18_code 42 = .ok (.aload_n 0, 1) := by decide +kernel
theorem dR_fetch_43 : decode prog_7_method_18_code 43 = .ok (.iconst 1, 1) := by decide +kernel
theorem dR_fetch_44 : decode prog_7_method_18_code 44 = .ok (.iload 4, 2) := by decide +kernel
theorem dR_fetch_46 : decode prog_7_method_18_code 46 = .ok (.invokevirtual 94, 3) := by decide +kernel
theorem dR_fetch_49 : decode prog_7_method_18_code 49 = .ok (.istore 5, 2) := by decide +kernel
theorem dR_fetch_51 : decode prog_7_method_18_code 51 = .ok (.iload 5, 2) := by decide +kernel
theorem dR_fetch_53 : decode prog_7_method_18_code 53 = .ok (.ifCond .lt 58, 3) := by decide +kernel
theorem dR_fetch_56 : decode prog_7_method_18_code 56 = .ok (.aload_n 0, 1) := by decide +kernel
theorem dR_fetch_57 : decode prog_7_method_18_code 57 = .ok (.getfield 22, 3) := by decide +kernel
theorem dR_fetch_60 : decode prog_7_method_18_code 60 = .ok (.iload 5, 2) := by decide +kernel
theorem dR_fetch_62 : decode prog_7_method_18_code 62 = .ok (.iaload, 1) := by decide +kernel
theorem dR_fetch_63 : decode prog_7_method_18_code 63 = .ok (.invokestatic 64, 3) := by decide +kernel
theorem dR_fetch_66 : decode prog_7_method_18_code 66 = .ok (.iload_n 1, 1) := by decide +kernel
theorem dR_fetch_67 : decode prog_7_method_18_code 67 = .ok (.if_icmp .eq 6, 3) := by decide +kernel
theorem dR_fetch_70 : decode prog_7_method_18_code 70 = .ok (.goto 41, 3) := by decide +kernel
theorem dR_fetch_73 : decode prog_7_method_18_code 73 = .ok (.aload_n 0, 1) := by decide +kernel
theorem dR_fetch_74 : decode prog_7_method_18_code 74 = .ok (.getfield 42, 3) := by decide +kernel
theorem dR_fetch_77 : decode prog_7_method_18_code 77 = .ok (.iload_n 1, 1) := by decide +kernel
theorem dR_fetch_78 : decode prog_7_method_18_code 78 = .ok (.iload 4, 2) := by decide +kernel
theorem dR_fetch_80 : decode prog_7_method_18_code 80 = .ok (.iconst 1, 1) := by decide +kernel
theorem dR_fetch_81 : decode prog_7_method_18_code 81 = .ok (.iadd, 1) := by decide +kernel
theorem dR_fetch_82 : decode prog_7_method_18_code 82 = .ok (.iconst 3, 1) := by decide +kernel
theorem dR_fetch_83 : decode prog_7_method_18_code 83 = .ok (.irem, 1) := by decide +kernel
theorem dR_fetch_84 : decode prog_7_method_18_code 84 = .ok (.iastore, 1) := by decide +kernel
theorem dR_fetch_85 : decode prog_7_method_18_code 85 = .ok (.aload_n 0, 1) := by decide +kernel
theorem dR_fetch_86 : decode prog_7_method_18_code 86 = .ok (.getfield 32, 3) := by decide +kernel
theorem dR_fetch_89 : decode prog_7_method_18_code 89 = .ok (.iload 5, 2) := by decide +kernel
theorem dR_fetch_91 : decode prog_7_method_18_code 91 = .ok (.iload_n 2, 1) := by decide +kernel
theorem dR_fetch_92 : decode prog_7_method_18_code 92 = .ok (.iastore, 1) := by decide +kernel
theorem dR_fetch_93 : decode prog_7_method_18_code 93 = .ok (.aload_n 0, 1) := by decide +kernel
theorem dR_fetch_94 : decode prog_7_method_18_code 94 = .ok (.iload 5, 2) := by decide +kernel
theorem dR_fetch_96 : decode prog_7_method_18_code 96 = .ok (.iconst 2, 1) := by decide +kernel
theorem dR_fetch_97 : decode prog_7_method_18_code 97 = .ok (.invokevirtual 90, 3) := by decide +kernel
theorem dR_fetch_100 : decode prog_7_method_18_code 100 = .ok (.aload_n 0, 1) := by decide +kernel
theorem dR_fetch_101 : decode prog_7_method_18_code 101 = .ok (.getfield 57, 3) := by decide +kernel
theorem dR_fetch_104 : decode prog_7_method_18_code 104 = .ok (.iconst 2, 1) := by decide +kernel
theorem dR_fetch_105 : decode prog_7_method_18_code 105 = .ok (.dup2, 1) := by decide +kernel
theorem dR_fetch_106 : decode prog_7_method_18_code 106 = .ok (.iaload, 1) := by decide +kernel
theorem dR_fetch_107 : decode prog_7_method_18_code 107 = .ok (.iconst 1, 1) := by decide +kernel
theorem dR_fetch_108 : decode prog_7_method_18_code 108 = .ok (.iadd, 1) := by decide +kernel
theorem dR_fetch_109 : decode prog_7_method_18_code 109 = .ok (.iastore, 1) := by decide +kernel
theorem dR_fetch_110 : decode prog_7_method_18_code 110 = .ok (.return_, 1) := by decide +kernel
theorem dR_fetch_111 : decode prog_7_method_18_code 111 = .ok (.iinc 3 1, 3) := by decide +kernel
theorem dR_fetch_114 : decode prog_7_method_18_code 114 = .ok (.goto (-89), 3) := by decide +kernel
theorem dR_fetch_117 : decode prog_7_method_18_code 117 = .ok (.return_, 1) := by decide +kernel
theorem dR_tick_0 : decode prog_7_method_19_code 0 = .ok (.aload_n 0, 1) := by decide +kernel
theorem dR_tick_1 : decode prog_7_method_19_code 1 = .ok (.iload_n 1, 1) := by decide +kernel
theorem dR_tick_2 : decode prog_7_method_19_code 2 = .ok (.ifCond .lt 14, 3) := by decide +kernel
theorem dR_tick_5 : decode prog_7_method_19_code 5 = .ok (.iload_n 1, 1) := by decide +kernel
theorem dR_tick_6 : decode prog_7_method_19_code 6 = .ok (.sipush 10000, 3) := by decide +kernel
theorem dR_tick_9 : decode prog_7_method_19_code 9 = .ok (.if_icmp .gt 7, 3) := by decide +kernel
theorem dR_tick_12 : decode prog_7_method_19_code 12 = .ok (.iconst 0, 1) := by decide +kernel
theorem dR_tick_13 : decode prog_7_method_19_code 13 = .ok (.goto 4, 3) := by decide +kernel
theorem dR_tick_16 : decode prog_7_method_19_code 16 = .ok (.iconst 1, 1) := by decide +kernel
theorem dR_tick_17 : decode prog_7_method_19_code 17 = .ok (.putfield 60, 3) := by decide +kernel
theorem dR_tick_20 : decode prog_7_method_19_code 20 = .ok (.aload_n 0, 1) := by decide +kernel
theorem dR_tick_21 : decode prog_7_method_19_code 21 = .ok (.getfield 60, 3) := by decide +kernel
theorem dR_tick_24 : decode prog_7_method_19_code 24 = .ok (.ifCond .le 5, 3) := by decide +kernel
theorem dR_tick_27 : decode prog_7_method_19_code 27 = .ok (.iconst 0, 1) := by decide +kernel
theorem dR_tick_28 : decode prog_7_method_19_code 28 = .ok (.ireturn, 1) := by decide +kernel
theorem dR_tick_29 : decode prog_7_method_19_code 29 = .ok (.iconst 0, 1) := by decide +kernel
theorem dR_tick_30 : decode prog_7_method_19_code 30 = .ok (.istore_n 2, 1) := by decide +kernel
theorem dR_tick_31 : decode prog_7_method_19_code 31 = .ok (.iload_n 2, 1) := by decide +kernel
theorem dR_tick_32 : decode prog_7_method_19_code 32 = .ok (.iload_n 1, 1) := by decide +kernel
theorem dR_tick_33 : decode prog_7_method_19_code 33 = .ok (.if_icmp .ge 100, 3) := by decide +kernel
theorem dR_tick_36 : decode prog_7_method_19_code 36 = .ok (.aload_n 0, 1) := by decide +kernel
theorem dR_tick_37 : decode prog_7_method_19_code 37 = .ok (.iconst 0, 1) := by decide +kernel
theorem dR_tick_38 : decode prog_7_method_19_code 38 = .ok (.putfield 75, 3) := by decide +kernel
theorem dR_tick_41 : decode prog_7_method_19_code 41 = .ok (.iconst 0, 1) := by decide +kernel
theorem dR_tick_42 : decode prog_7_method_19_code 42 = .ok (.istore_n 3, 1) := by decide +kernel
theorem dR_tick_43 : decode prog_7_method_19_code 43 = .ok (.iload_n 3, 1) := by decide +kernel
theorem dR_tick_44 : decode prog_7_method_19_code 44 = .ok (.iconst 3, 1) := by decide +kernel
theorem dR_tick_45 : decode prog_7_method_19_code 45 = .ok (.if_icmp .ge 14, 3) := by decide +kernel
theorem dR_tick_48 : decode prog_7_method_19_code 48 = .ok (.aload_n 0, 1) := by decide +kernel
theorem dR_tick_49 : decode prog_7_method_19_code 49 = .ok (.iload_n 3, 1) := by decide +kernel
theorem dR_tick_50 : decode prog_7_method_19_code 50 = .ok (.invokevirtual 112, 3) := by decide +kernel
theorem dR_tick_53 : decode prog_7_method_19_code 53 = .ok (.iinc 3 1, 3) := by decide +kernel
theorem dR_tick_56 : decode prog_7_method_19_code 56 = .ok (.goto (-13), 3) := by decide +kernel
theorem dR_tick_59 : decode prog_7_method_19_code 59 = .ok (.iconst 0, 1) := by decide +kernel
theorem dR_tick_60 : decode prog_7_method_19_code 60 = .ok (.istore_n 3, 1) := by decide +kernel
theorem dR_tick_61 : decode prog_7_method_19_code 61 = .ok (.iload_n 3, 1) := by decide +kernel
theorem dR_tick_62 : decode prog_7_method_19_code 62 = .ok (.iconst 4, 1) := by decide +kernel
theorem dR_tick_63 : decode prog_7_method_19_code 63 = .ok (.if_icmp .ge 14, 3) := by decide +kernel
theorem dR_tick_66 : decode prog_7_method_19_code 66 = .ok (.aload_n 0, 1) := by decide +kernel
theorem dR_tick_67 : decode prog_7_method_19_code 67 = .ok (.iload_n 3, 1) := by decide +kernel
theorem dR_tick_68 : decode prog_7_method_19_code 68 = .ok (.invokevirtual 115, 3) := by decide +kernel
theorem dR_tick_71 : decode prog_7_method_19_code 71 = .ok (.iinc 3 1, 3) := by decide +kernel
theorem dR_tick_74 : decode prog_7_method_19_code 74 = .ok (.goto (-13), 3) := by decide +kernel
theorem dR_tick_77 : decode prog_7_method_19_code 77 = .ok (.iconst 0, 1) := by decide +kernel
theorem dR_tick_78 : decode prog_7_method_19_code 78 = .ok (.istore_n 3, 1) := by decide +kernel
theorem dR_tick_79 : decode prog_7_method_19_code 79 = .ok (.iload_n 3, 1) := by decide +kernel
theorem dR_tick_80 : decode prog_7_method_19_code 80 = .ok (.iconst 4, 1) := by decide +kernel
theorem dR_tick_81 : decode prog_7_method_19_code 81 = .ok (.if_icmp .ge 14, 3) := by decide +kernel
theorem dR_tick_84 : decode prog_7_method_19_code 84 = .ok (.aload_n 0, 1) := by decide +kernel
theorem dR_tick_85 : decode prog_7_method_19_code 85 = .ok (.iload_n 3, 1) := by decide +kernel
theorem dR_tick_86 : decode prog_7_method_19_code 86 = .ok (.invokevirtual 118, 3) := by decide +kernel
theorem dR_tick_89 : decode prog_7_method_19_code 89 = .ok (.iinc 3 1, 3) := by decide +kernel
theorem dR_tick_92 : decode prog_7_method_19_code 92 = .ok (.goto (-13), 3) := by decide +kernel
theorem dR_tick_95 : decode prog_7_method_19_code 95 = .ok (.aload_n 0, 1) := by decide +kernel
theorem dR_tick_96 : decode prog_7_method_19_code 96 = .ok (.getfield 57, 3) := by decide +kernel
theorem dR_tick_99 : decode prog_7_method_19_code 99 = .ok (.iconst 0, 1) := by decide +kernel
theorem dR_tick_100 : decode prog_7_method_19_code 100 = .ok (.dup2, 1) := by decide +kernel
theorem dR_tick_101 : decode prog_7_method_19_code 101 = .ok (.iaload, 1) := by decide +kernel
theorem dR_tick_102 : decode prog_7_method_19_code 102 = .ok (.iconst 1, 1) := by decide +kernel
theorem dR_tick_103 : decode prog_7_method_19_code 103 = .ok (.iadd, 1) := by decide +kernel
theorem dR_tick_104 : decode prog_7_method_19_code 104 = .ok (.iastore, 1) := by decide +kernel
theorem dR_tick_105 : decode prog_7_method_19_code 105 = .ok (.aload_n 0, 1) := by decide +kernel
theorem dR_tick_106 : decode prog_7_method_19_code 106 = .ok (.getfield 57, 3) := by decide +kernel
theorem dR_tick_109 : decode prog_7_method_19_code 109 = .ok (.bipush 7, 2) := by decide +kernel
theorem dR_tick_111 : decode prog_7_method_19_code 111 = .ok (.dup2, 1) := by decide +kernel
theorem dR_tick_112 : decode prog_7_method_19_code 112 = .ok (.iaload, 1) := by decide +kernel
theorem dR_tick_113 : decode prog_7_method_19_code 113 = .ok (.aload_n 0, 1) := by decide +kernel
theorem dR_tick_114 : decode prog_7_method_19_code 114 = .ok (.getfield 75, 3) := by decide +kernel
theorem dR_tick_117 : decode prog_7_method_19_code 117 = .ok (.ifCond .eq 7, 3) := by decide +kernel
theorem dR_tick_120 : decode prog_7_method_19_code 120 = .ok (.iconst 0, 1) := by decide +kernel
theorem dR_tick_121 : decode prog_7_method_19_code 121 = .ok (.goto 4, 3) := by decide +kernel
theorem dR_tick_124 : decode prog_7_method_19_code 124 = .ok (.iconst 1, 1) := by decide +kernel
theorem dR_tick_125 : decode prog_7_method_19_code 125 = .ok (.iadd, 1) := by decide +kernel
theorem dR_tick_126 : decode prog_7_method_19_code 126 = .ok (.iastore, 1) := by decide +kernel
theorem dR_tick_127 : decode prog_7_method_19_code 127 = .ok (.iinc 2 1, 3) := by decide +kernel
theorem dR_tick_130 : decode prog_7_method_19_code 130 = .ok (.goto (-99), 3) := by decide +kernel
theorem dR_tick_133 : decode prog_7_method_19_code 133 = .ok (.aload_n 0, 1) := by decide +kernel
theorem dR_tick_134 : decode prog_7_method_19_code 134 = .ok (.getfield 57, 3) := by decide +kernel
theorem dR_tick_137 : decode prog_7_method_19_code 137 = .ok (.iconst 0, 1) := by decide +kernel
theorem dR_tick_138 : decode prog_7_method_19_code 138 = .ok (.iaload, 1) := by decide +kernel
theorem dR_tick_139 : decode prog_7_method_19_code 139 = .ok (.ireturn, 1) := by decide +kernel
theorem dR_take_0 : decode prog_7_method_20_code 0 = .ok (.aload_n 0, 1) := by decide +kernel
theorem dR_take_1 : decode prog_7_method_20_code 1 = .ok (.iload_n 1, 1) := by decide +kernel
theorem dR_take_2 : decode prog_7_method_20_code 2 = .ok (.iconst 3, 1) := by decide +kernel
theorem dR_take_3 : decode prog_7_method_20_code 3 = .ok (.invokestatic 83, 3) := by decide +kernel
theorem dR_take_6 : decode prog_7_method_20_code 6 = .ok (.ifCond .eq 7, 3) := by decide +kernel
theorem dR_take_9 : decode prog_7_method_20_code 9 = .ok (.iconst 0, 1) := by decide +kernel
theorem dR_take_10 : decode prog_7_method_20_code 10 = .ok (.goto 4, 3) := by decide +kernel
theorem dR_take_13 : decode prog_7_method_20_code 13 = .ok (.iconst 1, 1) := by decide +kernel
theorem dR_take_14 : decode prog_7_method_20_code 14 = .ok (.putfield 60, 3) := by decide +kernel
theorem dR_take_17 : decode prog_7_method_20_code 17 = .ok (.aload_n 0, 1) := by decide +kernel
theorem dR_take_18 : decode prog_7_method_20_code 18 = .ok (.getfield 60, 3) := by decide +kernel
theorem dR_take_21 : decode prog_7_method_20_code 21 = .ok (.ifCond .le 5, 3) := by decide +kernel
theorem dR_take_24 : decode prog_7_method_20_code 24 = .ok (.iconst 0, 1) := by decide +kernel
theorem dR_take_25 : decode prog_7_method_20_code 25 = .ok (.ireturn, 1) := by decide +kernel
theorem dR_take_26 : decode prog_7_method_20_code 26 = .ok (.aload_n 0, 1) := by decide +kernel
theorem dR_take_27 : decode prog_7_method_20_code 27 = .ok (.iconst 5, 1) := by decide +kernel
theorem dR_take_28 : decode prog_7_method_20_code 28 = .ok (.iload_n 1, 1) := by decide +kernel
theorem dR_take_29 : decode prog_7_method_20_code 29 = .ok (.invokevirtual 94, 3) := by decide +kernel
theorem dR_take_32 : decode prog_7_method_20_code 32 = .ok (.istore_n 2, 1) := by decide +kernel
theorem dR_take_33 : decode prog_7_method_20_code 33 = .ok (.iload_n 2, 1) := by decide +kernel
theorem dR_take_34 : decode prog_7_method_20_code 34 = .ok (.ifCond .ge 5, 3) := by decide +kernel
theorem dR_take_37 : decode prog_7_method_20_code 37 = .ok (.iconst (-1), 1) := by decide +kernel
theorem dR_take_38 : decode prog_7_method_20_code 38 = .ok (.ireturn, 1) := by decide +kernel
theorem dR_take_39 : decode prog_7_method_20_code 39 = .ok (.aload_n 0, 1) := by decide +kernel
theorem dR_take_40 : decode prog_7_method_20_code 40 = .ok (.getfield 22, 3) := by decide +kernel
theorem dR_take_43 : decode prog_7_method_20_code 43 = .ok (.iload_n 2, 1) := by decide +kernel
theorem dR_take_44 : decode prog_7_method_20_code 44 = .ok (.iaload, 1) := by decide +kernel
theorem dR_take_45 : decode prog_7_method_20_code 45 = .ok (.sipush 640, 3) := by decide +kernel
theorem dR_take_48 : decode prog_7_method_20_code 48 = .ok (.if_icmp .lt 7, 3) := by decide +kernel
theorem dR_take_51 : decode prog_7_method_20_code 51 = .ok (.iconst 1, 1) := by decide +kernel
theorem dR_take_52 : decode prog_7_method_20_code 52 = .ok (.goto 4, 3) := by decide +kernel
theorem dR_take_55 : decode prog_7_method_20_code 55 = .ok (.iconst 0, 1) := by decide +kernel
theorem dR_take_56 : decode prog_7_method_20_code 56 = .ok (.istore_n 3, 1) := by decide +kernel
theorem dR_take_57 : decode prog_7_method_20_code 57 = .ok (.aload_n 0, 1) := by decide +kernel
theorem dR_take_58 : decode prog_7_method_20_code 58 = .ok (.getfield 7, 3) := by decide +kernel
theorem dR_take_61 : decode prog_7_method_20_code 61 = .ok (.iload_n 2, 1) := by decide +kernel
theorem dR_take_62 : decode prog_7_method_20_code 62 = .ok (.iconst 0, 1) := by decide +kernel
theorem dR_take_63 : decode prog_7_method_20_code 63 = .ok (.iastore, 1) := by decide +kernel
theorem dR_take_64 : decode prog_7_method_20_code 64 = .ok (.aload_n 0, 1) := by decide +kernel
theorem dR_take_65 : decode prog_7_method_20_code 65 = .ok (.getfield 57, 3) := by decide +kernel
theorem dR_take_68 : decode prog_7_method_20_code 68 = .ok (.iconst 5, 1) := by decide +kernel
theorem dR_take_69 : decode prog_7_method_20_code 69 = .ok (.dup2, 1) := by decide +kernel
theorem dR_take_70 : decode prog_7_method_20_code 70 = .ok (.iaload, 1) := by decide +kernel
theorem dR_take_71 : decode prog_7_method_20_code 71 = .ok (.iconst 1, 1) := by decide +kernel
theorem dR_take_72 : decode prog_7_method_20_code 72 = .ok (.iadd, 1) := by decide +kernel
theorem dR_take_73 : decode prog_7_method_20_code 73 = .ok (.iastore, 1) := by decide +kernel
theorem dR_take_74 : decode prog_7_method_20_code 74 = .ok (.aload_n 0, 1) := by decide +kernel
theorem dR_take_75 : decode prog_7_method_20_code 75 = .ok (.getfield 57, 3) := by decide +kernel
theorem dR_take_78 : decode prog_7_method_20_code 78 = .ok (.bipush 6, 2) := by decide +kernel
theorem dR_take_80 : decode prog_7_method_20_code 80 = .ok (.dup2, 1) := by decide +kernel
theorem dR_take_81 : decode prog_7_method_20_code 81 = .ok (.iaload, 1) := by decide +kernel
theorem dR_take_82 : decode prog_7_method_20_code 82 = .ok (.iload_n 3, 1) := by decide +kernel
theorem dR_take_83 : decode prog_7_method_20_code 83 = .ok (.ifCond .eq 7, 3) := by decide +kernel
theorem dR_take_86 : decode prog_7_method_20_code 86 = .ok (.iconst 1, 1) := by decide +kernel
theorem dR_take_87 : decode prog_7_method_20_code 87 = .ok (.goto 4, 3) := by decide +kernel
theorem dR_take_90 : decode prog_7_method_20_code 90 = .ok (.iconst 0, 1) := by decide +kernel
theorem dR_take_91 : decode prog_7_method_20_code 91 = .ok (.iadd, 1) := by decide +kernel
theorem dR_take_92 : decode prog_7_method_20_code 92 = .ok (.iastore, 1) := by decide +kernel
theorem dR_take_93 : decode prog_7_method_20_code 93 = .ok (.aload_n 0, 1) := by decide +kernel
theorem dR_take_94 : decode prog_7_method_20_code 94 = .ok (.aload_n 0, 1) := by decide +kernel
theorem dR_take_95 : decode prog_7_method_20_code 95 = .ok (.getfield 25, 3) := by decide +kernel
theorem dR_take_98 : decode prog_7_method_20_code 98 = .ok (.iload_n 2, 1) := by decide +kernel
theorem dR_take_99 : decode prog_7_method_20_code 99 = .ok (.laload, 1) := by decide +kernel
theorem dR_take_100 : decode prog_7_method_20_code 100 = .ok (.putfield 121, 3) := by decide +kernel
theorem dR_take_103 : decode prog_7_method_20_code 103 = .ok (.iload_n 2, 1) := by decide +kernel
theorem dR_take_104 : decode prog_7_method_20_code 104 = .ok (.bipush 8, 2) := by decide +kernel
theorem dR_take_106 : decode prog_7_method_20_code 106 = .ok (.irem, 1) := by decide +kernel
theorem dR_take_107 : decode prog_7_method_20_code 107 = .ok (.bipush 8, 2) := by decide +kernel
theorem dR_take_109 : decode prog_7_method_20_code 109 = .ok (.aload_n 0, 1) := by decide +kernel
theorem dR_take_110 : decode prog_7_method_20_code 110 = .ok (.getfield 16, 3) := by decide +kernel
theorem dR_take_113 : decode prog_7_method_20_code 113 = .ok (.iload_n 2, 1) := by decide +kernel
theorem dR_take_114 : decode prog_7_method_20_code 114 = .ok (.iaload, 1) := by decide +kernel
theorem dR_take_115 : decode prog_7_method_20_code 115 = .ok (.imul, 1) := by decide +kernel
theorem dR_take_116 : decode prog_7_method_20_code 116 = .ok (.iadd, 1) := by decide +kernel
theorem dR_take_117 : decode prog_7_method_20_code 117 = .ok (.iload_n 3, 1) := by decide +kernel
theorem dR_take_118 : decode prog_7_method_20_code 118 = .ok (.ifCond .eq 8, 3) := by decide +kernel
theorem dR_take_121 : decode prog_7_method_20_code 121 = .ok (.bipush 32, 2) := by decide +kernel
theorem dR_take_123 : decode prog_7_method_20_code 123 = .ok (.goto 4, 3) := by decide +kernel
theorem dR_take_126 : decode prog_7_method_20_code 126 = .ok (.iconst 0, 1) := by decide +kernel
theorem dR_take_127 : decode prog_7_method_20_code 127 = .ok (.iadd, 1) := by decide +kernel
theorem dR_take_128 : decode prog_7_method_20_code 128 = .ok (.ireturn, 1) := by decide +kernel
theorem dR_data_0 : decode prog_7_method_21_code 0 = .ok (.aload_n 0, 1) := by decide +kernel
theorem dR_data_1 : decode prog_7_method_21_code 1 = .ok (.iconst 0, 1) := by decide +kernel
theorem dR_data_2 : decode prog_7_method_21_code 2 = .ok (.putfield 60, 3) := by decide +kernel
theorem dR_data_5 : decode prog_7_method_21_code 5 = .ok (.aload_n 0, 1) := by decide +kernel
theorem dR_data_6 : decode prog_7_method_21_code 6 = .ok (.getfield 121, 3) := by decide +kernel
theorem dR_data_9 : decode prog_7_method_21_code 9 = .ok (.lreturn, 1) := by decide +kernel
theorem dR_port_0 : decode prog_7_method_22_code 0 = .ok (.aload_n 0, 1) := by decide +kernel
theorem dR_port_1 : decode prog_7_method_22_code 1 = .ok (.iload_n 1, 1) := by decide +kernel
theorem dR_port_2 : decode prog_7_method_22_code 2 = .ok (.iconst 4, 1) := by decide +kernel
theorem dR_port_3 : decode prog_7_method_22_code 3 = .ok (.invokestatic 83, 3) := by decide +kernel
theorem dR_port_6 : decode prog_7_method_22_code 6 = .ok (.ifCond .ne 7, 3) := by decide +kernel
theorem dR_port_9 : decode prog_7_method_22_code 9 = .ok (.iconst 1, 1) := by decide +kernel
theorem dR_port_10 : decode prog_7_method_22_code 10 = .ok (.goto 16, 3) := by decide +kernel
theorem dR_port_13 : decode prog_7_method_22_code 13 = .ok (.iload_n 2, 1) := by decide +kernel
theorem dR_port_14 : decode prog_7_method_22_code 14 = .ok (.iconst 5, 1) := by decide +kernel
theorem dR_port_15 : decode prog_7_method_22_code 15 = .ok (.invokestatic 83, 3) := by decide +kernel
theorem dR_port_18 : decode prog_7_method_22_code 18 = .ok (.ifCond .ne 7, 3) := by decide +kernel
theorem dR_port_21 : decode prog_7_method_22_code 21 = .ok (.iconst 2, 1) := by decide +kernel
theorem dR_port_22 : decode prog_7_method_22_code 22 = .ok (.goto 4, 3) := by decide +kernel
theorem dR_port_25 : decode prog_7_method_22_code 25 = .ok (.iconst 0, 1) := by decide +kernel
theorem dR_port_26 : decode prog_7_method_22_code 26 = .ok (.putfield 60, 3) := by decide +kernel
theorem dR_port_29 : decode prog_7_method_22_code 29 = .ok (.aload_n 0, 1) := by decide +kernel
theorem dR_port_30 : decode prog_7_method_22_code 30 = .ok (.getfield 60, 3) := by decide +kernel
theorem dR_port_33 : decode prog_7_method_22_code 33 = .ok (.ifCond .le 5, 3) := by decide +kernel
theorem dR_port_36 : decode prog_7_method_22_code 36 = .ok (.iconst 0, 1) := by decide +kernel
theorem dR_port_37 : decode prog_7_method_22_code 37 = .ok (.ireturn, 1) := by decide +kernel
theorem dR_port_38 : decode prog_7_method_22_code 38 = .ok (.iload_n 2, 1) := by decide +kernel
theorem dR_port_39 : decode prog_7_method_22_code 39 = .ok (.tableswitch 96 0 3 #[29, 38, 60, 69], 29) := by decide +kernel
theorem dR_port_68 : decode prog_7_method_22_code 68 = .ok (.aload_n 0, 1) := by decide +kernel
theorem dR_port_69 : decode prog_7_method_22_code 69 = .ok (.iconst 2, 1) := by decide +kernel
theorem dR_port_70 : decode prog_7_method_22_code 70 = .ok (.iconst (-1), 1) := by decide +kernel
theorem dR_port_71 : decode prog_7_method_22_code 71 = .ok (.iload_n 1, 1) := by decide +kernel
theorem dR_port_72 : decode prog_7_method_22_code 72 = .ok (.isub, 1) := by decide +kernel
theorem dR_port_73 : decode prog_7_method_22_code 73 = .ok (.invokevirtual 87, 3) := by decide +kernel
theorem dR_port_76 : decode prog_7_method_22_code 76 = .ok (.ireturn, 1) := by decide +kernel
theorem dR_port_77 : decode prog_7_method_22_code 77 = .ok (.aload_n 0, 1) := by decide +kernel
theorem dR_port_78 : decode prog_7_method_22_code 78 = .ok (.iconst 3, 1) := by decide +kernel
theorem dR_port_79 : decode prog_7_method_22_code 79 = .ok (.iconst (-1), 1) := by decide +kernel
theorem dR_port_80 : decode prog_7_method_22_code 80 = .ok (.iload_n 1, 1) := by decide +kernel
theorem dR_port_81 : decode prog_7_method_22_code 81 = .ok (.isub, 1) := by decide +kernel
theorem dR_port_82 : decode prog_7_method_22_code 82 = .ok (.invokevirtual 87, 3) := by decide +kernel
theorem dR_port_85 : decode prog_7_method_22_code 85 = .ok (.ifCond .le 12, 3) := by decide +kernel
theorem dR_port_88 : decode prog_7_method_22_code 88 = .ok (.aload_n 0, 1) := by decide +kernel
theorem dR_port_89 : decode prog_7_method_22_code 89 = .ok (.getfield 45, 3) := by decide +kernel
theorem dR_port_92 : decode prog_7_method_22_code 92 = .ok (.iload_n 1, 1) := by decide +kernel
theorem dR_port_93 : decode prog_7_method_22_code 93 = .ok (.iaload, 1) := by decide +kernel
theorem dR_port_94 : decode prog_7_method_22_code 94 = .ok (.goto 4, 3) := by decide +kernel
theorem dR_port_97 : decode prog_7_method_22_code 97 = .ok (.iconst (-1), 1) := by decide +kernel
theorem dR_port_98 : decode prog_7_method_22_code 98 = .ok (.ireturn, 1) := by decide +kernel
theorem dR_port_99 : decode prog_7_method_22_code 99 = .ok (.aload_n 0, 1) := by decide +kernel
theorem dR_port_100 : decode prog_7_method_22_code 100 = .ok (.iconst 4, 1) := by decide +kernel
theorem dR_port_101 : decode prog_7_method_22_code 101 = .ok (.iconst (-1), 1) := by decide +kernel
theorem dR_port_102 : decode prog_7_method_22_code 102 = .ok (.iload_n 1, 1) := by decide +kernel
theorem dR_port_103 : decode prog_7_method_22_code 103 = .ok (.isub, 1) := by decide +kernel
theorem dR_port_104 : decode prog_7_method_22_code 104 = .ok (.invokevirtual 87, 3) := by decide +kernel
theorem dR_port_107 : decode prog_7_method_22_code 107 = .ok (.ireturn, 1) := by decide +kernel
theorem dR_port_108 : decode prog_7_method_22_code 108 = .ok (.aload_n 0, 1) := by decide +kernel
theorem dR_port_109 : decode prog_7_method_22_code 109 = .ok (.iconst 2, 1) := by decide +kernel
theorem dR_port_110 : decode prog_7_method_22_code 110 = .ok (.iconst (-1), 1) := by decide +kernel
theorem dR_port_111 : decode prog_7_method_22_code 111 = .ok (.iload_n 1, 1) := by decide +kernel
theorem dR_port_112 : decode prog_7_method_22_code 112 = .ok (.isub, 1) := by decide +kernel
theorem dR_port_113 : decode prog_7_method_22_code 113 = .ok (.invokevirtual 87, 3) := by decide +kernel
theorem dR_port_116 : decode prog_7_method_22_code 116 = .ok (.aload_n 0, 1) := by decide +kernel
theorem dR_port_117 : decode prog_7_method_22_code 117 = .ok (.iconst 3, 1) := by decide +kernel
theorem dR_port_118 : decode prog_7_method_22_code 118 = .ok (.iconst (-1), 1) := by decide +kernel
theorem dR_port_119 : decode prog_7_method_22_code 119 = .ok (.iload_n 1, 1) := by decide +kernel
theorem dR_port_120 : decode prog_7_method_22_code 120 = .ok (.isub, 1) := by decide +kernel
theorem dR_port_121 : decode prog_7_method_22_code 121 = .ok (.invokevirtual 87, 3) := by decide +kernel
theorem dR_port_124 : decode prog_7_method_22_code 124 = .ok (.iadd, 1) := by decide +kernel
theorem dR_port_125 : decode prog_7_method_22_code 125 = .ok (.aload_n 0, 1) := by decide +kernel
theorem dR_port_126 : decode prog_7_method_22_code 126 = .ok (.iconst 4, 1) := by decide +kernel
theorem dR_port_127 : decode prog_7_method_22_code 127 = .ok (.iconst (-1), 1) := by decide +kernel
theorem dR_port_128 : decode prog_7_method_22_code 128 = .ok (.iload_n 1, 1) := by decide +kernel
theorem dR_port_129 : decode prog_7_method_22_code 129 = .ok (.isub, 1) := by decide +kernel
theorem dR_port_130 : decode prog_7_method_22_code 130 = .ok (.invokevirtual 87, 3) := by decide +kernel
theorem dR_port_133 : decode prog_7_method_22_code 133 = .ok (.iadd, 1) := by decide +kernel
theorem dR_port_134 : decode prog_7_method_22_code 134 = .ok (.ireturn, 1) := by decide +kernel
theorem dR_port_135 : decode prog_7_method_22_code 135 = .ok (.aload_n 0, 1) := by decide +kernel
theorem dR_port_136 : decode prog_7_method_22_code 136 = .ok (.getfield 48, 3) := by decide +kernel
theorem dR_port_139 : decode prog_7_method_22_code 139 = .ok (.iload_n 1, 1) := by decide +kernel
theorem dR_port_140 : decode prog_7_method_22_code 140 = .ok (.iaload, 1) := by decide +kernel
theorem dR_port_141 : decode prog_7_method_22_code 141 = .ok (.ireturn, 1) := by decide +kernel
theorem dR_owner_0 : decode prog_7_method_23_code 0 = .ok (.aload_n 0, 1) := by decide +kernel
theorem dR_owner_1 : decode prog_7_method_23_code 1 = .ok (.iload_n 1, 1) := by decide +kernel
theorem dR_owner_2 : decode prog_7_method_23_code 2 = .ok (.iconst 4, 1) := by decide +kernel
theorem dR_owner_3 : decode prog_7_method_23_code 3 = .ok (.invokestatic 83, 3) := by decide +kernel
theorem dR_owner_6 : decode prog_7_method_23_code 6 = .ok (.ifCond .eq 15, 3) := by decide +kernel
theorem dR_owner_9 : decode prog_7_method_23_code 9 = .ok (.iload_n 2, 1) := by decide +kernel
theorem dR_owner_10 : decode prog_7_method_23_code 10 = .ok (.iconst 4, 1) := by decide +kernel
theorem dR_owner_11 : decode prog_7_method_23_code 11 = .ok (.invokestatic 83, 3) := by decide +kernel
theorem dR_owner_14 : decode prog_7_method_23_code 14 = .ok (.ifCond .eq 7, 3) := by decide +kernel
theorem dR_owner_17 : decode prog_7_method_23_code 17 = .ok (.iconst 0, 1) := by decide +kernel
theorem dR_owner_18 : decode prog_7_method_23_code 18 = .ok (.goto 4, 3) := by decide +kernel
theorem dR_owner_21 : decode prog_7_method_23_code 21 = .ok (.iconst 1, 1) := by decide +kernel
theorem dR_owner_22 : decode prog_7_method_23_code 22 = .ok (.putfield 60, 3) := by decide +kernel
theorem dR_owner_25 : decode prog_7_method_23_code 25 = .ok (.aload_n 0, 1) := by decide +kernel
theorem dR_owner_26 : decode prog_7_method_23_code 26 = .ok (.getfield 60, 3) := by decide +kernel
theorem dR_owner_29 : decode prog_7_method_23_code 29 = .ok (.ifCond .le 7, 3) := by decide +kernel
theorem dR_owner_32 : decode prog_7_method_23_code 32 = .ok (.iconst 0, 1) := by decide +kernel
theorem dR_owner_33 : decode prog_7_method_23_code 33 = .ok (.goto 9, 3) := by decide +kernel
theorem dR_owner_36 : decode prog_7_method_23_code 36 = .ok (.aload_n 0, 1) := by decide +kernel
theorem dR_owner_37 : decode prog_7_method_23_code 37 = .ok (.iload_n 1, 1) := by decide +kernel
theorem dR_owner_38 : decode prog_7_method_23_code 38 = .ok (.iload_n 2, 1) := by decide +kernel
theorem dR_owner_39 : decode prog_7_method_23_code 39 = .ok (.invokevirtual 79, 3) := by decide +kernel
theorem dR_owner_42 : decode prog_7_method_23_code 42 = .ok (.ireturn, 1) := by decide +kernel
theorem dR_master_0 : decode prog_7_method_24_code 0 = .ok (.aload_n 0, 1) := by decide +kernel
theorem dR_master_1 : decode prog_7_method_24_code 1 = .ok (.iload_n 1, 1) := by decide +kernel
theorem dR_master_2 : decode prog_7_method_24_code 2 = .ok (.iconst 3, 1) := by decide +kernel
theorem dR_master_3 : decode prog_7_method_24_code 3 = .ok (.invokestatic 83, 3) := by decide +kernel
theorem dR_master_6 : decode prog_7_method_24_code 6 = .ok (.ifCond .ne 7, 3) := by decide +kernel
theorem dR_master_9 : decode prog_7_method_24_code 9 = .ok (.iconst 1, 1) := by decide +kernel
theorem dR_master_10 : decode prog_7_method_24_code 10 = .ok (.goto 16, 3) := by decide +kernel
theorem dR_master_13 : decode prog_7_method_24_code 13 = .ok (.iload_n 2, 1) := by decide +kernel
theorem dR_master_14 : decode prog_7_method_24_code 14 = .ok (.iconst 4, 1) := by decide +kernel
theorem dR_master_15 : decode prog_7_method_24_code 15 = .ok (.invokestatic 83, 3) := by decide +kernel
theorem dR_master_18 : decode prog_7_method_24_code 18 = .ok (.ifCond .ne 7, 3) := by decide +kernel
theorem dR_master_21 : decode prog_7_method_24_code 21 = .ok (.iconst 2, 1) := by decide +kernel
theorem dR_master_22 : decode prog_7_method_24_code 22 = .ok (.goto 4, 3) := by decide +kernel
theorem dR_master_25 : decode prog_7_method_24_code 25 = .ok (.iconst 0, 1) := by decide +kernel
theorem dR_master_26 : decode prog_7_method_24_code 26 = .ok (.putfield 60, 3) := by decide +kernel
theorem dR_master_29 : decode prog_7_method_24_code 29 = .ok (.aload_n 0, 1) := by decide +kernel
theorem dR_master_30 : decode prog_7_method_24_code 30 = .ok (.getfield 60, 3) := by decide +kernel
theorem dR_master_33 : decode prog_7_method_24_code 33 = .ok (.ifCond .le 5, 3) := by decide +kernel
theorem dR_master_36 : decode prog_7_method_24_code 36 = .ok (.iconst 0, 1) := by decide +kernel
theorem dR_master_37 : decode prog_7_method_24_code 37 = .ok (.ireturn, 1) := by decide +kernel
theorem dR_master_38 : decode prog_7_method_24_code 38 = .ok (.iload_n 2, 1) := by decide +kernel
theorem dR_master_39 : decode prog_7_method_24_code 39 = .ok (.ifCond .ne 10, 3) := by decide +kernel
theorem dR_master_42 : decode prog_7_method_24_code 42 = .ok (.aload_n 0, 1) := by decide +kernel
theorem dR_master_43 : decode prog_7_method_24_code 43 = .ok (.iconst 1, 1) := by decide +kernel
theorem dR_master_44 : decode prog_7_method_24_code 44 = .ok (.iload_n 1, 1) := by decide +kernel
theorem dR_master_45 : decode prog_7_method_24_code 45 = .ok (.invokevirtual 87, 3) := by decide +kernel
theorem dR_master_48 : decode prog_7_method_24_code 48 = .ok (.ireturn, 1) := by decide +kernel
theorem dR_master_49 : decode prog_7_method_24_code 49 = .ok (.iload_n 2, 1) := by decide +kernel
theorem dR_master_50 : decode prog_7_method_24_code 50 = .ok (.iconst 1, 1) := by decide +kernel
theorem dR_master_51 : decode prog_7_method_24_code 51 = .ok (.if_icmp .ne 10, 3) := by decide +kernel
theorem dR_master_54 : decode prog_7_method_24_code 54 = .ok (.aload_n 0, 1) := by decide +kernel
theorem dR_master_55 : decode prog_7_method_24_code 55 = .ok (.iconst 5, 1) := by decide +kernel
theorem dR_master_56 : decode prog_7_method_24_code 56 = .ok (.iload_n 1, 1) := by decide +kernel
theorem dR_master_57 : decode prog_7_method_24_code 57 = .ok (.invokevirtual 87, 3) := by decide +kernel
theorem dR_master_60 : decode prog_7_method_24_code 60 = .ok (.ireturn, 1) := by decide +kernel
theorem dR_master_61 : decode prog_7_method_24_code 61 = .ok (.iload_n 2, 1) := by decide +kernel
theorem dR_master_62 : decode prog_7_method_24_code 62 = .ok (.iconst 3, 1) := by decide +kernel
theorem dR_master_63 : decode prog_7_method_24_code 63 = .ok (.if_icmp .ne 18, 3) := by decide +kernel
theorem dR_master_66 : decode prog_7_method_24_code 66 = .ok (.aload_n 0, 1) := by decide +kernel
theorem dR_master_67 : decode prog_7_method_24_code 67 = .ok (.getfield 35, 3) := by decide +kernel
theorem dR_master_70 : decode prog_7_method_24_code 70 = .ok (.iload_n 1, 1) := by decide +kernel
theorem dR_master_71 : decode prog_7_method_24_code 71 = .ok (.baload, 1) := by decide +kernel
theorem dR_master_72 : decode prog_7_method_24_code 72 = .ok (.ifCond .eq 7, 3) := by decide +kernel
theorem dR_master_75 : decode prog_7_method_24_code 75 = .ok (.iconst 0, 1) := by decide +kernel
theorem dR_master_76 : decode prog_7_method_24_code 76 = .ok (.goto 4, 3) := by decide +kernel
theorem dR_master_79 : decode prog_7_method_24_code 79 = .ok (.iconst 1, 1) := by decide +kernel
theorem dR_master_80 : decode prog_7_method_24_code 80 = .ok (.ireturn, 1) := by decide +kernel
theorem dR_master_81 : decode prog_7_method_24_code 81 = .ok (.iconst 0, 1) := by decide +kernel
theorem dR_master_82 : decode prog_7_method_24_code 82 = .ok (.istore_n 3, 1) := by decide +kernel
theorem dR_master_83 : decode prog_7_method_24_code 83 = .ok (.iconst 0, 1) := by decide +kernel
theorem dR_master_84 : decode prog_7_method_24_code 84 = .ok (.istore 4, 2) := by decide +kernel
theorem dR_master_86 : decode prog_7_method_24_code 86 = .ok (.iload 4, 2) := by decide +kernel
theorem dR_master_88 : decode prog_7_method_24_code 88 = .ok (.bipush 8, 2) := by decide +kernel
theorem dR_master_90 : decode prog_7_method_24_code 90 = .ok (.if_icmp .ge 35, 3) := by decide +kernel
theorem dR_master_93 : decode prog_7_method_24_code 93 = .ok (.iload_n 3, 1) := by decide +kernel
theorem dR_master_94 : decode prog_7_method_24_code 94 = .ok (.aload_n 0, 1) := by decide +kernel
theorem dR_master_95 : decode prog_7_method_24_code 95 = .ok (.getfield 7, 3) := by decide +kernel
theorem dR_master_98 : decode prog_7_method_24_code 98 = .ok (.bipush 8, 2) := by decide +kernel
theorem dR_master_100 : decode prog_7_method_24_code 100 = .ok (.iload_n 1, 1) := by decide +kernel
theorem dR_master_101 : decode prog_7_method_24_code 101 = .ok (.imul, 1) := by decide +kernel
theorem dR_master_102 : decode prog_7_method_24_code 102 = .ok (.iload 4, 2) := by decide +kernel
theorem dR_master_104 : decode prog_7_method_24_code 104 = .ok (.iadd, 1) := by decide +kernel
theorem dR_master_105 : decode prog_7_method_24_code 105 = .ok (.iaload, 1) := by decide +kernel
theorem dR_master_106 : decode prog_7_method_24_code 106 = .ok (.ifCond .eq 10, 3) := by decide +kernel
theorem dR_master_109 : decode prog_7_method_24_code 109 = .ok (.iconst 1, 1) := by decide +kernel
theorem dR_master_110 : decode prog_7_method_24_code 110 = .ok (.iload 4, 2) := by decide +kernel
theorem dR_master_112 : decode prog_7_method_24_code 112 = .ok (.ishl, 1) := by decide +kernel
theorem dR_master_113 : decode prog_7_method_24_code 113 = .ok (.goto 4, 3) := by decide +kernel
theorem dR_master_116 : decode prog_7_method_24_code 116 = .ok (.iconst 0, 1) := by decide +kernel
theorem dR_master_117 : decode prog_7_method_24_code 117 = .ok (.ior, 1) := by decide +kernel
theorem dR_master_118 : decode prog_7_method_24_code 118 = .ok (.istore_n 3, 1) := by decide +kernel
theorem dR_master_119 : decode prog_7_method_24_code 119 = .ok (.iinc 4 1, 3) := by decide +kernel
theorem dR_master_122 : decode prog_7_method_24_code 122 = .ok (.goto (-36), 3) := by decide +kernel
theorem dR_master_125 : decode prog_7_method_24_code 125 = .ok (.iload_n 3, 1) := by decide +kernel
theorem dR_master_126 : decode prog_7_method_24_code 126 = .ok (.ireturn, 1) := by decide +kernel
theorem dR_memory_0 : decode prog_7_method_25_code 0 = .ok (.aload_n 0, 1) := by decide +kernel
theorem dR_memory_1 : decode prog_7_method_25_code 1 = .ok (.iload_n 1, 1) := by decide +kernel
theorem dR_memory_2 : decode prog_7_method_25_code 2 = .ok (.sipush 640, 3) := by decide +kernel
theorem dR_memory_5 : decode prog_7_method_25_code 5 = .ok (.invokestatic 83, 3) := by decide +kernel
theorem dR_memory_8 : decode prog_7_method_25_code 8 = .ok (.ifCond .eq 7, 3) := by decide +kernel
theorem dR_memory_11 : decode prog_7_method_25_code 11 = .ok (.iconst 0, 1) := by decide +kernel
theorem dR_memory_12 : decode prog_7_method_25_code 12 = .ok (.goto 4, 3) := by decide +kernel
theorem dR_memory_15 : decode prog_7_method_25_code 15 = .ok (.iconst 1, 1) := by decide +kernel
theorem dR_memory_16 : decode prog_7_method_25_code 16 = .ok (.putfield 60, 3) := by decide +kernel
theorem dR_memory_19 : decode prog_7_method_25_code 19 = .ok (.aload_n 0, 1) := by decide +kernel
theorem dR_memory_20 : decode prog_7_method_25_code 20 = .ok (.getfield 60, 3) := by decide +kernel
theorem dR_memory_23 : decode prog_7_method_25_code 23 = .ok (.ifCond .le 7, 3) := by decide +kernel
theorem dR_memory_26 : decode prog_7_method_25_code 26 = .ok (.iconst 0, 1) := by decide +kernel
theorem dR_memory_27 : decode prog_7_method_25_code 27 = .ok (.goto 9, 3) := by decide +kernel
theorem dR_memory_30 : decode prog_7_method_25_code 30 = .ok (.aload_n 0, 1) := by decide +kernel
theorem dR_memory_31 : decode prog_7_method_25_code 31 = .ok (.getfield 51, 3) := by decide +kernel
theorem dR_memory_34 : decode prog_7_method_25_code 34 = .ok (.iload_n 1, 1) := by decide +kernel
theorem dR_memory_35 : decode prog_7_method_25_code 35 = .ok (.iaload, 1) := by decide +kernel
theorem dR_memory_36 : decode prog_7_method_25_code 36 = .ok (.ireturn, 1) := by decide +kernel
theorem dR_done_0 : decode prog_7_method_26_code 0 = .ok (.aload_n 0, 1) := by decide +kernel
theorem dR_done_1 : decode prog_7_method_26_code 1 = .ok (.iconst 0, 1) := by decide +kernel
theorem dR_done_2 : decode prog_7_method_26_code 2 = .ok (.putfield 60, 3) := by decide +kernel
theorem dR_done_5 : decode prog_7_method_26_code 5 = .ok (.iload_n 1, 1) := by decide +kernel
theorem dR_done_6 : decode prog_7_method_26_code 6 = .ok (.bipush 32, 2) := by decide +kernel
theorem dR_done_8 : decode prog_7_method_26_code 8 = .ok (.invokestatic 83, 3) := by decide +kernel
theorem dR_done_11 : decode prog_7_method_26_code 11 = .ok (.ifCond .eq 13, 3) := by decide +kernel
theorem dR_done_14 : decode prog_7_method_26_code 14 = .ok (.iload_n 1, 1) := by decide +kernel
theorem dR_done_15 : decode prog_7_method_26_code 15 = .ok (.aload_n 0, 1) := by decide +kernel
theorem dR_done_16 : decode prog_7_method_26_code 16 = .ok (.getfield 57, 3) := by decide +kernel
theorem dR_done_19 : decode prog_7_method_26_code 19 = .ok (.iconst 3, 1) := by decide +kernel
theorem dR_done_20 : decode prog_7_method_26_code 20 = .ok (.iaload, 1) := by decide +kernel
theorem dR_done_21 : decode prog_7_method_26_code 21 = .ok (.if_icmp .lt 5, 3) := by decide +kernel
theorem dR_done_24 : decode prog_7_method_26_code 24 = .ok (.iconst (-1), 1) := by decide +kernel
theorem dR_done_25 : decode prog_7_method_26_code 25 = .ok (.ireturn, 1) := by decide +kernel
theorem dR_done_26 : decode prog_7_method_26_code 26 = .ok (.aload_n 0, 1) := by decide +kernel
theorem dR_done_27 : decode prog_7_method_26_code 27 = .ok (.getfield 54, 3) := by decide +kernel
theorem dR_done_30 : decode prog_7_method_26_code 30 = .ok (.aload_n 0, 1) := by decide +kernel
theorem dR_done_31 : decode prog_7_method_26_code 31 = .ok (.getfield 57, 3) := by decide +kernel
theorem dR_done_34 : decode prog_7_method_26_code 34 = .ok (.iconst 3, 1) := by decide +kernel
theorem dR_done_35 : decode prog_7_method_26_code 35 = .ok (.iaload, 1) := by decide +kernel
theorem dR_done_36 : decode prog_7_method_26_code 36 = .ok (.iconst 1, 1) := by decide +kernel
theorem dR_done_37 : decode prog_7_method_26_code 37 = .ok (.isub, 1) := by decide +kernel
theorem dR_done_38 : decode prog_7_method_26_code 38 = .ok (.iload_n 1, 1) := by decide +kernel
theorem dR_done_39 : decode prog_7_method_26_code 39 = .ok (.isub, 1) := by decide +kernel
theorem dR_done_40 : decode prog_7_method_26_code 40 = .ok (.bipush 32, 2) := by decide +kernel
theorem dR_done_42 : decode prog_7_method_26_code 42 = .ok (.irem, 1) := by decide +kernel
theorem dR_done_43 : decode prog_7_method_26_code 43 = .ok (.iaload, 1) := by decide +kernel
theorem dR_done_44 : decode prog_7_method_26_code 44 = .ok (.ireturn, 1) := by decide +kernel
theorem dR_count_0 : decode prog_7_method_27_code 0 = .ok (.aload_n 0, 1) := by decide +kernel
theorem dR_count_1 : decode prog_7_method_27_code 1 = .ok (.iconst 0, 1) := by decide +kernel
theorem dR_count_2 : decode prog_7_method_27_code 2 = .ok (.putfield 60, 3) := by decide +kernel
theorem dR_count_5 : decode prog_7_method_27_code 5 = .ok (.iload_n 1, 1) := by decide +kernel
theorem dR_count_6 : decode prog_7_method_27_code 6 = .ok (.bipush 8, 2) := by decide +kernel
theorem dR_count_8 : decode prog_7_method_27_code 8 = .ok (.invokestatic 83, 3) := by decide +kernel
theorem dR_count_11 : decode prog_7_method_27_code 11 = .ok (.ifCond .eq 12, 3) := by decide +kernel
theorem dR_count_14 : decode prog_7_method_27_code 14 = .ok (.aload_n 0, 1) := by decide +kernel
theorem dR_count_15 : decode prog_7_method_27_code 15 = .ok (.getfield 57, 3) := by decide +kernel
theorem dR_count_18 : decode prog_7_method_27_code 18 = .ok (.iload_n 1, 1) := by decide +kernel
theorem dR_count_19 : decode prog_7_method_27_code 19 = .ok (.iaload, 1) := by decide +kernel
theorem dR_count_20 : decode prog_7_method_27_code 20 = .ok (.goto 4, 3) := by decide +kernel
theorem dR_count_23 : decode prog_7_method_27_code 23 = .ok (.iconst (-1), 1) := by decide +kernel
theorem dR_count_24 : decode prog_7_method_27_code 24 = .ok (.ireturn, 1) := by decide +kernel
end
section
/-! the reference's world: 17 cells (itself, then its arrays), numbers all of them but for longs -/
def mq_n (ρ : Nat → Nat → Nat) : Nat → Nat → Int32 := fun j k => nI (ρ j k)
theorem rx_up {ρ : Nat → Nat → Nat} {j k v : Nat} : cx_up (mq_n ρ) j k (nI v) = mq_n (mq_up ρ j k v) := by
  funext i q
  unfold cx_up mq_n mq_up
  split <;> rfl
/-- the reference's longs: bytes (cell 6), latest (cell 0) -/
def rx_t (μ : Nat → Int64) (lt : Int64) : Nat → Nat → Int64 := fun j k => if j = 6 then μ k else if j = 0 ∧ k = 0 then lt else 0
theorem rx_t6 {μ : Nat → Int64} {lt v : Int64} {x : Nat} : gx_upL (rx_t μ lt) 6 x v = rx_t (mq_upL μ x v) lt := by
  funext j k
  unfold gx_upL rx_t mq_upL
  by_cases hj : j = 6
  · subst hj
    simp
  · simp [hj]
theorem rx_t0 {μ : Nat → Int64} {lt v : Int64} : gx_upL (rx_t μ lt) 0 0 v = rx_t μ v := by
  funext j k
  unfold gx_upL rx_t
  by_cases hj : j = 6
  · subst hj
    simp
  · by_cases h0 : j = 0 ∧ k = 0
    · simp [hj, h0]
    · simp [hj, h0]
def rx_len (j : Nat) : Nat := if j = 10 then 3 else if j = 11 ∨ j = 12 ∨ j = 13 then 4 else if j = 14 then 640 else if j = 15 then 32 else if j = 16 then 8 else 24
def rx_E (ad : Nat → Nat) (K : Nat → ClassId) : gx_L := fun σ τ j =>
  if j = 0 then .inr (5, [.int (σ j 0), .ref (ad 1), .ref (ad 2), .ref (ad 3), .ref (ad 4), .ref (ad 5), .ref (ad 6), .ref (ad 7), .ref (ad 8), .int (σ j 1), .ref (ad 9), .ref (ad 10), .ref (ad 11), .ref (ad 12), .ref (ad 13), .ref (ad 14), .ref (ad 15), .ref (ad 16), .long (τ j 0), .int (σ j 2)])
  else if j = 6 then .inl (K 3, 24, .inr (.inl (τ j)))
  else if j = 9 then .inl (K 2, 3, .inl (σ j))
  else .inl (K 0, rx_len j, .inl (σ j))
theorem rx_loc {ad : Nat → Nat} {K : Nat → ClassId} : gx_loc (rx_E ad K) := by
  intro σ σ' τ τ' i h1 h2
  simp only [rx_E, h1, h2]
section RXE
variable {ad : Nat → Nat} {K : Nat → ClassId} {σ : Nat → Nat → Int32} {τ : Nat → Nat → Int64}
theorem rx_E_0 : rx_E ad K σ τ 0 = .inr (5, [.int (σ 0 0), .ref (ad 1), .ref (ad 2), .ref (ad 3), .ref (ad 4), .ref (ad 5), .ref (ad 6), .ref (ad 7), .ref (ad 8), .int (σ 0 1), .ref (ad 9), .ref (ad 10), .ref (ad 11), .ref (ad 12), .ref (ad 13), .ref (ad 14), .ref (ad 15), .ref (ad 16), .long (τ 0 0), .int (σ 0 2)]) := rfl
theorem rx_E_1 : rx_E ad K σ τ 1 = .inl (K 0, 24, .inl (σ 1)) := rfl
theorem rx_E_2 : rx_E ad K σ τ 2 = .inl (K 0, 24, .inl (σ 2)) := rfl
theorem rx_E_3 : rx_E ad K σ τ 3 = .inl (K 0, 24, .inl (σ 3)) := rfl
theorem rx_E_4 : rx_E ad K σ τ 4 = .inl (K 0, 24, .inl (σ 4)) := rfl
theorem rx_E_5 : rx_E ad K σ τ 5 = .inl (K 0, 24, .inl (σ 5)) := rfl
theorem rx_E_7 : rx_E ad K σ τ 7 = .inl (K 0, 24, .inl (σ 7)) := rfl
theorem rx_E_8 : rx_E ad K σ τ 8 = .inl (K 0, 24, .inl (σ 8)) := rfl
theorem rx_E_10 : rx_E ad K σ τ 10 = .inl (K 0, 3, .inl (σ 10)) := rfl
theorem rx_E_11 : rx_E ad K σ τ 11 = .inl (K 0, 4, .inl (σ 11)) := rfl
theorem rx_E_12 : rx_E ad K σ τ 12 = .inl (K 0, 4, .inl (σ 12)) := rfl
theorem rx_E_13 : rx_E ad K σ τ 13 = .inl (K 0, 4, .inl (σ 13)) := rfl
theorem rx_E_14 : rx_E ad K σ τ 14 = .inl (K 0, 640, .inl (σ 14)) := rfl
theorem rx_E_15 : rx_E ad K σ τ 15 = .inl (K 0, 32, .inl (σ 15)) := rfl
theorem rx_E_16 : rx_E ad K σ τ 16 = .inl (K 0, 8, .inl (σ 16)) := rfl
theorem rx_E_6 : rx_E ad K σ τ 6 = .inl (K 3, 24, .inr (.inl (τ 6))) := rfl
theorem rx_E_9 : rx_E ad K σ τ 9 = .inl (K 2, 3, .inl (σ 9)) := rfl
end RXE
def rx_Z (_ : Nat → Prop) (_ : State) (_ : Heap) : Prop := True
theorem rx_ok {A : Nat → Prop} : gx_ok A (rx_Z A) := fun _ _ _ _ _ _ _ => trivial
abbrev rx_P (D : va_G) (K : Nat → ClassId) (ad : Nat → Nat) (σ : Nat → Nat → Int32) (τ : Nat → Nat → Int64) : State → Prop := gx_P D mx_cl (mx_tys K) (rx_E ad K) ad 17 (rx_Z (gx_A ad 17)) σ τ
abbrev rx_Qi (D : va_G) (K : Nat → ClassId) (ad : Nat → Nat) (post : Int32 → gx_U → Prop) : Array Value → State → Outcome → State → Prop := va_Qi post (gx_B D mx_cl (rx_E ad K) ad 17) (gx_A ad 17)
abbrev rx_Ql (D : va_G) (K : Nat → ClassId) (ad : Nat → Nat) (post : Int64 → gx_U → Prop) : Array Value → State → Outcome → State → Prop := va_Ql post (gx_B D mx_cl (rx_E ad K) ad 17) (gx_A ad 17)
abbrev rx_Qv (D : va_G) (K : Nat → ClassId) (ad : Nat → Nat) (post : gx_U → Prop) : Array Value → State → Outcome → State → Prop := va_Qv post (gx_B D mx_cl (rx_E ad K) ad 17) (gx_A ad 17)
section GXZ
variable {p : Program} {l : Launch} {e : Env} {R : Room} {s : State} {m : MethodId} {args : Array Value} {below : List Frame} {meth : Method} {c : Code} {H : Heap} {locs : List Loc} {cells slots : Nat} {Q : State → Prop}
variable {cc : ByteArray} {pc : Nat} {ls : Array Slot} {rest : List Value} {D : va_G} {cl : List vw_C} {tys : List (ClassId × FieldType)}
variable {E : gx_L} {ad : Nat → Nat} {N : Nat} {σ : Nat → Nat → Int32} {τ : Nat → Nat → Int64}
theorem gx_zast (hE : gx_loc E) (hexec : p.tables.exec = Jvm.exec) (hb : c.code = cc) (hV : gx_V D cl tys E ad N σ τ s H) (hS : va_S (gx_A ad N) s.heap H locs) {j : Nat} (hj : j < N) (t0 : Nat) {cA : ClassId} {n : Nat} {f : Nat → Int32} (he : E σ τ j = .inl (cA, n, .inl f)) (ht : tys[t0]? = some (cA, .boolean)) {i x : Int32} (k : Nat) (hk : k < n) (hn : n < 2 ^ 31) (hi : i = nI k) (hdg : decode cc pc = .ok (.bastore, 1))
    (σ' : Nat → Nat → Int32) (he' : E σ' τ j = .inl (cA, n, .inl (upd f k (vp_nar .boolean x)))) (h1 : ∀ i, i ≠ j → σ' i = σ i)
    (kk : ∀ (H1 : Heap) (locs1 : List Loc), gx_V D cl tys E ad N σ' τ s H1 → va_S (gx_A ad N) s.heap H1 locs1 → W p l e R s m args below meth c H1 locs1 cells slots Q (F0 m (pc + 1) ls rest)) : W p l e R s m args below meth c H locs cells slots Q (F0 m pc ls (.int x :: .int i :: .ref (ad j) :: rest)) := by
  obtain ⟨g1, g2⟩ := gx_ia hk hn hi
  exact va_zast hexec hb hV.2.1 hV.1 (gx_D hV.2.2) hS j t0 (gx_at hj he) ht g1 hdg (fun H1 locs1 hP1 _ hS1 => kk H1 locs1 ⟨by rw [g2, gx_set hE hj he' h1 (fun _ _ => rfl)] at hP1; exact hP1, hV.2.1, hV.2.2⟩ hS1)
end GXZ
/-- whose place: a master's number, or one below minus the port's -/
def mq_who (g : Nat) : Int32 := if g < 3 then nI g else -1 - nI (g - 3)
theorem mq_who_lo {g : Nat} (h : g < 3) : mq_who g = nI g := if_pos h
theorem mq_who_hi {p : Nat} : mq_who (3 + p) = -1 - nI p := by
  unfold mq_who
  rw [if_neg (by omega), show 3 + p - 3 = p by omega]
theorem mq_neg : ∀ p, p < 4 → (-1 : Int32) - nI p < 0 := by decide +kernel
theorem mq_nn : ∀ p, p < 4 → (-1 : Int32) - (-1 - nI p) = nI p := by decide +kernel
/-- what holds of every state of the reference -/
def mq_V (ρ : Nat → Nat → Nat) : Prop := (∀ x, x < 24 → ρ 1 x ≤ 5 ∧ (ρ 1 x ≠ 0 → ρ 2 x < 2 ^ 31 ∧ ρ 3 x < 3 ∧ (∃ z, z < 4 ∧ ρ 4 x = 2 ^ z) ∧ ρ 5 x < 1024 ∧ ρ 5 x % ρ 4 x = 0 ∧ ρ 7 x < 256 ∧ (2 ≤ ρ 1 x → ρ 1 x ≤ 4 → ρ 8 x < 4))) ∧ (∀ m, m < 3 → ρ 9 m ≤ 1 ∧ ρ 10 m < 4) ∧ (∀ p, p < 4 → ρ 11 p < 3 ∧ ρ 12 p < 16) ∧ (∀ a, a < 640 → ρ 14 a < 256) ∧ ρ 16 3 ≤ ρ 0 1
theorem rr_R.V {σ : Nat → Nat → Int32} {τ : Nat → Nat → Int64} {ρ : Nat → Nat → Nat} {μ : Nat → Int64} {lt : Int64} {pl : Nat → Nat → List Nat} (h : rr_R σ τ ρ μ lt pl) (hm : ρ 0 1 < 2 ^ 31) : mq_V ρ := by
  obtain ⟨hL, hP, hJ, hM, hO, hG, hB, hT⟩ := h
  refine ⟨fun x hx => ⟨hP.2.2 x hx, fun h0 => ?_⟩, fun m hm' => ?_, fun p hp => ?_, fun a ha => (hB.1 a ha).1, hB.2.2.2⟩
  · obtain ⟨⟨-, a⟩, ⟨z, hz, -, hz2⟩, ⟨-, b, c⟩, ⟨-, d⟩, -⟩ := hG x hx h0
    have := hP.2.1 x hx h0
    exact ⟨by omega, a, ⟨z, hz, hz2⟩, b, c, d, hO.2 x hx⟩
  · obtain ⟨⟨lp, -, -, e⟩, ⟨a, -⟩, -⟩ := hM m hm'
    exact ⟨a, by omega⟩
  · obtain ⟨-, -, -, -, a, -, lm, -, -, e⟩ := hJ p hp
    exact ⟨by omega, a⟩
end
section
/-! the reference: small ones, isAt, many, first, go, holder, freeId -/

set_option maxHeartbeats 4000000 in
set_option maxRecDepth 100000 in
theorem k_R_in (l : Launch) {a b : Int32} : Met l yR_in (Cond.code yR_in prog_7_method_3_code 2 (some .boolean) :: mx_T) { frames := 0, cells := 0, slots := 0, locals := 0 } (va_Pc [.int a, .int b] (fun _ => True)) (va_Qi (fun rr (_ : Unit) => rr = (if 0 ≤ a ∧ a < b then nI 1 else nI 0)) (fun _ _ => True) (fun _ => False)) 0 0 (fun _ => False) := by
  refine gx_met (by decide) rfl (Nat.le_of_ble_eq_true rfl) ?_
  intro pg ev s mid as below mth c ls hx hb hr hml ht hown hlk hnm hargs hB hl
  have hS : va_S (fun _ => False) s.heap s.heap [] := va_S.rf
  have hl : lv_has ls 2 [(0, .int a), (1, .int b)] := hl
  refine lv_iload_n hx hb dR_in_0 rfl (lv_at hl 0 rfl) ?_
  refine lv_if_lt (tgt := 13) hx hb dR_in_1 (by decide) (fun h1 => ?_) (fun h1 => ?_)
  · refine lv_iconst (v := nI 0) hx hb dR_in_13 (by decide) ?_
    exact gx_pzret hx hb hr rfl hS (if_neg (fun q => Int32.not_le.mpr h1 q.1)).symm dR_in_14 hlk
  · refine lv_iload_n hx hb dR_in_4 rfl (lv_at hl 0 rfl) ?_
    refine lv_iload_n hx hb dR_in_5 rfl (lv_at hl 1 rfl) ?_
    refine lv_icmp_ge (tgt := 13) hx hb dR_in_6 (by decide) (fun h6 => ?_) (fun h6 => ?_)
    · refine lv_iconst (v := nI 0) hx hb dR_in_13 (by decide) ?_
      exact gx_pzret hx hb hr rfl hS (if_neg (fun q => Int32.not_le.mpr q.2 h6)).symm dR_in_14 hlk
    · refine lv_iconst (v := nI 1) hx hb dR_in_9 (by decide) ?_
      refine lv_goto (tgt := 14) hx hb dR_in_10 (by decide) ?_
      exact gx_pzret hx hb hr rfl hS (if_pos ⟨Int32.not_lt.mp h1, Int32.not_le.mp h6⟩).symm dR_in_14 hlk

set_option maxHeartbeats 4000000 in
set_option maxRecDepth 100000 in
theorem k_R_portOf (l : Launch) {a : Nat} (ha : a < 1024) : Met l yR_portOf (Cond.code yR_portOf prog_7_method_4_code 1 (some .int) :: mx_T) { frames := 0, cells := 0, slots := 0, locals := 0 } (va_Pc [.int (nI a)] (fun _ => True)) (va_Qi (fun rr (_ : Unit) => rr = nI (mq_port a)) (fun _ _ => True) (fun _ => False)) 0 0 (fun _ => False) := by
  refine gx_met (by decide) rfl (Nat.le_of_ble_eq_true rfl) ?_
  intro pg ev s mid as below mth c ls hx hb hr hml ht hown hlk hnm hargs hB hl
  have hS : va_S (fun _ => False) s.heap s.heap [] := va_S.rf
  have hl : lv_has ls 1 [(0, .int (nI a))] := hl
  refine lv_iload_n hx hb dR_portOf_0 rfl (lv_at hl 0 rfl) ?_
  refine lv_sipush (v := nI 256) hx hb dR_portOf_1 (by decide) ?_
  refine gx_icmp_ge (a := a) (b := 256) (tgt := 11) hx hb dR_portOf_4 (by decide) (by omega) (by omega) (fun h4 => ?_) (fun h4 => ?_)
  · refine lv_iload_n hx hb dR_portOf_11 rfl (lv_at hl 0 rfl) ?_
    refine lv_sipush (v := nI 512) hx hb dR_portOf_12 (by decide) ?_
    refine gx_icmp_ge (a := a) (b := 512) (tgt := 22) hx hb dR_portOf_15 (by decide) (by omega) (by omega) (fun h15 => ?_) (fun h15 => ?_)
    · refine lv_iload_n hx hb dR_portOf_22 rfl (lv_at hl 0 rfl) ?_
      refine lv_sipush (v := nI 640) hx hb dR_portOf_23 (by decide) ?_
      refine gx_icmp_ge (a := a) (b := 640) (tgt := 33) hx hb dR_portOf_26 (by decide) (by omega) (by omega) (fun h26 => ?_) (fun h26 => ?_)
      · refine lv_iconst (v := nI 3) hx hb dR_portOf_33 (by decide) ?_
        exact gx_pret hx hb hr hS (by unfold mq_port; rw [if_neg (by omega), if_neg (by omega), if_neg (by omega)]) dR_portOf_34 hlk
      · refine lv_iconst (v := nI 2) hx hb dR_portOf_29 (by decide) ?_
        refine lv_goto (tgt := 34) hx hb dR_portOf_30 (by decide) ?_
        exact gx_pret hx hb hr hS (by unfold mq_port; rw [if_neg (by omega), if_neg (by omega), if_pos (by omega)]) dR_portOf_34 hlk
    · refine lv_iconst (v := nI 1) hx hb dR_portOf_18 (by decide) ?_
      refine lv_goto (tgt := 34) hx hb dR_portOf_19 (by decide) ?_
      exact gx_pret hx hb hr hS (by unfold mq_port; rw [if_neg (by omega), if_pos (by omega)]) dR_portOf_34 hlk
  · refine lv_iconst (v := nI 0) hx hb dR_portOf_7 (by decide) ?_
    refine lv_goto (tgt := 34) hx hb dR_portOf_8 (by decide) ?_
    exact gx_pret hx hb hr hS (by unfold mq_port; rw [if_pos (by omega)]) dR_portOf_34 hlk

set_option maxHeartbeats 4000000 in
set_option maxRecDepth 100000 in
theorem k_R_widthOf (l : Launch) {p : Nat} (hp0 : p < 4) : Met l yR_widthOf (Cond.code yR_widthOf prog_7_method_5_code 1 (some .int) :: mx_T) { frames := 0, cells := 0, slots := 0, locals := 0 } (va_Pc [.int (nI p)] (fun _ => True)) (va_Qi (fun rr (_ : Unit) => rr = nI (mq_width p)) (fun _ _ => True) (fun _ => False)) 0 0 (fun _ => False) := by
  refine gx_met (by decide) rfl (Nat.le_of_ble_eq_true rfl) ?_
  intro pg ev s mid as below mth c ls hx hb hr hml ht hown hlk hnm hargs hB hl
  have hS : va_S (fun _ => False) s.heap s.heap [] := va_S.rf
  have hl : lv_has ls 1 [(0, .int (nI p))] := hl
  refine lv_iload_n hx hb dR_widthOf_0 rfl (lv_at hl 0 rfl) ?_
  refine gx_if_ne (a := p) (tgt := 8) hx hb dR_widthOf_1 (by decide) (by omega) (fun h1 => ?_) (fun h1 => ?_)
  · refine lv_iload_n hx hb dR_widthOf_8 rfl (lv_at hl 0 rfl) ?_
    refine lv_iconst (v := nI 1) hx hb dR_widthOf_9 (by decide) ?_
    refine gx_icmp_ne (a := p) (b := 1) (tgt := 17) hx hb dR_widthOf_10 (by decide) (by omega) (by omega) (fun h10 => ?_) (fun h10 => ?_)
    · refine lv_bipush (v := nI 8) hx hb dR_widthOf_17 (by decide) ?_
      exact gx_pret hx hb hr hS (by unfold mq_width; rw [if_neg (by omega), if_neg (by omega)]) dR_widthOf_19 hlk
    · refine lv_iconst (v := nI 1) hx hb dR_widthOf_13 (by decide) ?_
      refine lv_goto (tgt := 19) hx hb dR_widthOf_14 (by decide) ?_
      exact gx_pret hx hb hr hS (by unfold mq_width; rw [if_neg (by omega), if_pos (by omega)]) dR_widthOf_19 hlk
  · refine lv_iconst (v := nI 4) hx hb dR_widthOf_4 (by decide) ?_
    refine lv_goto (tgt := 19) hx hb dR_widthOf_5 (by decide) ?_
    exact gx_pret hx hb hr hS (by unfold mq_width; rw [if_pos (by omega)]) dR_widthOf_19 hlk

set_option maxHeartbeats 4000000 in
set_option maxRecDepth 100000 in
theorem k_R_delayOf (l : Launch) {p : Nat} (hp0 : p < 4) : Met l yR_delayOf (Cond.code yR_delayOf prog_7_method_6_code 1 (some .int) :: mx_T) { frames := 0, cells := 0, slots := 0, locals := 0 } (va_Pc [.int (nI p)] (fun _ => True)) (va_Qi (fun rr (_ : Unit) => rr = nI (mq_delay p)) (fun _ _ => True) (fun _ => False)) 0 0 (fun _ => False) := by
  refine gx_met (by decide) rfl (Nat.le_of_ble_eq_true rfl) ?_
  intro pg ev s mid as below mth c ls hx hb hr hml ht hown hlk hnm hargs hB hl
  have hS : va_S (fun _ => False) s.heap s.heap [] := va_S.rf
  have hl : lv_has ls 1 [(0, .int (nI p))] := hl
  refine lv_iload_n hx hb dR_delayOf_0 rfl (lv_at hl 0 rfl) ?_
  refine gx_if_ne (a := p) (tgt := 8) hx hb dR_delayOf_1 (by decide) (by omega) (fun h1 => ?_) (fun h1 => ?_)
  · refine lv_iload_n hx hb dR_delayOf_8 rfl (lv_at hl 0 rfl) ?_
    refine lv_iconst (v := nI 2) hx hb dR_delayOf_9 (by decide) ?_
    refine gx_icmp_ne (a := p) (b := 2) (tgt := 17) hx hb dR_delayOf_10 (by decide) (by omega) (by omega) (fun h10 => ?_) (fun h10 => ?_)
    · refine lv_iconst (v := nI 1) hx hb dR_delayOf_17 (by decide) ?_
      exact gx_pret hx hb hr hS (by unfold mq_delay; rw [if_neg (by omega), if_neg (by omega)]) dR_delayOf_18 hlk
    · refine lv_iconst (v := nI 3) hx hb dR_delayOf_13 (by decide) ?_
      refine lv_goto (tgt := 18) hx hb dR_delayOf_14 (by decide) ?_
      exact gx_pret hx hb hr hS (by unfold mq_delay; rw [if_neg (by omega), if_pos (by omega)]) dR_delayOf_18 hlk
  · refine lv_iconst (v := nI 2) hx hb dR_delayOf_4 (by decide) ?_
    refine lv_goto (tgt := 18) hx hb dR_delayOf_5 (by decide) ?_
    exact gx_pret hx hb hr hS (by unfold mq_delay; rw [if_pos (by omega)]) dR_delayOf_18 hlk

set_option maxHeartbeats 4000000 in
set_option maxRecDepth 100000 in
theorem k_R_thrown (l : Launch) {D : va_G} {K : Nat → ClassId} {ad : Nat → Nat} {ρ : Nat → Nat → Nat} {μ : Nat → Int64} {lt : Int64}  : Met l yR_thrown (Cond.code yR_thrown prog_7_method_2_code 1 (some .int) :: mx_T) { frames := 0, cells := 0, slots := 0, locals := 0 } (va_Pc [.ref (ad 0)] (rx_P D K ad (mq_n ρ) (rx_t μ lt))) (rx_Qi D K ad (fun rr u => rr = nI (ρ 0 0) ∧ u = (mq_n ρ, rx_t μ lt))) 0 0 (gx_A ad 17) := by
  refine gx_met (by decide) rfl (Nat.le_of_ble_eq_true rfl) ?_
  intro pg ev s mid as below mth c ls hx hb hr hml ht hown hlk hnm hargs hB hl
  obtain ⟨hV, hZ⟩ := hB
  have hS : va_S (gx_A ad 17) s.heap s.heap [] := va_S.rf
  have hl : lv_has ls 1 [(0, .ref (ad 0))] := hl
  refine lv_aload_n hx hb dR_thrown_0 rfl (lv_at hl 0 rfl) ?_
  refine gx_get (C := mR_R) (T := mT_R) (N' := 20) (v := .int (nI (ρ 0 0))) hx hb ht mh_R hown hV (by decide) rx_E_0 rfl 0 (by decide) (ht _ mw_472) (fun _ h => h) rfl dR_thrown_1 ?_
  exact gx_iret hx hb hr hV hS ⟨rfl, rfl⟩ dR_thrown_4 hlk

theorem mq_port_lt (a : Nat) : mq_port a < 4 := by
  unfold mq_port
  split <;> (try split) <;> (try split) <;> omega

set_option maxHeartbeats 4000000 in
set_option maxRecDepth 100000 in
theorem k_R_isAtL (l : Launch) {D : va_G} {K : Nat → ClassId} {ad : Nat → Nat} {ρ : Nat → Nat → Nat} {μ : Nat → Int64} {lt : Int64} {x w g : Nat} (hx2 : x < 24) (hw : 1 ≤ w ∧ w ≤ 5) (hg : g < 3) (hV0 : ρ 1 x ≤ 5 ∧ (ρ 1 x ≠ 0 → ρ 2 x < 2 ^ 31 ∧ ρ 3 x < 3 ∧ (∃ z, z < 4 ∧ ρ 4 x = 2 ^ z) ∧ ρ 5 x < 1024 ∧ ρ 5 x % ρ 4 x = 0 ∧ ρ 7 x < 256 ∧ (2 ≤ ρ 1 x → ρ 1 x ≤ 4 → ρ 8 x < 4))) : Met l yR_isAt (Cond.code yR_isAt prog_7_method_7_code 4 (some .boolean) :: mx_T) { frames := 1, cells := 0, slots := 0, locals := 20 } (va_Pc [.ref (ad 0), .int (nI x), .int (nI w), .int (nI g)] (rx_P D K ad (mq_n ρ) (rx_t μ lt))) (rx_Qi D K ad (fun rr u => rr = (if mq_is ρ w g x = true then nI 1 else nI 0) ∧ u = (mq_n ρ, rx_t μ lt))) 0 0 (gx_A ad 17) := by
  refine gx_met (by decide) rfl (Nat.le_of_ble_eq_true rfl) ?_
  intro pg ev s mid as below mth c ls hx hb hr hml ht hown hlk hnm hargs hB hl
  obtain ⟨hV, hZ⟩ := hB
  have hS : va_S (gx_A ad 17) s.heap s.heap [] := va_S.rf
  have hl : lv_has ls 4 [(0, .ref (ad 0)), (1, .int (nI x)), (2, .int (nI w)), (3, .int (nI g))] := hl
  refine lv_aload_n hx hb dR_isAt_0 rfl (lv_at hl 0 rfl) ?_
  refine gx_get (C := mR_R) (T := mT_R) (N' := 20) hx hb ht mh_R hown hV (by decide) rx_E_0 rfl 1 (by decide) (ht _ mw_473) (fun _ h => h) rfl dR_isAt_1 ?_
  refine lv_iload_n hx hb dR_isAt_4 rfl (lv_at hl 1 rfl) ?_
  refine gx_ialdv (v := nI (ρ 1 x)) hx hb hV (by decide) 0 rx_E_1 rfl x hx2 (by decide) rfl rfl dR_isAt_5 ?_
  refine lv_iload_n hx hb dR_isAt_6 rfl (lv_at hl 2 rfl) ?_
  refine gx_icmp_eq (a := (ρ 1 x)) (b := w) (tgt := 12) hx hb dR_isAt_7 (by decide) (by omega) (by omega) (fun h7 => ?_) (fun h7 => ?_)
  · refine lv_iload_n hx hb dR_isAt_12 rfl (lv_at hl 3 rfl) ?_
    refine lv_if_lt (tgt := 32) hx hb dR_isAt_13 (by decide) (fun h13 => ?_) (fun h13 => ?_)
    · exact absurd h13 (nI_pos (by omega))
    · refine lv_iload_n hx hb dR_isAt_16 rfl (lv_at hl 1 rfl) ?_
      refine lv_bipush (v := nI 8) hx hb dR_isAt_17 (by decide) ?_
      refine gx_idiv (a := x) (b := 8) hx hb dR_isAt_19 (by omega) (by omega) (by omega) ?_
      refine lv_iload_n hx hb dR_isAt_20 rfl (lv_at hl 3 rfl) ?_
      refine gx_icmp_ne (a := (x / 8)) (b := g) (tgt := 28) hx hb dR_isAt_21 (by decide) (by omega) (by omega) (fun h21 => ?_) (fun h21 => ?_)
      · refine lv_iconst (v := nI 0) hx hb dR_isAt_28 (by decide) ?_
        refine lv_goto (tgt := 52) hx hb dR_isAt_29 (by decide) ?_
        exact gx_zret hx hb hr rfl hV hS ⟨(if_neg (fun q => h21 (by have := (mq_is_iff.mp q).2; unfold mq_in at this; rw [if_pos hg] at this; exact this))).symm, rfl⟩ dR_isAt_52 hlk
      · refine lv_iconst (v := nI 1) hx hb dR_isAt_24 (by decide) ?_
        refine lv_goto (tgt := 52) hx hb dR_isAt_25 (by decide) ?_
        exact gx_zret hx hb hr rfl hV hS ⟨(if_pos (mq_is_iff.mpr ⟨h7, by unfold mq_in; rw [if_pos hg]; exact h21⟩)).symm, rfl⟩ dR_isAt_52 hlk
  · refine lv_iconst (v := nI 0) hx hb dR_isAt_10 (by decide) ?_
    exact gx_zret hx hb hr rfl hV hS ⟨(if_neg (fun q => h7 (mq_is_iff.mp q).1)).symm, rfl⟩ dR_isAt_11 hlk

set_option maxHeartbeats 4000000 in
set_option maxRecDepth 100000 in
theorem k_R_isAtH (l : Launch) {D : va_G} {K : Nat → ClassId} {ad : Nat → Nat} {ρ : Nat → Nat → Nat} {μ : Nat → Int64} {lt : Int64} {x w p : Nat} (hx2 : x < 24) (hw : 1 ≤ w ∧ w ≤ 5) (hp0 : p < 4) (hV0 : ρ 1 x ≤ 5 ∧ (ρ 1 x ≠ 0 → ρ 2 x < 2 ^ 31 ∧ ρ 3 x < 3 ∧ (∃ z, z < 4 ∧ ρ 4 x = 2 ^ z) ∧ ρ 5 x < 1024 ∧ ρ 5 x % ρ 4 x = 0 ∧ ρ 7 x < 256 ∧ (2 ≤ ρ 1 x → ρ 1 x ≤ 4 → ρ 8 x < 4))) : Met l yR_isAt (Cond.code yR_isAt prog_7_method_7_code 4 (some .boolean) :: mx_T) { frames := 1, cells := 0, slots := 0, locals := 20 } (va_Pc [.ref (ad 0), .int (nI x), .int (nI w), .int (-1 - nI p)] (rx_P D K ad (mq_n ρ) (rx_t μ lt))) (rx_Qi D K ad (fun rr u => rr = (if mq_is ρ w (3 + p) x = true then nI 1 else nI 0) ∧ u = (mq_n ρ, rx_t μ lt))) 0 0 (gx_A ad 17) := by
  refine gx_met (by decide) rfl (Nat.le_of_ble_eq_true rfl) ?_
  intro pg ev s mid as below mth c ls hx hb hr hml ht hown hlk hnm hargs hB hl
  obtain ⟨hV, hZ⟩ := hB
  have hS : va_S (gx_A ad 17) s.heap s.heap [] := va_S.rf
  have hl : lv_has ls 4 [(0, .ref (ad 0)), (1, .int (nI x)), (2, .int (nI w)), (3, .int (-1 - nI p))] := hl
  refine lv_aload_n hx hb dR_isAt_0 rfl (lv_at hl 0 rfl) ?_
  refine gx_get (C := mR_R) (T := mT_R) (N' := 20) hx hb ht mh_R hown hV (by decide) rx_E_0 rfl 1 (by decide) (ht _ mw_473) (fun _ h => h) rfl dR_isAt_1 ?_
  refine lv_iload_n hx hb dR_isAt_4 rfl (lv_at hl 1 rfl) ?_
  refine gx_ialdv (v := nI (ρ 1 x)) hx hb hV (by decide) 0 rx_E_1 rfl x hx2 (by decide) rfl rfl dR_isAt_5 ?_
  refine lv_iload_n hx hb dR_isAt_6 rfl (lv_at hl 2 rfl) ?_
  refine gx_icmp_eq (a := (ρ 1 x)) (b := w) (tgt := 12) hx hb dR_isAt_7 (by decide) (by omega) (by omega) (fun h7 => ?_) (fun h7 => ?_)
  · refine lv_iload_n hx hb dR_isAt_12 rfl (lv_at hl 3 rfl) ?_
    refine lv_if_lt (tgt := 32) hx hb dR_isAt_13 (by decide) (fun h13 => ?_) (fun h13 => ?_)
    · refine lv_aload_n hx hb dR_isAt_32 rfl (lv_at hl 0 rfl) ?_
      refine gx_get (C := mR_R) (T := mT_R) (N' := 20) hx hb ht mh_R hown hV (by decide) rx_E_0 rfl 5 (by decide) (ht _ mw_477) (fun _ h => h) rfl dR_isAt_33 ?_
      refine lv_iload_n hx hb dR_isAt_36 rfl (lv_at hl 1 rfl) ?_
      refine gx_ialdv (v := nI (ρ 5 x)) hx hb hV (by decide) 0 rx_E_5 rfl x hx2 (by decide) rfl rfl dR_isAt_37 ?_
      refine gx_callp (va_runS (As := [.int (nI (ρ 5 x))]) (rest := []) ⟨hx, hb, hml, hown, ht⟩ (k_R_portOf l (hV0.2 (by omega)).2.2.2.1) (cwS 1 ht (mx_gS mw_554 mw_555 mw_6 mw_556) rfl rfl rfl (by decide +kernel) ⟨Nat.le_of_ble_eq_true rfl, Nat.le_of_ble_eq_true rfl⟩) (gx_preP [.int (nI (ρ 5 x))]) rfl rfl hl.1 rfl (lv_room (Nat.le_of_ble_eq_true rfl)) dR_isAt_38 ⟨Nat.le_of_ble_eq_true rfl, Nat.le_of_ble_eq_true rfl⟩) hV hS (fun r1 H locs hp hV hS => ?_)
      subst hp
      refine lv_iconst (v := -1) hx hb dR_isAt_41 (by decide) ?_
      refine lv_iload_n hx hb dR_isAt_42 rfl (lv_at hl 3 rfl) ?_
      refine lv_isub hx hb dR_isAt_43 ?_
      refine gx_top (y := nI p) (mq_nn p hp0) ?_
      refine gx_icmp_ne (a := (mq_port (ρ 5 x))) (b := p) (tgt := 51) hx hb dR_isAt_44 (by decide) (by have := mq_port_lt (ρ 5 x); omega) (by omega) (fun h44 => ?_) (fun h44 => ?_)
      · refine lv_iconst (v := nI 0) hx hb dR_isAt_51 (by decide) ?_
        exact gx_zret hx hb hr rfl hV hS ⟨(if_neg (fun q => h44 (by have := (mq_is_iff.mp q).2; unfold mq_in at this; rw [if_neg (by omega)] at this; omega))).symm, rfl⟩ dR_isAt_52 hlk
      · refine lv_iconst (v := nI 1) hx hb dR_isAt_47 (by decide) ?_
        refine lv_goto (tgt := 52) hx hb dR_isAt_48 (by decide) ?_
        exact gx_zret hx hb hr rfl hV hS ⟨(if_pos (mq_is_iff.mpr ⟨h7, by unfold mq_in; rw [if_neg (by omega)]; omega⟩)).symm, rfl⟩ dR_isAt_52 hlk
    · exact absurd (mq_neg p hp0) h13
  · refine lv_iconst (v := nI 0) hx hb dR_isAt_10 (by decide) ?_
    exact gx_zret hx hb hr rfl hV hS ⟨(if_neg (fun q => h7 (mq_is_iff.mp q).1)).symm, rfl⟩ dR_isAt_11 hlk

theorem k_R_isAt (l : Launch) {D : va_G} {K : Nat → ClassId} {ad : Nat → Nat} {ρ : Nat → Nat → Nat} {μ : Nat → Int64} {lt : Int64} {x w g : Nat} (hx2 : x < 24) (hw : 1 ≤ w ∧ w ≤ 5) (hg : g < 7) (hV0 : mq_V ρ) : Met l yR_isAt (Cond.code yR_isAt prog_7_method_7_code 4 (some .boolean) :: mx_T) { frames := 1, cells := 0, slots := 0, locals := 20 } (va_Pc [.ref (ad 0), .int (nI x), .int (nI w), .int (mq_who g)] (rx_P D K ad (mq_n ρ) (rx_t μ lt))) (rx_Qi D K ad (fun rr u => rr = (if mq_is ρ w g x = true then nI 1 else nI 0) ∧ u = (mq_n ρ, rx_t μ lt))) 0 0 (gx_A ad 17) := by
  by_cases h : g < 3
  · rw [mq_who_lo h]
    exact k_R_isAtL l hx2 hw h (hV0.1 x hx2)
  · obtain ⟨p, rfl⟩ : ∃ p, g = 3 + p := ⟨g - 3, by omega⟩
    rw [mq_who_hi]
    exact k_R_isAtH l hx2 hw (by omega) (hV0.1 x hx2)

set_option maxHeartbeats 4000000 in
set_option maxRecDepth 100000 in
theorem k_R_many (l : Launch) {D : va_G} {K : Nat → ClassId} {ad : Nat → Nat} {ρ : Nat → Nat → Nat} {μ : Nat → Int64} {lt : Int64} {w g : Nat} (hw : 1 ≤ w ∧ w ≤ 5) (hg : g < 7) (hV0 : mq_V ρ) : Met l yR_many (Cond.code yR_many prog_7_method_8_code 5 (some .int) :: mx_T) { frames := 2, cells := 0, slots := 0, locals := 43 } (va_Pc [.ref (ad 0), .int (nI w), .int (mq_who g)] (rx_P D K ad (mq_n ρ) (rx_t μ lt))) (rx_Qi D K ad (fun rr u => rr = nI (mq_many ρ w g) ∧ u = (mq_n ρ, rx_t μ lt))) 0 0 (gx_A ad 17) := by
  refine gx_met (by decide) rfl (Nat.le_of_ble_eq_true rfl) ?_
  intro pg ev s mid as below mth c ls hx hb hr hml ht hown hlk hnm hargs hB hl
  obtain ⟨hV, hZ⟩ := hB
  have hS : va_S (gx_A ad 17) s.heap s.heap [] := va_S.rf
  have hl : lv_has ls 5 [(0, .ref (ad 0)), (1, .int (nI w)), (2, .int (mq_who g))] := hl
  refine lv_iconst (v := nI 0) hx hb dR_many_0 (by decide) ?_
  refine lv_istore_n (lv' := [(3, .int (nI 0)), (0, .ref (ad 0)), (1, .int (nI w)), (2, .int (mq_who g))]) hx hb dR_many_1 rfl hl (by decide) rfl (fun ls hl => ?_)
  refine lv_iconst (v := nI 0) hx hb dR_many_2 (by decide) ?_
  refine lv_istore (lv' := [(4, .int (nI 0)), (3, .int (nI 0)), (0, .ref (ad 0)), (1, .int (nI w)), (2, .int (mq_who g))]) hx hb dR_many_3 hl (by decide) rfl (fun ls hl => ?_)
  have loop : ∀ (k : Nat) (i : Nat) (H : Heap) (locs : List Loc) (ls : Array Slot), i + k = 24 → gx_V D mx_cl (mx_tys K) (rx_E ad K) ad 17 (mq_n ρ) (rx_t μ lt) s H → va_S (gx_A ad 17) s.heap H locs → lv_has ls 5 [(4, .int (nI i)), (3, .int (nI (mq_cnt (mq_is ρ w g) i))), (0, .ref (ad 0)), (1, .int (nI w)), (2, .int (mq_who g))] → W pg l ev (headSpec (Cond.code yR_many prog_7_method_8_code 5 (some .int) :: mx_T) { frames := 2, cells := 0, slots := 0, locals := 43 }).room s mid as below mth c H locs 0 0 (MQ below (rx_Qi D K ad (fun rr u => rr = nI (mq_many ρ w g) ∧ u = (mq_n ρ, rx_t μ lt))) as s 0 0 (gx_A ad 17)) (F0 mid 5 ls []) := by
    intro k
    induction k with
    | zero =>
      intro i H locs ls hk hV hS hl
      refine lv_iload hx hb dR_many_5 (lv_at hl 0 rfl) ?_
      refine lv_bipush (v := nI 24) hx hb dR_many_7 (by decide) ?_
      refine gx_icmp_ge (a := i) (b := 24) (tgt := 37) hx hb dR_many_9 (by decide) (by omega) (by omega) (fun h9 => ?_) (fun h9 => ?_)
      · refine lv_iload_n hx hb dR_many_37 rfl (lv_at hl 1 rfl) ?_
        exact gx_iret hx hb hr hV hS ⟨by rw [show i = 24 by omega]; rfl, rfl⟩ dR_many_38 hlk
      · exact absurd h9 (by omega)
    | succ k ih =>
      intro i H locs ls hk hV hS hl
      refine lv_iload hx hb dR_many_5 (lv_at hl 0 rfl) ?_
      refine lv_bipush (v := nI 24) hx hb dR_many_7 (by decide) ?_
      refine gx_icmp_ge (a := i) (b := 24) (tgt := 37) hx hb dR_many_9 (by decide) (by omega) (by omega) (fun h9 => ?_) (fun h9 => ?_)
      · exact absurd h9 (by omega)
      · refine lv_iload_n hx hb dR_many_12 rfl (lv_at hl 1 rfl) ?_
        refine lv_aload_n hx hb dR_many_13 rfl (lv_at hl 2 rfl) ?_
        refine lv_iload hx hb dR_many_14 (lv_at hl 0 rfl) ?_
        refine lv_iload_n hx hb dR_many_16 rfl (lv_at hl 3 rfl) ?_
        refine lv_iload_n hx hb dR_many_17 rfl (lv_at hl 4 rfl) ?_
        refine gx_calli (va_runV (As := [.int (nI i), .int (nI w), .int (mq_who g)]) (rest := [.int (nI (mq_cnt (mq_is ρ w g) i))]) ⟨hx, hb, hml, hown, ht⟩ (k_R_isAt l (x := i) (by omega) hw hg hV0) (cwV 3 ht (mx_gV (C := "MessageCrossbarModel") mw_550 mw_552 ms_17 mw_6 mw_553) rfl rfl rfl (by decide +kernel) ⟨Nat.le_of_ble_eq_true rfl, Nat.le_of_ble_eq_true rfl⟩) (gx_preV rx_ok hV hZ hS (q := (mR_R, mT_R, 20)) (by decide) rx_E_0 rfl [.int (nI i), .int (nI w), .int (mq_who g)]) rfl rfl hl.1 rfl (lv_room (Nat.le_of_ble_eq_true rfl)) dR_many_18 ⟨Nat.le_of_ble_eq_true rfl, Nat.le_of_ble_eq_true rfl⟩) hV hS (fun r1 σ' τ' H locs hp hV hS => ?_)
        obtain ⟨rfl, hu⟩ := hp
        cases hu
        refine gx_ifb_eq (q := mq_is ρ w g i = true) (tgt := 28) hx hb dR_many_21 (by decide) (fun h21 => ?_) (fun h21 => ?_)
        · refine lv_iconst (v := nI 0) hx hb dR_many_28 (by decide) ?_
          refine gx_iadd (a := (mq_cnt (mq_is ρ w g) i)) (b := 0) hx hb dR_many_29 ?_
          refine lv_istore_n (lv' := [(3, .int (nI ((mq_cnt (mq_is ρ w g) i) + 0))), (4, .int (nI i)), (0, .ref (ad 0)), (1, .int (nI w)), (2, .int (mq_who g))]) hx hb dR_many_30 rfl hl (by decide) rfl (fun ls hl => ?_)
          refine lv_iinc (k := 1) (v := (nI (i + 1))) (lv' := [(4, .int (nI (i + 1))), (3, .int (nI ((mq_cnt (mq_is ρ w g) i) + 0))), (0, .ref (ad 0)), (1, .int (nI w)), (2, .int (mq_who g))]) hx hb dR_many_31 hl rfl (nI_succ i).symm (by decide) rfl (fun ls hl => ?_)
          refine lv_goto (tgt := 5) hx hb dR_many_34 (by decide) ?_
          exact ih (i + 1) H locs ls (by omega) hV hS (by rw [mq_cnt_f (by simpa using h21)]; exact (lv_sub hl [0, 1, 2, 3, 4] rfl))
        · refine lv_iconst (v := nI 1) hx hb dR_many_24 (by decide) ?_
          refine lv_goto (tgt := 29) hx hb dR_many_25 (by decide) ?_
          refine gx_iadd (a := (mq_cnt (mq_is ρ w g) i)) (b := 1) hx hb dR_many_29 ?_
          refine lv_istore_n (lv' := [(3, .int (nI ((mq_cnt (mq_is ρ w g) i) + 1))), (4, .int (nI i)), (0, .ref (ad 0)), (1, .int (nI w)), (2, .int (mq_who g))]) hx hb dR_many_30 rfl hl (by decide) rfl (fun ls hl => ?_)
          refine lv_iinc (k := 1) (v := (nI (i + 1))) (lv' := [(4, .int (nI (i + 1))), (3, .int (nI ((mq_cnt (mq_is ρ w g) i) + 1))), (0, .ref (ad 0)), (1, .int (nI w)), (2, .int (mq_who g))]) hx hb dR_many_31 hl rfl (nI_succ i).symm (by decide) rfl (fun ls hl => ?_)
          refine lv_goto (tgt := 5) hx hb dR_many_34 (by decide) ?_
          exact ih (i + 1) H locs ls (by omega) hV hS (by rw [mq_cnt_t h21]; exact (lv_sub hl [0, 1, 2, 3, 4] rfl))
  exact loop 24 0 _ _ ls (by omega) hV hS hl

theorem mq_fst_no {p : Nat → Bool} {s : Nat → Nat} {i : Nat} (h : p i = false) : mq_fst p s (i + 1) = mq_fst p s i := by
  simp [mq_fst, h]
theorem mq_fst_new {p : Nat → Bool} {s : Nat → Nat} {i : Nat} (h : p i = true) (hq : mq_fst p s i = none) : mq_fst p s (i + 1) = some i := by
  simp [mq_fst, h, hq]
theorem mq_fst_less {p : Nat → Bool} {s : Nat → Nat} {i y : Nat} (h : p i = true) (hq : mq_fst p s i = some y) (hl : s i < s y) : mq_fst p s (i + 1) = some i := by
  simp [mq_fst, h, hq, hl]
theorem mq_fst_old {p : Nat → Bool} {s : Nat → Nat} {i y : Nat} (hq : mq_fst p s i = some y) (hl : ¬ s i < s y) : mq_fst p s (i + 1) = mq_fst p s i := by
  simp only [mq_fst, hq]
  rw [if_neg]
  simp [hl]

set_option maxHeartbeats 4000000 in
set_option maxRecDepth 100000 in
theorem k_R_first (l : Launch) {D : va_G} {K : Nat → ClassId} {ad : Nat → Nat} {ρ : Nat → Nat → Nat} {μ : Nat → Int64} {lt : Int64} {w g : Nat} (hw : 1 ≤ w ∧ w ≤ 5) (hg : g < 7) (hV0 : mq_V ρ) : Met l yR_first (Cond.code yR_first prog_7_method_9_code 5 (some .int) :: mx_T) { frames := 2, cells := 0, slots := 0, locals := 43 } (va_Pc [.ref (ad 0), .int (nI w), .int (mq_who g)] (rx_P D K ad (mq_n ρ) (rx_t μ lt))) (rx_Qi D K ad (fun rr u => rr = mq_oI (mq_first ρ w g) ∧ u = (mq_n ρ, rx_t μ lt))) 0 0 (gx_A ad 17) := by
  refine gx_met (by decide) rfl (Nat.le_of_ble_eq_true rfl) ?_
  intro pg ev s mid as below mth c ls hx hb hr hml ht hown hlk hnm hargs hB hl
  obtain ⟨hV, hZ⟩ := hB
  have hS : va_S (gx_A ad 17) s.heap s.heap [] := va_S.rf
  have hl : lv_has ls 5 [(0, .ref (ad 0)), (1, .int (nI w)), (2, .int (mq_who g))] := hl
  refine lv_iconst (v := -1) hx hb dR_first_0 (by decide) ?_
  refine lv_istore_n (lv' := [(3, .int (-1)), (0, .ref (ad 0)), (1, .int (nI w)), (2, .int (mq_who g))]) hx hb dR_first_1 rfl hl (by decide) rfl (fun ls hl => ?_)
  refine lv_iconst (v := nI 0) hx hb dR_first_2 (by decide) ?_
  refine lv_istore (lv' := [(4, .int (nI 0)), (3, .int (-1)), (0, .ref (ad 0)), (1, .int (nI w)), (2, .int (mq_who g))]) hx hb dR_first_3 hl (by decide) rfl (fun ls hl => ?_)
  have loop : ∀ (k : Nat) (i : Nat) (H : Heap) (locs : List Loc) (ls : Array Slot), i + k = 24 → gx_V D mx_cl (mx_tys K) (rx_E ad K) ad 17 (mq_n ρ) (rx_t μ lt) s H → va_S (gx_A ad 17) s.heap H locs → lv_has ls 5 [(4, .int (nI i)), (3, .int (mq_oI (mq_fst (mq_is ρ w g) (ρ 2) i))), (0, .ref (ad 0)), (1, .int (nI w)), (2, .int (mq_who g))] → W pg l ev (headSpec (Cond.code yR_first prog_7_method_9_code 5 (some .int) :: mx_T) { frames := 2, cells := 0, slots := 0, locals := 43 }).room s mid as below mth c H locs 0 0 (MQ below (rx_Qi D K ad (fun rr u => rr = mq_oI (mq_first ρ w g) ∧ u = (mq_n ρ, rx_t μ lt))) as s 0 0 (gx_A ad 17)) (F0 mid 5 ls []) := by
    intro k
    induction k with
    | zero =>
      intro i H locs ls hk hV hS hl
      refine lv_iload hx hb dR_first_5 (lv_at hl 0 rfl) ?_
      refine lv_bipush (v := nI 24) hx hb dR_first_7 (by decide) ?_
      refine gx_icmp_ge (a := i) (b := 24) (tgt := 52) hx hb dR_first_9 (by decide) (by omega) (by omega) (fun h9 => ?_) (fun h9 => ?_)
      · refine lv_iload_n hx hb dR_first_52 rfl (lv_at hl 1 rfl) ?_
        exact gx_iret hx hb hr hV hS ⟨by rw [show i = 24 by omega]; rfl, rfl⟩ dR_first_53 hlk
      · exact absurd h9 (by omega)
    | succ k ih =>
      intro i H locs ls hk hV hS hl
      refine lv_iload hx hb dR_first_5 (lv_at hl 0 rfl) ?_
      refine lv_bipush (v := nI 24) hx hb dR_first_7 (by decide) ?_
      refine gx_icmp_ge (a := i) (b := 24) (tgt := 52) hx hb dR_first_9 (by decide) (by omega) (by omega) (fun h9 => ?_) (fun h9 => ?_)
      · exact absurd h9 (by omega)
      · refine lv_aload_n hx hb dR_first_12 rfl (lv_at hl 2 rfl) ?_
        refine lv_iload hx hb dR_first_13 (lv_at hl 0 rfl) ?_
        refine lv_iload_n hx hb dR_first_15 rfl (lv_at hl 3 rfl) ?_
        refine lv_iload_n hx hb dR_first_16 rfl (lv_at hl 4 rfl) ?_
        refine gx_calli (va_runV (As := [.int (nI i), .int (nI w), .int (mq_who g)]) (rest := []) ⟨hx, hb, hml, hown, ht⟩ (k_R_isAt l (x := i) (by omega) hw hg hV0) (cwV 3 ht (mx_gV (C := "MessageCrossbarModel") mw_550 mw_552 ms_17 mw_6 mw_553) rfl rfl rfl (by decide +kernel) ⟨Nat.le_of_ble_eq_true rfl, Nat.le_of_ble_eq_true rfl⟩) (gx_preV rx_ok hV hZ hS (q := (mR_R, mT_R, 20)) (by decide) rx_E_0 rfl [.int (nI i), .int (nI w), .int (mq_who g)]) rfl rfl hl.1 rfl (lv_room (Nat.le_of_ble_eq_true rfl)) dR_first_17 ⟨Nat.le_of_ble_eq_true rfl, Nat.le_of_ble_eq_true rfl⟩) hV hS (fun r1 σ' τ' H locs hp hV hS => ?_)
        obtain ⟨rfl, hu⟩ := hp
        cases hu
        cases hq : mq_fst (mq_is ρ w g) (ρ 2) i with
        | none =>
          have hl : lv_has ls 5 [(4, .int (nI i)), (3, .int (-1)), (0, .ref (ad 0)), (1, .int (nI w)), (2, .int (mq_who g))] := by rw [hq] at hl; exact hl
          refine gx_ifb_eq (q := mq_is ρ w g i = true) (tgt := 46) hx hb dR_first_20 (by decide) (fun h20 => ?_) (fun h20 => ?_)
          · refine lv_iinc (k := 0) (v := (nI (i + 1))) (lv' := [(4, .int (nI (i + 1))), (3, .int (-1)), (0, .ref (ad 0)), (1, .int (nI w)), (2, .int (mq_who g))]) hx hb dR_first_46 hl rfl (nI_succ i).symm (by decide) rfl (fun ls hl => ?_)
            refine lv_goto (tgt := 5) hx hb dR_first_49 (by decide) ?_
            exact ih (i + 1) H locs ls (by omega) hV hS (by rw [mq_fst_no (by simpa using h20), hq]; exact (lv_sub hl [0, 1, 2, 3, 4] rfl))
          · refine lv_iload_n hx hb dR_first_23 rfl (lv_at hl 1 rfl) ?_
            refine lv_if_lt (tgt := 43) hx hb dR_first_24 (by decide) (fun h24 => ?_) (fun h24 => ?_)
            · refine lv_iload hx hb dR_first_43 (lv_at hl 0 rfl) ?_
              refine lv_istore_n (lv' := [(3, .int (nI i)), (4, .int (nI i)), (0, .ref (ad 0)), (1, .int (nI w)), (2, .int (mq_who g))]) hx hb dR_first_45 rfl hl (by decide) rfl (fun ls hl => ?_)
              refine lv_iinc (k := 1) (v := (nI (i + 1))) (lv' := [(4, .int (nI (i + 1))), (3, .int (nI i)), (0, .ref (ad 0)), (1, .int (nI w)), (2, .int (mq_who g))]) hx hb dR_first_46 hl rfl (nI_succ i).symm (by decide) rfl (fun ls hl => ?_)
              refine lv_goto (tgt := 5) hx hb dR_first_49 (by decide) ?_
              exact ih (i + 1) H locs ls (by omega) hV hS (by rw [mq_fst_new h20 hq]; exact (lv_sub hl [0, 1, 2, 3, 4] rfl))
            · exact absurd (show (-1 : Int32) < 0 by decide) h24
        | some y =>
          obtain ⟨hy1, hy2, -⟩ := (mq_fst_sp (p := mq_is ρ w g) (s := ρ 2) i).1 y hq
          have hl : lv_has ls 5 [(4, .int (nI i)), (3, .int (nI y)), (0, .ref (ad 0)), (1, .int (nI w)), (2, .int (mq_who g))] := by rw [hq] at hl; exact hl
          refine gx_ifb_eq (q := mq_is ρ w g i = true) (tgt := 46) hx hb dR_first_20 (by decide) (fun h20 => ?_) (fun h20 => ?_)
          · refine lv_iinc (k := 0) (v := (nI (i + 1))) (lv' := [(4, .int (nI (i + 1))), (3, .int (nI y)), (0, .ref (ad 0)), (1, .int (nI w)), (2, .int (mq_who g))]) hx hb dR_first_46 hl rfl (nI_succ i).symm (by decide) rfl (fun ls hl => ?_)
            refine lv_goto (tgt := 5) hx hb dR_first_49 (by decide) ?_
            exact ih (i + 1) H locs ls (by omega) hV hS (by rw [mq_fst_no (by simpa using h20), hq]; exact (lv_sub hl [0, 1, 2, 3, 4] rfl))
          · refine lv_iload_n hx hb dR_first_23 rfl (lv_at hl 1 rfl) ?_
            refine lv_if_lt (tgt := 43) hx hb dR_first_24 (by decide) (fun h24 => ?_) (fun h24 => ?_)
            · exact absurd h24 (nI_pos (by omega))
            · refine lv_aload_n hx hb dR_first_27 rfl (lv_at hl 2 rfl) ?_
              refine gx_get (C := mR_R) (T := mT_R) (N' := 20) hx hb ht mh_R hown hV (by decide) rx_E_0 rfl 2 (by decide) (ht _ mw_474) (fun _ h => h) rfl dR_first_28 ?_
              refine lv_iload hx hb dR_first_31 (lv_at hl 0 rfl) ?_
              refine gx_ialdv (v := nI (ρ 2 i)) hx hb hV (by decide) 0 rx_E_2 rfl i (by omega) (by decide) rfl rfl dR_first_33 ?_
              refine lv_aload_n hx hb dR_first_34 rfl (lv_at hl 2 rfl) ?_
              refine gx_get (C := mR_R) (T := mT_R) (N' := 20) hx hb ht mh_R hown hV (by decide) rx_E_0 rfl 2 (by decide) (ht _ mw_474) (fun _ h => h) rfl dR_first_35 ?_
              refine lv_iload_n hx hb dR_first_38 rfl (lv_at hl 1 rfl) ?_
              refine gx_ialdv (v := nI (ρ 2 y)) hx hb hV (by decide) 0 rx_E_2 rfl y (by omega) (by decide) rfl rfl dR_first_39 ?_
              refine gx_icmp_ge (a := (ρ 2 i)) (b := (ρ 2 y)) (tgt := 46) hx hb dR_first_40 (by decide) (((hV0.1 i (by omega)).2 (by have := (mq_is_iff.mp h20).1; omega)).1) (((hV0.1 y (by omega)).2 (by have := (mq_is_iff.mp hy2).1; omega)).1) (fun h40 => ?_) (fun h40 => ?_)
              · refine lv_iinc (k := 0) (v := (nI (i + 1))) (lv' := [(4, .int (nI (i + 1))), (3, .int (nI y)), (0, .ref (ad 0)), (1, .int (nI w)), (2, .int (mq_who g))]) hx hb dR_first_46 hl rfl (nI_succ i).symm (by decide) rfl (fun ls hl => ?_)
                refine lv_goto (tgt := 5) hx hb dR_first_49 (by decide) ?_
                exact ih (i + 1) H locs ls (by omega) hV hS (by rw [mq_fst_old hq (by omega), hq]; exact (lv_sub hl [0, 1, 2, 3, 4] rfl))
              · refine lv_iload hx hb dR_first_43 (lv_at hl 0 rfl) ?_
                refine lv_istore_n (lv' := [(3, .int (nI i)), (4, .int (nI i)), (0, .ref (ad 0)), (1, .int (nI w)), (2, .int (mq_who g))]) hx hb dR_first_45 rfl hl (by decide) rfl (fun ls hl => ?_)
                refine lv_iinc (k := 1) (v := (nI (i + 1))) (lv' := [(4, .int (nI (i + 1))), (3, .int (nI i)), (0, .ref (ad 0)), (1, .int (nI w)), (2, .int (mq_who g))]) hx hb dR_first_46 hl rfl (nI_succ i).symm (by decide) rfl (fun ls hl => ?_)
                refine lv_goto (tgt := 5) hx hb dR_first_49 (by decide) ?_
                exact ih (i + 1) H locs ls (by omega) hV hS (by rw [mq_fst_less h20 hq h40]; exact (lv_sub hl [0, 1, 2, 3, 4] rfl))
  exact loop 24 0 _ _ ls (by omega) hV hS hl

set_option maxHeartbeats 4000000 in
set_option maxRecDepth 100000 in
theorem k_R_go (l : Launch) {D : va_G} {K : Nat → ClassId} {ad : Nat → Nat} {ρ : Nat → Nat → Nat} {μ : Nat → Int64} {lt : Int64} {x w : Nat} (hx2 : x < 24) : Met l yR_go (Cond.code yR_go prog_7_method_10_code 3 none :: mx_T) { frames := 0, cells := 0, slots := 0, locals := 0 } (va_Pc [.ref (ad 0), .int (nI x), .int (nI w)] (rx_P D K ad (mq_n ρ) (rx_t μ lt))) (rx_Qv D K ad (fun u => u = (mq_n (mq_go ρ x w), rx_t μ lt))) 0 0 (gx_A ad 17) := by
  refine gx_met (by decide) rfl (Nat.le_of_ble_eq_true rfl) ?_
  intro pg ev s mid as below mth c ls hx hb hr hml ht hown hlk hnm hargs hB hl
  obtain ⟨hV, hZ⟩ := hB
  have hS : va_S (gx_A ad 17) s.heap s.heap [] := va_S.rf
  have hl : lv_has ls 3 [(0, .ref (ad 0)), (1, .int (nI x)), (2, .int (nI w))] := hl
  refine lv_aload_n hx hb dR_go_0 rfl (lv_at hl 0 rfl) ?_
  refine gx_get (C := mR_R) (T := mT_R) (N' := 20) hx hb ht mh_R hown hV (by decide) rx_E_0 rfl 1 (by decide) (ht _ mw_473) (fun _ h => h) rfl dR_go_1 ?_
  refine lv_iload_n hx hb dR_go_4 rfl (lv_at hl 1 rfl) ?_
  refine lv_iload_n hx hb dR_go_5 rfl (lv_at hl 2 rfl) ?_
  refine gx_iast rx_loc hx hb hV hS (by decide) 0 rx_E_1 rfl x hx2 (by decide) rfl dR_go_6 (cx_up (mq_n ρ) 1 x (nI w)) (by rw [rx_E_1, cx_up_upd]) (fun _ h => cx_up_J h) (fun H locs hV hS => ?_)
  rw [rx_up] at hV
  refine lv_aload_n hx hb dR_go_7 rfl (lv_at hl 0 rfl) ?_
  refine gx_get (C := mR_R) (T := mT_R) (N' := 20) hx hb ht mh_R hown hV (by decide) rx_E_0 rfl 2 (by decide) (ht _ mw_474) (fun _ h => h) rfl dR_go_8 ?_
  refine lv_iload_n hx hb dR_go_11 rfl (lv_at hl 1 rfl) ?_
  refine lv_aload_n hx hb dR_go_12 rfl (lv_at hl 0 rfl) ?_
  refine gx_get (C := mR_R) (T := mT_R) (N' := 20) (v := .int (nI ((mq_up ρ 1 x w) 0 1))) hx hb ht mh_R hown hV (by decide) rx_E_0 rfl 9 (by decide) (ht _ mw_481) (fun _ h => h) rfl dR_go_13 ?_
  refine gx_iast rx_loc hx hb hV hS (by decide) 0 rx_E_2 rfl x hx2 (by decide) rfl dR_go_16 (cx_up (mq_n (mq_up ρ 1 x w)) 2 x (nI ((mq_up ρ 1 x w) 0 1))) (by rw [rx_E_2, cx_up_upd]) (fun _ h => cx_up_J h) (fun H locs hV hS => ?_)
  rw [rx_up] at hV
  refine lv_aload_n hx hb dR_go_17 rfl (lv_at hl 0 rfl) ?_
  refine lv_dup hx hb dR_go_18 rfl ?_
  refine gx_get (C := mR_R) (T := mT_R) (N' := 20) (v := .int (nI ((mq_up (mq_up ρ 1 x w) 2 x ((mq_up ρ 1 x w) 0 1)) 0 1))) hx hb ht mh_R hown hV (by decide) rx_E_0 rfl 9 (by decide) (ht _ mw_481) (fun _ h => h) rfl dR_go_19 ?_
  refine lv_iconst (v := nI 1) hx hb dR_go_22 (by decide) ?_
  refine gx_iadd (a := ((mq_up (mq_up ρ 1 x w) 2 x ((mq_up ρ 1 x w) 0 1)) 0 1)) (b := 1) hx hb dR_go_23 ?_
  refine gx_put rx_loc (C := mR_R) (T := mT_R) (N' := 20) (ty := .int) (v := .int (nI (((mq_up (mq_up ρ 1 x w) 2 x ((mq_up ρ 1 x w) 0 1)) 0 1) + 1))) hx hb ht mh_R mt_R mk_R mn_R hown hV hS (by decide) rx_E_0 rfl 9 (by decide) (ht _ mw_481) (fun _ h => h) rfl (by decide +kernel) rfl rfl (Nat.le_of_ble_eq_true rfl) dR_go_24 (cx_up (mq_n (mq_up (mq_up ρ 1 x w) 2 x ((mq_up ρ 1 x w) 0 1))) 0 1 (nI (((mq_up (mq_up ρ 1 x w) 2 x ((mq_up ρ 1 x w) 0 1)) 0 1) + 1))) (rx_t μ lt) (by rw [rx_E_0]; simp [cx_up]) (fun _ h => cx_up_J h) (fun _ _ => rfl) (fun H locs hV hS => ?_)
  rw [rx_up] at hV
  refine lv_aload_n hx hb dR_go_27 rfl (lv_at hl 0 rfl) ?_
  refine lv_iconst (v := nI 1) hx hb dR_go_28 (by decide) ?_
  refine gx_put rx_loc (C := mR_R) (T := mT_R) (N' := 20) (ty := .boolean) (v := .int (nI 1)) hx hb ht mh_R mt_R mk_R mn_R hown hV hS (by decide) rx_E_0 rfl 19 (by decide) (ht _ mw_491) (fun _ h => h) rfl (by decide +kernel) rfl rfl (Nat.le_of_ble_eq_true rfl) dR_go_29 (cx_up (mq_n (mq_up (mq_up (mq_up ρ 1 x w) 2 x ((mq_up ρ 1 x w) 0 1)) 0 1 (((mq_up (mq_up ρ 1 x w) 2 x ((mq_up ρ 1 x w) 0 1)) 0 1) + 1))) 0 2 (nI 1)) (rx_t μ lt) (by rw [rx_E_0]; simp [cx_up]) (fun _ h => cx_up_J h) (fun _ _ => rfl) (fun H locs hV hS => ?_)
  rw [rx_up] at hV
  exact gx_vret hx hb hr hV hS rfl dR_go_32 hlk

set_option maxHeartbeats 4000000 in
set_option maxRecDepth 100000 in
theorem k_R_holder (l : Launch) {D : va_G} {K : Nat → ClassId} {ad : Nat → Nat} {ρ : Nat → Nat → Nat} {μ : Nat → Int64} {lt : Int64} {p i : Nat} (hp0 : p < 4) (hi : i < 4) (hV0 : mq_V ρ) : Met l yR_holder (Cond.code yR_holder prog_7_method_11_code 4 (some .int) :: mx_T) { frames := 1, cells := 0, slots := 0, locals := 20 } (va_Pc [.ref (ad 0), .int (nI p), .int (nI i)] (rx_P D K ad (mq_n ρ) (rx_t μ lt))) (rx_Qi D K ad (fun rr u => rr = mq_oI (mq_holder ρ p i) ∧ u = (mq_n ρ, rx_t μ lt))) 0 0 (gx_A ad 17) := by
  refine gx_met (by decide) rfl (Nat.le_of_ble_eq_true rfl) ?_
  intro pg ev s mid as below mth c ls hx hb hr hml ht hown hlk hnm hargs hB hl
  obtain ⟨hV, hZ⟩ := hB
  have hS : va_S (gx_A ad 17) s.heap s.heap [] := va_S.rf
  have hl : lv_has ls 4 [(0, .ref (ad 0)), (1, .int (nI p)), (2, .int (nI i))] := hl
  refine lv_iconst (v := nI 0) hx hb dR_holder_0 (by decide) ?_
  refine lv_istore_n (lv' := [(3, .int (nI 0)), (0, .ref (ad 0)), (1, .int (nI p)), (2, .int (nI i))]) hx hb dR_holder_1 rfl hl (by decide) rfl (fun ls hl => ?_)
  have loop : ∀ (k : Nat) (x : Nat) (H : Heap) (locs : List Loc) (ls : Array Slot), x + k = 24 → mq_fnd (mq_hold ρ p i) 0 24 = mq_fnd (mq_hold ρ p i) x k → gx_V D mx_cl (mx_tys K) (rx_E ad K) ad 17 (mq_n ρ) (rx_t μ lt) s H → va_S (gx_A ad 17) s.heap H locs → lv_has ls 4 [(3, .int (nI x)), (0, .ref (ad 0)), (1, .int (nI p)), (2, .int (nI i))] → W pg l ev (headSpec (Cond.code yR_holder prog_7_method_11_code 4 (some .int) :: mx_T) { frames := 1, cells := 0, slots := 0, locals := 20 }).room s mid as below mth c H locs 0 0 (MQ below (rx_Qi D K ad (fun rr u => rr = mq_oI (mq_holder ρ p i) ∧ u = (mq_n ρ, rx_t μ lt))) as s 0 0 (gx_A ad 17)) (F0 mid 2 ls []) := by
    intro k
    induction k with
    | zero =>
      intro x H locs ls hk hf hV hS hl
      refine lv_iload_n hx hb dR_holder_2 rfl (lv_at hl 0 rfl) ?_
      refine lv_bipush (v := nI 24) hx hb dR_holder_3 (by decide) ?_
      refine gx_icmp_ge (a := x) (b := 24) (tgt := 59) hx hb dR_holder_5 (by decide) (by omega) (by omega) (fun h5 => ?_) (fun h5 => ?_)
      · refine lv_iconst (v := -1) hx hb dR_holder_59 (by decide) ?_
        exact gx_iret hx hb hr hV hS ⟨by show (-1 : Int32) = mq_oI (mq_fnd _ 0 24); rw [hf]; rfl, rfl⟩ dR_holder_60 hlk
      · exact absurd h5 (by omega)
    | succ k ih =>
      intro x H locs ls hk hf hV hS hl
      refine lv_iload_n hx hb dR_holder_2 rfl (lv_at hl 0 rfl) ?_
      refine lv_bipush (v := nI 24) hx hb dR_holder_3 (by decide) ?_
      refine gx_icmp_ge (a := x) (b := 24) (tgt := 59) hx hb dR_holder_5 (by decide) (by omega) (by omega) (fun h5 => ?_) (fun h5 => ?_)
      · exact absurd h5 (by omega)
      · refine lv_aload_n hx hb dR_holder_8 rfl (lv_at hl 1 rfl) ?_
        refine gx_get (C := mR_R) (T := mT_R) (N' := 20) hx hb ht mh_R hown hV (by decide) rx_E_0 rfl 1 (by decide) (ht _ mw_473) (fun _ h => h) rfl dR_holder_9 ?_
        refine lv_iload_n hx hb dR_holder_12 rfl (lv_at hl 0 rfl) ?_
        refine gx_ialdv (v := nI (ρ 1 x)) hx hb hV (by decide) 0 rx_E_1 rfl x (by omega) (by decide) rfl rfl dR_holder_13 ?_
        refine lv_iconst (v := nI 2) hx hb dR_holder_14 (by decide) ?_
        refine gx_icmp_lt (a := (ρ 1 x)) (b := 2) (tgt := 53) hx hb dR_holder_15 (by decide) (by have := (hV0.1 x (by omega)).1; omega) (by omega) (fun h15 => ?_) (fun h15 => ?_)
        · refine lv_iinc (k := 0) (v := (nI (x + 1))) (lv' := [(3, .int (nI (x + 1))), (0, .ref (ad 0)), (1, .int (nI p)), (2, .int (nI i))]) hx hb dR_holder_53 hl rfl (nI_succ x).symm (by decide) rfl (fun ls hl => ?_)
          refine lv_goto (tgt := 2) hx hb dR_holder_56 (by decide) ?_
          exact ih (x + 1) H locs ls (by omega) (by rw [hf, mq_fnd_f (mq_hold_f.mpr (fun q => absurd q.1 (by omega)))]) hV hS (lv_sub hl [0, 1, 2, 3] rfl)
        · refine lv_aload_n hx hb dR_holder_18 rfl (lv_at hl 1 rfl) ?_
          refine gx_get (C := mR_R) (T := mT_R) (N' := 20) hx hb ht mh_R hown hV (by decide) rx_E_0 rfl 1 (by decide) (ht _ mw_473) (fun _ h => h) rfl dR_holder_19 ?_
          refine lv_iload_n hx hb dR_holder_22 rfl (lv_at hl 0 rfl) ?_
          refine gx_ialdv (v := nI (ρ 1 x)) hx hb hV (by decide) 0 rx_E_1 rfl x (by omega) (by decide) rfl rfl dR_holder_23 ?_
          refine lv_iconst (v := nI 4) hx hb dR_holder_24 (by decide) ?_
          refine gx_icmp_gt (a := (ρ 1 x)) (b := 4) (tgt := 53) hx hb dR_holder_25 (by decide) (by have := (hV0.1 x (by omega)).1; omega) (by omega) (fun h25 => ?_) (fun h25 => ?_)
          · refine lv_iinc (k := 0) (v := (nI (x + 1))) (lv' := [(3, .int (nI (x + 1))), (0, .ref (ad 0)), (1, .int (nI p)), (2, .int (nI i))]) hx hb dR_holder_53 hl rfl (nI_succ x).symm (by decide) rfl (fun ls hl => ?_)
            refine lv_goto (tgt := 2) hx hb dR_holder_56 (by decide) ?_
            exact ih (x + 1) H locs ls (by omega) (by rw [hf, mq_fnd_f (mq_hold_f.mpr (fun q => absurd q.2.1 (by omega)))]) hV hS (lv_sub hl [0, 1, 2, 3] rfl)
          · refine lv_aload_n hx hb dR_holder_28 rfl (lv_at hl 1 rfl) ?_
            refine gx_get (C := mR_R) (T := mT_R) (N' := 20) hx hb ht mh_R hown hV (by decide) rx_E_0 rfl 5 (by decide) (ht _ mw_477) (fun _ h => h) rfl dR_holder_29 ?_
            refine lv_iload_n hx hb dR_holder_32 rfl (lv_at hl 0 rfl) ?_
            refine gx_ialdv (v := nI (ρ 5 x)) hx hb hV (by decide) 0 rx_E_5 rfl x (by omega) (by decide) rfl rfl dR_holder_33 ?_
            refine gx_callp (va_runS (As := [.int (nI (ρ 5 x))]) (rest := []) ⟨hx, hb, hml, hown, ht⟩ (k_R_portOf l ((hV0.1 x (by omega)).2 (by omega)).2.2.2.1) (cwS 1 ht (mx_gS mw_554 mw_555 mw_6 mw_556) rfl rfl rfl (by decide +kernel) ⟨Nat.le_of_ble_eq_true rfl, Nat.le_of_ble_eq_true rfl⟩) (gx_preP [.int (nI (ρ 5 x))]) rfl rfl hl.1 rfl (lv_room (Nat.le_of_ble_eq_true rfl)) dR_holder_34 ⟨Nat.le_of_ble_eq_true rfl, Nat.le_of_ble_eq_true rfl⟩) hV hS (fun r1 H locs hp hV hS => ?_)
            subst hp
            refine lv_iload_n hx hb dR_holder_37 rfl (lv_at hl 2 rfl) ?_
            refine gx_icmp_ne (a := (mq_port (ρ 5 x))) (b := p) (tgt := 53) hx hb dR_holder_38 (by decide) (by have := mq_port_lt (ρ 5 x); omega) (by omega) (fun h38 => ?_) (fun h38 => ?_)
            · refine lv_iinc (k := 0) (v := (nI (x + 1))) (lv' := [(3, .int (nI (x + 1))), (0, .ref (ad 0)), (1, .int (nI p)), (2, .int (nI i))]) hx hb dR_holder_53 hl rfl (nI_succ x).symm (by decide) rfl (fun ls hl => ?_)
              refine lv_goto (tgt := 2) hx hb dR_holder_56 (by decide) ?_
              exact ih (x + 1) H locs ls (by omega) (by rw [hf, mq_fnd_f (mq_hold_f.mpr (fun q => h38 q.2.2.1))]) hV hS (lv_sub hl [0, 1, 2, 3] rfl)
            · refine lv_aload_n hx hb dR_holder_41 rfl (lv_at hl 1 rfl) ?_
              refine gx_get (C := mR_R) (T := mT_R) (N' := 20) hx hb ht mh_R hown hV (by decide) rx_E_0 rfl 8 (by decide) (ht _ mw_480) (fun _ h => h) rfl dR_holder_42 ?_
              refine lv_iload_n hx hb dR_holder_45 rfl (lv_at hl 0 rfl) ?_
              refine gx_ialdv (v := nI (ρ 8 x)) hx hb hV (by decide) 0 rx_E_8 rfl x (by omega) (by decide) rfl rfl dR_holder_46 ?_
              refine lv_iload_n hx hb dR_holder_47 rfl (lv_at hl 3 rfl) ?_
              refine gx_icmp_ne (a := (ρ 8 x)) (b := i) (tgt := 53) hx hb dR_holder_48 (by decide) (by have := ((hV0.1 x (by omega)).2 (by omega)).2.2.2.2.2.2 h15 h25; omega) (by omega) (fun h48 => ?_) (fun h48 => ?_)
              · refine lv_iinc (k := 0) (v := (nI (x + 1))) (lv' := [(3, .int (nI (x + 1))), (0, .ref (ad 0)), (1, .int (nI p)), (2, .int (nI i))]) hx hb dR_holder_53 hl rfl (nI_succ x).symm (by decide) rfl (fun ls hl => ?_)
                refine lv_goto (tgt := 2) hx hb dR_holder_56 (by decide) ?_
                exact ih (x + 1) H locs ls (by omega) (by rw [hf, mq_fnd_f (mq_hold_f.mpr (fun q => h48 q.2.2.2))]) hV hS (lv_sub hl [0, 1, 2, 3] rfl)
              · refine lv_iload_n hx hb dR_holder_51 rfl (lv_at hl 0 rfl) ?_
                exact gx_iret hx hb hr hV hS ⟨by show nI x = mq_oI (mq_fnd _ 0 24); rw [hf, mq_fnd_t (mq_hold_iff.mpr ⟨h15, h25, h38, h48⟩)]; rfl, rfl⟩ dR_holder_52 hlk
  exact loop 24 0 _ _ ls (by omega) rfl hV hS hl

set_option maxHeartbeats 4000000 in
set_option maxRecDepth 100000 in
theorem k_R_freeId (l : Launch) {D : va_G} {K : Nat → ClassId} {ad : Nat → Nat} {ρ : Nat → Nat → Nat} {μ : Nat → Int64} {lt : Int64} {p : Nat} (hp0 : p < 4) (hV0 : mq_V ρ) : Met l yR_freeId (Cond.code yR_freeId prog_7_method_12_code 3 (some .int) :: mx_T) { frames := 2, cells := 0, slots := 0, locals := 43 } (va_Pc [.ref (ad 0), .int (nI p)] (rx_P D K ad (mq_n ρ) (rx_t μ lt))) (rx_Qi D K ad (fun rr u => rr = mq_oI (mq_free ρ p) ∧ u = (mq_n ρ, rx_t μ lt))) 0 0 (gx_A ad 17) := by
  refine gx_met (by decide) rfl (Nat.le_of_ble_eq_true rfl) ?_
  intro pg ev s mid as below mth c ls hx hb hr hml ht hown hlk hnm hargs hB hl
  obtain ⟨hV, hZ⟩ := hB
  have hS : va_S (gx_A ad 17) s.heap s.heap [] := va_S.rf
  have hl : lv_has ls 3 [(0, .ref (ad 0)), (1, .int (nI p))] := hl
  refine lv_iconst (v := nI 0) hx hb dR_freeId_0 (by decide) ?_
  refine lv_istore_n (lv' := [(2, .int (nI 0)), (0, .ref (ad 0)), (1, .int (nI p))]) hx hb dR_freeId_1 rfl hl (by decide) rfl (fun ls hl => ?_)
  have loop : ∀ (k : Nat) (i : Nat) (H : Heap) (locs : List Loc) (ls : Array Slot), i + k = 4 → mq_fnd (fun i => (mq_holder ρ p i).isNone) 0 4 = mq_fnd (fun i => (mq_holder ρ p i).isNone) i k → gx_V D mx_cl (mx_tys K) (rx_E ad K) ad 17 (mq_n ρ) (rx_t μ lt) s H → va_S (gx_A ad 17) s.heap H locs → lv_has ls 3 [(2, .int (nI i)), (0, .ref (ad 0)), (1, .int (nI p))] → W pg l ev (headSpec (Cond.code yR_freeId prog_7_method_12_code 3 (some .int) :: mx_T) { frames := 2, cells := 0, slots := 0, locals := 43 }).room s mid as below mth c H locs 0 0 (MQ below (rx_Qi D K ad (fun rr u => rr = mq_oI (mq_free ρ p) ∧ u = (mq_n ρ, rx_t μ lt))) as s 0 0 (gx_A ad 17)) (F0 mid 2 ls []) := by
    intro k
    induction k with
    | zero =>
      intro i H locs ls hk hf hV hS hl
      refine lv_iload_n hx hb dR_freeId_2 rfl (lv_at hl 0 rfl) ?_
      refine lv_iconst (v := nI 4) hx hb dR_freeId_3 (by decide) ?_
      refine gx_icmp_ge (a := i) (b := 4) (tgt := 24) hx hb dR_freeId_4 (by decide) (by omega) (by omega) (fun h4 => ?_) (fun h4 => ?_)
      · refine lv_iconst (v := -1) hx hb dR_freeId_24 (by decide) ?_
        exact gx_iret hx hb hr hV hS ⟨by show (-1 : Int32) = mq_oI (mq_fnd _ 0 4); rw [hf]; rfl, rfl⟩ dR_freeId_25 hlk
      · exact absurd h4 (by omega)
    | succ k ih =>
      intro i H locs ls hk hf hV hS hl
      refine lv_iload_n hx hb dR_freeId_2 rfl (lv_at hl 0 rfl) ?_
      refine lv_iconst (v := nI 4) hx hb dR_freeId_3 (by decide) ?_
      refine gx_icmp_ge (a := i) (b := 4) (tgt := 24) hx hb dR_freeId_4 (by decide) (by omega) (by omega) (fun h4 => ?_) (fun h4 => ?_)
      · exact absurd h4 (by omega)
      · refine lv_aload_n hx hb dR_freeId_7 rfl (lv_at hl 1 rfl) ?_
        refine lv_iload_n hx hb dR_freeId_8 rfl (lv_at hl 2 rfl) ?_
        refine lv_iload_n hx hb dR_freeId_9 rfl (lv_at hl 0 rfl) ?_
        refine gx_calli (va_runV (As := [.int (nI p), .int (nI i)]) (rest := []) ⟨hx, hb, hml, hown, ht⟩ (k_R_holder l hp0 (i := i) (by omega) hV0) (cwV 2 ht (mx_gV (C := "MessageCrossbarModel") mw_600 mw_602 ms_25 mw_6 mw_603) rfl rfl rfl (by decide +kernel) ⟨Nat.le_of_ble_eq_true rfl, Nat.le_of_ble_eq_true rfl⟩) (gx_preV rx_ok hV hZ hS (q := (mR_R, mT_R, 20)) (by decide) rx_E_0 rfl [.int (nI p), .int (nI i)]) rfl rfl hl.1 rfl (lv_room (Nat.le_of_ble_eq_true rfl)) dR_freeId_10 ⟨Nat.le_of_ble_eq_true rfl, Nat.le_of_ble_eq_true rfl⟩) hV hS (fun r1 σ' τ' H locs hp hV hS => ?_)
        obtain ⟨rfl, hu⟩ := hp
        cases hu
        cases hq : mq_holder ρ p i with
        | none =>
          refine lv_if_ge (tgt := 18) hx hb dR_freeId_13 (by decide) (fun h13 => ?_) (fun h13 => ?_)
          · exact absurd h13 (by decide)
          · refine lv_iload_n hx hb dR_freeId_16 rfl (lv_at hl 0 rfl) ?_
            exact gx_iret hx hb hr hV hS ⟨by show nI i = mq_oI (mq_fnd _ 0 4); rw [hf, mq_fnd_t (by rw [hq]; rfl)]; rfl, rfl⟩ dR_freeId_17 hlk
        | some y =>
          have hy := mq_holder_lt hq
          refine lv_if_ge (tgt := 18) hx hb dR_freeId_13 (by decide) (fun h13 => ?_) (fun h13 => ?_)
          · refine lv_iinc (k := 0) (v := (nI (i + 1))) (lv' := [(2, .int (nI (i + 1))), (0, .ref (ad 0)), (1, .int (nI p))]) hx hb dR_freeId_18 hl rfl (nI_succ i).symm (by decide) rfl (fun ls hl => ?_)
            refine lv_goto (tgt := 2) hx hb dR_freeId_21 (by decide) ?_
            exact ih (i + 1) H locs ls (by omega) (by rw [hf, mq_fnd_f (by rw [hq]; rfl)]) hV hS (lv_sub hl [0, 1, 2] rfl)
          · exact absurd (nI_pos' (by omega)) h13
  exact loop 4 0 _ _ ls (by omega) rfl hV hS hl
end
