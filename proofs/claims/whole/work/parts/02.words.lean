/-! names of methods -/
def yX_init : MethodName := ⟨"MessageCrossbar", "<init>", "()V"⟩
def yX_request : MethodName := ⟨"MessageCrossbar", "request", "(IIIIIJI)I"⟩
def yX_accept : MethodName := ⟨"MessageCrossbar", "accept", "(IZ)Z"⟩
def yX_tick : MethodName := ⟨"MessageCrossbar", "tick", "(I)I"⟩
def yX_take : MethodName := ⟨"MessageCrossbar", "take", "(I)I"⟩
def yX_data : MethodName := ⟨"MessageCrossbar", "data", "()J"⟩
def yX_port : MethodName := ⟨"MessageCrossbar", "port", "(II)I"⟩
def yX_owner : MethodName := ⟨"MessageCrossbar", "owner", "(II)I"⟩
def yX_master : MethodName := ⟨"MessageCrossbar", "master", "(II)I"⟩
def yX_memory : MethodName := ⟨"MessageCrossbar", "memory", "(I)I"⟩
def yX_done : MethodName := ⟨"MessageCrossbar", "done", "(I)I"⟩
def yX_count : MethodName := ⟨"MessageCrossbar", "count", "(I)I"⟩
def yX_runTick : MethodName := ⟨"MessageCrossbar", "runTick", "()Z"⟩
def yX_anyJobRuns : MethodName := ⟨"MessageCrossbar", "anyJobRuns", "()Z"⟩
def yX_countStillTicks : MethodName := ⟨"MessageCrossbar", "countStillTicks", "(I)V"⟩
def yX_moveAnswers : MethodName := ⟨"MessageCrossbar", "moveAnswers", "()Z"⟩
def yX_nextAnsweringPort : MethodName := ⟨"MessageCrossbar", "nextAnsweringPort", "(I)I"⟩
def yX_moveAnswer : MethodName := ⟨"MessageCrossbar", "moveAnswer", "(II)V"⟩
def yX_servePorts : MethodName := ⟨"MessageCrossbar", "servePorts", "()Z"⟩
def yX_finishJob : MethodName := ⟨"MessageCrossbar", "finishJob", "(I)V"⟩
def yX_beginJob : MethodName := ⟨"MessageCrossbar", "beginJob", "(I)V"⟩
def yX_carryOut : MethodName := ⟨"MessageCrossbar", "carryOut", "(LMessageCrossbar$Message;)V"⟩
def yX_readBytes : MethodName := ⟨"MessageCrossbar", "readBytes", "(LMessageCrossbar$Message;)J"⟩
def yX_writeBytes : MethodName := ⟨"MessageCrossbar", "writeBytes", "(LMessageCrossbar$Message;)V"⟩
def yX_moveRequests : MethodName := ⟨"MessageCrossbar", "moveRequests", "()Z"⟩
def yX_nextRequestingMaster : MethodName := ⟨"MessageCrossbar", "nextRequestingMaster", "(I)I"⟩
def yX_moveRequest : MethodName := ⟨"MessageCrossbar", "moveRequest", "(II)V"⟩
def yX_isBelow : MethodName := ⟨"MessageCrossbar", "isBelow", "(II)Z"⟩
def yX_isAligned : MethodName := ⟨"MessageCrossbar", "isAligned", "(II)Z"⟩
def yX_masterOf : MethodName := ⟨"MessageCrossbar", "masterOf", "(I)I"⟩
def yX_sourceOf : MethodName := ⟨"MessageCrossbar", "sourceOf", "(I)I"⟩
def yX_logPlace : MethodName := ⟨"MessageCrossbar", "logPlace", "(I)I"⟩
def yX_stepBehind : MethodName := ⟨"MessageCrossbar", "stepBehind", "(III)I"⟩
def yR_init : MethodName := ⟨"MessageCrossbarModel", "<init>", "()V"⟩
def yR_thrown : MethodName := ⟨"MessageCrossbarModel", "thrown", "()I"⟩
def yR_in : MethodName := ⟨"MessageCrossbarModel", "in", "(II)Z"⟩
def yR_portOf : MethodName := ⟨"MessageCrossbarModel", "portOf", "(I)I"⟩
def yR_widthOf : MethodName := ⟨"MessageCrossbarModel", "widthOf", "(I)I"⟩
def yR_delayOf : MethodName := ⟨"MessageCrossbarModel", "delayOf", "(I)I"⟩
def yR_isAt : MethodName := ⟨"MessageCrossbarModel", "isAt", "(III)Z"⟩
def yR_many : MethodName := ⟨"MessageCrossbarModel", "many", "(II)I"⟩
def yR_first : MethodName := ⟨"MessageCrossbarModel", "first", "(II)I"⟩
def yR_go : MethodName := ⟨"MessageCrossbarModel", "go", "(II)V"⟩
def yR_holder : MethodName := ⟨"MessageCrossbarModel", "holder", "(II)I"⟩
def yR_freeId : MethodName := ⟨"MessageCrossbarModel", "freeId", "(I)I"⟩
def yR_request : MethodName := ⟨"MessageCrossbarModel", "request", "(IIIIIJI)I"⟩
def yR_accept : MethodName := ⟨"MessageCrossbarModel", "accept", "(IZ)Z"⟩
def yR_answers : MethodName := ⟨"MessageCrossbarModel", "answers", "(I)V"⟩
def yR_work : MethodName := ⟨"MessageCrossbarModel", "work", "(I)V"⟩
def yR_serve : MethodName := ⟨"MessageCrossbarModel", "serve", "(I)V"⟩
def yR_fetch : MethodName := ⟨"MessageCrossbarModel", "fetch", "(I)V"⟩
def yR_tick : MethodName := ⟨"MessageCrossbarModel", "tick", "(I)I"⟩
def yR_take : MethodName := ⟨"MessageCrossbarModel", "take", "(I)I"⟩
def yR_data : MethodName := ⟨"MessageCrossbarModel", "data", "()J"⟩
def yR_port : MethodName := ⟨"MessageCrossbarModel", "port", "(II)I"⟩
def yR_owner : MethodName := ⟨"MessageCrossbarModel", "owner", "(II)I"⟩
def yR_master : MethodName := ⟨"MessageCrossbarModel", "master", "(II)I"⟩
def yR_memory : MethodName := ⟨"MessageCrossbarModel", "memory", "(I)I"⟩
def yR_done : MethodName := ⟨"MessageCrossbarModel", "done", "(I)I"⟩
def yR_count : MethodName := ⟨"MessageCrossbarModel", "count", "(I)I"⟩
def yL_init : MethodName := ⟨"MessageCrossbar$Line", "<init>", "(I)V"⟩
def yL_isFull : MethodName := ⟨"MessageCrossbar$Line", "isFull", "()Z"⟩
def yL_first : MethodName := ⟨"MessageCrossbar$Line", "first", "()I"⟩
def yL_append : MethodName := ⟨"MessageCrossbar$Line", "append", "(I)V"⟩
def yL_removeFirst : MethodName := ⟨"MessageCrossbar$Line", "removeFirst", "()I"⟩
def yM_init : MethodName := ⟨"MessageCrossbar$Master", "<init>", "()V"⟩
def yM_hasInFlight : MethodName := ⟨"MessageCrossbar$Master", "hasInFlight", "(I)Z"⟩
def yM_hasRoomForAnswer : MethodName := ⟨"MessageCrossbar$Master", "hasRoomForAnswer", "()Z"⟩
def yG_init : MethodName := ⟨"MessageCrossbar$Message", "<init>", "()V"⟩
def yG_become : MethodName := ⟨"MessageCrossbar$Message", "become", "(IIIJI)V"⟩
def yG_size : MethodName := ⟨"MessageCrossbar$Message", "size", "()I"⟩
def yG_isDenied : MethodName := ⟨"MessageCrossbar$Message", "isDenied", "()Z"⟩
def yG_writesByte : MethodName := ⟨"MessageCrossbar$Message", "writesByte", "(I)Z"⟩
def yG_goesTo : MethodName := ⟨"MessageCrossbar$Message", "goesTo", "(I)Z"⟩
def yP_init : MethodName := ⟨"MessageCrossbar$Port", "<init>", "()V"⟩
def yP_countDown : MethodName := ⟨"MessageCrossbar$Port", "countDown", "()V"⟩
def yP_canFinishJob : MethodName := ⟨"MessageCrossbar$Port", "canFinishJob", "()Z"⟩
def yP_canBeginJob : MethodName := ⟨"MessageCrossbar$Port", "canBeginJob", "()Z"⟩
def yP_finishJob : MethodName := ⟨"MessageCrossbar$Port", "finishJob", "()I"⟩
def yP_hasRoomForRequest : MethodName := ⟨"MessageCrossbar$Port", "hasRoomForRequest", "()Z"⟩
def yP_idsInUse : MethodName := ⟨"MessageCrossbar$Port", "idsInUse", "()I"⟩
def yP_takeLeastId : MethodName := ⟨"MessageCrossbar$Port", "takeLeastId", "(I)V"⟩
def yP_releaseId : MethodName := ⟨"MessageCrossbar$Port", "releaseId", "(I)V"⟩
def yZ_request : MethodName := ⟨"MessageCrossbarLaw", "request", "(LMessageCrossbar;IIIIIJI[J)I"⟩
def yZ_accept : MethodName := ⟨"MessageCrossbarLaw", "accept", "(LMessageCrossbar;IZ[J)I"⟩
def yZ_tick : MethodName := ⟨"MessageCrossbarLaw", "tick", "(LMessageCrossbar;I[J)I"⟩
def yZ_take : MethodName := ⟨"MessageCrossbarLaw", "take", "(LMessageCrossbar;I[J)I"⟩
def yZ_port : MethodName := ⟨"MessageCrossbarLaw", "port", "(LMessageCrossbar;II[J)I"⟩
def yZ_owner : MethodName := ⟨"MessageCrossbarLaw", "owner", "(LMessageCrossbar;II[J)I"⟩
def yZ_master : MethodName := ⟨"MessageCrossbarLaw", "master", "(LMessageCrossbar;II[J)I"⟩
def yZ_memory : MethodName := ⟨"MessageCrossbarLaw", "memory", "(LMessageCrossbar;I[J)I"⟩
def yZ_law : MethodName := ⟨"MessageCrossbarLaw", "law", "([I)Z"⟩
/-! every good word of the tables -/
def mx_T : List Cond := lw_tbl.filter goodWord
theorem mx_in {w : Cond} {i : Nat} (h : tables_1[i]? = some w) (g : goodWord w = true) : w ∈ mx_T := List.mem_filter.mpr ⟨List.mem_append_right _ (List.mem_of_getElem? h), g⟩
theorem mx_se {y : MethodName} {n i : Nat} (h : lw_privs[i]? = some (y, n)) (g : goodWord (Cond.selects y.cls y y) = true) : Cond.selects y.cls y y ∈ mx_T := List.mem_filter.mpr ⟨List.mem_append_left _ (List.mem_map.mpr ⟨(y, n), List.mem_of_getElem? h, rfl⟩), g⟩
theorem mw_0 : Cond.initialized "MessageCrossbarLaw" ∈ mx_T := mx_in (i := 0) (by decide +kernel) rfl
theorem mw_1 : Cond.initialized "MessageCrossbar" ∈ mx_T := mx_in (i := 1) (by decide +kernel) rfl
theorem mw_2 : Cond.initialized "MessageCrossbar$Master" ∈ mx_T := mx_in (i := 2) (by decide +kernel) rfl
theorem mw_3 : Cond.initialized "MessageCrossbar$Line" ∈ mx_T := mx_in (i := 3) (by decide +kernel) rfl
theorem mw_4 : Cond.initialized "MessageCrossbar$Port" ∈ mx_T := mx_in (i := 4) (by decide +kernel) rfl
theorem mw_5 : Cond.initialized "MessageCrossbar$Message" ∈ mx_T := mx_in (i := 5) (by decide +kernel) rfl
theorem mw_6 : Cond.initialized "MessageCrossbarModel" ∈ mx_T := mx_in (i := 6) (by decide +kernel) rfl
theorem mw_7 : Cond.initialized "java/lang/Throwable" ∈ mx_T := mx_in (i := 7) (by decide +kernel) rfl
theorem mw_8 : Cond.initialized "java/lang/Exception" ∈ mx_T := mx_in (i := 8) (by decide +kernel) rfl
theorem mw_9 : Cond.initialized "java/lang/RuntimeException" ∈ mx_T := mx_in (i := 9) (by decide +kernel) rfl
theorem mw_10 : Cond.initialized "java/lang/IllegalArgumentException" ∈ mx_T := mx_in (i := 10) (by decide +kernel) rfl
theorem mw_11 : Cond.initialized "java/lang/Math" ∈ mx_T := mx_in (i := 11) (by decide +kernel) rfl
theorem mw_12 : Cond.initialized "java/lang/IndexOutOfBoundsException" ∈ mx_T := mx_in (i := 12) (by decide +kernel) rfl
theorem mw_13 : Cond.classLink "MessageCrossbarLaw" 8 "MessageCrossbar" ∈ mx_T := mx_in (i := 13) (by decide +kernel) rfl
theorem mw_14 : Cond.instantiable "MessageCrossbar" 7 ∈ mx_T := mx_in (i := 14) (by decide +kernel) rfl
theorem mw_15 : Cond.methodLink "MessageCrossbarLaw" 41 yX_init ∈ mx_T := mx_in (i := 15) (by decide +kernel) rfl
theorem mw_16 : Cond.instanceMethod yX_init ∈ mx_T := mx_in (i := 16) (by decide +kernel) rfl
theorem mw_17 : Cond.code yX_init prog_1_method_1_code 2 none ∈ mx_T := mx_in (i := 17) (by decide +kernel) rfl
theorem mw_18 : Cond.methodLink "MessageCrossbar" 1 objectInit ∈ mx_T := mx_in (i := 18) (by decide +kernel) rfl
theorem mw_19 : Cond.instanceMethod objectInit ∈ mx_T := mx_in (i := 19) (by decide +kernel) rfl
theorem mw_20 : Cond.code objectInit object_method_1_code 1 none ∈ mx_T := mx_in (i := 20) (by decide +kernel) rfl
theorem mw_21 : Cond.classLink "MessageCrossbar" 9 "MessageCrossbar$Master" ∈ mx_T := mx_in (i := 21) (by decide +kernel) rfl
theorem mw_23 : Cond.instantiable "MessageCrossbar$Master" 5 ∈ mx_T := mx_in (i := 23) (by decide +kernel) rfl
theorem mw_24 : Cond.methodLink "MessageCrossbar" 15 yM_init ∈ mx_T := mx_in (i := 24) (by decide +kernel) rfl
theorem mw_25 : Cond.instanceMethod yM_init ∈ mx_T := mx_in (i := 25) (by decide +kernel) rfl
theorem mw_26 : Cond.code yM_init prog_3_method_1_code 1 none ∈ mx_T := mx_in (i := 26) (by decide +kernel) rfl
theorem mw_27 : Cond.methodLink "MessageCrossbar$Master" 3 objectInit ∈ mx_T := mx_in (i := 27) (by decide +kernel) rfl
theorem mw_28 : Cond.classLink "MessageCrossbar$Master" 9 "MessageCrossbar$Line" ∈ mx_T := mx_in (i := 28) (by decide +kernel) rfl
theorem mw_29 : Cond.instantiable "MessageCrossbar$Line" 2 ∈ mx_T := mx_in (i := 29) (by decide +kernel) rfl
theorem mw_30 : Cond.methodLink "MessageCrossbar$Master" 11 yL_init ∈ mx_T := mx_in (i := 30) (by decide +kernel) rfl
theorem mw_31 : Cond.instanceMethod yL_init ∈ mx_T := mx_in (i := 31) (by decide +kernel) rfl
theorem mw_32 : Cond.code yL_init prog_2_method_1_code 2 none ∈ mx_T := mx_in (i := 32) (by decide +kernel) rfl
theorem mw_33 : Cond.methodLink "MessageCrossbar$Line" 3 objectInit ∈ mx_T := mx_in (i := 33) (by decide +kernel) rfl
theorem mw_34 : Cond.fieldLink "MessageCrossbar$Line" 9 "MessageCrossbar$Line" "keys" "[I" ∈ mx_T := mx_in (i := 34) (by decide +kernel) rfl
theorem mw_35 : Cond.fieldLink "MessageCrossbar$Line" 15 "MessageCrossbar$Line" "size" "I" ∈ mx_T := mx_in (i := 35) (by decide +kernel) rfl
theorem mw_36 : Cond.fieldLink "MessageCrossbar" 81 "MessageCrossbar$Line" "size" "I" ∈ mx_T := mx_in (i := 36) (by decide +kernel) rfl
theorem mw_37 : Cond.fieldLink "MessageCrossbar$Port" 44 "MessageCrossbar$Line" "size" "I" ∈ mx_T := mx_in (i := 37) (by decide +kernel) rfl
theorem mw_38 : Cond.laysFinal "MessageCrossbar$Line" "MessageCrossbar$Line" "keys" "[I" ∈ mx_T := mx_in (i := 38) (by decide +kernel) rfl
theorem mw_40 : Cond.lays "MessageCrossbar$Line" "MessageCrossbar$Line" "size" "I" ∈ mx_T := mx_in (i := 40) (by decide +kernel) rfl
theorem mw_43 : Cond.arrayClass .int ∈ mx_T := mx_in (i := 43) (by decide +kernel) rfl
theorem mw_44 : Cond.fieldLink "MessageCrossbar$Master" 14 "MessageCrossbar$Master" "waiting" "LMessageCrossbar$Line;" ∈ mx_T := mx_in (i := 44) (by decide +kernel) rfl
theorem mw_45 : Cond.fieldLink "MessageCrossbar" 59 "MessageCrossbar$Master" "waiting" "LMessageCrossbar$Line;" ∈ mx_T := mx_in (i := 45) (by decide +kernel) rfl
theorem mw_46 : Cond.fieldLink "MessageCrossbar$Master" 20 "MessageCrossbar$Master" "box" "LMessageCrossbar$Line;" ∈ mx_T := mx_in (i := 46) (by decide +kernel) rfl
theorem mw_47 : Cond.fieldLink "MessageCrossbar" 97 "MessageCrossbar$Master" "box" "LMessageCrossbar$Line;" ∈ mx_T := mx_in (i := 47) (by decide +kernel) rfl
theorem mw_48 : Cond.fieldLink "MessageCrossbar$Master" 23 "MessageCrossbar$Master" "inFlight" "I" ∈ mx_T := mx_in (i := 48) (by decide +kernel) rfl
theorem mw_49 : Cond.fieldLink "MessageCrossbar" 77 "MessageCrossbar$Master" "inFlight" "I" ∈ mx_T := mx_in (i := 49) (by decide +kernel) rfl
theorem mw_50 : Cond.fieldLink "MessageCrossbar$Master" 27 "MessageCrossbar$Master" "accepts" "Z" ∈ mx_T := mx_in (i := 50) (by decide +kernel) rfl
theorem mw_51 : Cond.fieldLink "MessageCrossbar" 84 "MessageCrossbar$Master" "accepts" "Z" ∈ mx_T := mx_in (i := 51) (by decide +kernel) rfl
theorem mw_52 : Cond.fieldLink "MessageCrossbar$Master" 31 "MessageCrossbar$Master" "latestPort" "I" ∈ mx_T := mx_in (i := 52) (by decide +kernel) rfl
theorem mw_53 : Cond.fieldLink "MessageCrossbar" 163 "MessageCrossbar$Master" "latestPort" "I" ∈ mx_T := mx_in (i := 53) (by decide +kernel) rfl
theorem mw_54 : Cond.laysFinal "MessageCrossbar$Master" "MessageCrossbar$Master" "waiting" "LMessageCrossbar$Line;" ∈ mx_T := mx_in (i := 54) (by decide +kernel) rfl
theorem mw_56 : Cond.laysFinal "MessageCrossbar$Master" "MessageCrossbar$Master" "box" "LMessageCrossbar$Line;" ∈ mx_T := mx_in (i := 56) (by decide +kernel) rfl
theorem mw_58 : Cond.lays "MessageCrossbar$Master" "MessageCrossbar$Master" "inFlight" "I" ∈ mx_T := mx_in (i := 58) (by decide +kernel) rfl
theorem mw_60 : Cond.lays "MessageCrossbar$Master" "MessageCrossbar$Master" "accepts" "Z" ∈ mx_T := mx_in (i := 60) (by decide +kernel) rfl
theorem mw_62 : Cond.lays "MessageCrossbar$Master" "MessageCrossbar$Master" "latestPort" "I" ∈ mx_T := mx_in (i := 62) (by decide +kernel) rfl
theorem mw_65 : Cond.classLink "MessageCrossbar" 16 "MessageCrossbar$Port" ∈ mx_T := mx_in (i := 65) (by decide +kernel) rfl
theorem mw_67 : Cond.instantiable "MessageCrossbar$Port" 7 ∈ mx_T := mx_in (i := 67) (by decide +kernel) rfl
theorem mw_68 : Cond.methodLink "MessageCrossbar" 22 yP_init ∈ mx_T := mx_in (i := 68) (by decide +kernel) rfl
theorem mw_69 : Cond.instanceMethod yP_init ∈ mx_T := mx_in (i := 69) (by decide +kernel) rfl
theorem mw_70 : Cond.code yP_init prog_5_method_1_code 2 none ∈ mx_T := mx_in (i := 70) (by decide +kernel) rfl
theorem mw_71 : Cond.methodLink "MessageCrossbar$Port" 3 objectInit ∈ mx_T := mx_in (i := 71) (by decide +kernel) rfl
theorem mw_72 : Cond.classLink "MessageCrossbar$Port" 9 "MessageCrossbar$Line" ∈ mx_T := mx_in (i := 72) (by decide +kernel) rfl
theorem mw_73 : Cond.methodLink "MessageCrossbar$Port" 11 yL_init ∈ mx_T := mx_in (i := 73) (by decide +kernel) rfl
theorem mw_74 : Cond.fieldLink "MessageCrossbar$Port" 14 "MessageCrossbar$Port" "requests" "LMessageCrossbar$Line;" ∈ mx_T := mx_in (i := 74) (by decide +kernel) rfl
theorem mw_75 : Cond.fieldLink "MessageCrossbar" 120 "MessageCrossbar$Port" "requests" "LMessageCrossbar$Line;" ∈ mx_T := mx_in (i := 75) (by decide +kernel) rfl
theorem mw_76 : Cond.fieldLink "MessageCrossbar$Port" 20 "MessageCrossbar$Port" "answers" "LMessageCrossbar$Line;" ∈ mx_T := mx_in (i := 76) (by decide +kernel) rfl
theorem mw_77 : Cond.fieldLink "MessageCrossbar" 129 "MessageCrossbar$Port" "answers" "LMessageCrossbar$Line;" ∈ mx_T := mx_in (i := 77) (by decide +kernel) rfl
theorem mw_78 : Cond.fieldLink "MessageCrossbar$Port" 23 "MessageCrossbar$Port" "owners" "[I" ∈ mx_T := mx_in (i := 78) (by decide +kernel) rfl
theorem mw_79 : Cond.fieldLink "MessageCrossbar" 138 "MessageCrossbar$Port" "owners" "[I" ∈ mx_T := mx_in (i := 79) (by decide +kernel) rfl
theorem mw_80 : Cond.fieldLink "MessageCrossbar$Port" 27 "MessageCrossbar$Port" "job" "I" ∈ mx_T := mx_in (i := 80) (by decide +kernel) rfl
theorem mw_81 : Cond.fieldLink "MessageCrossbar" 123 "MessageCrossbar$Port" "job" "I" ∈ mx_T := mx_in (i := 81) (by decide +kernel) rfl
theorem mw_82 : Cond.fieldLink "MessageCrossbar$Port" 31 "MessageCrossbar$Port" "ticksLeft" "I" ∈ mx_T := mx_in (i := 82) (by decide +kernel) rfl
theorem mw_83 : Cond.fieldLink "MessageCrossbar" 126 "MessageCrossbar$Port" "ticksLeft" "I" ∈ mx_T := mx_in (i := 83) (by decide +kernel) rfl
theorem mw_84 : Cond.fieldLink "MessageCrossbar$Port" 34 "MessageCrossbar$Port" "jobsDone" "I" ∈ mx_T := mx_in (i := 84) (by decide +kernel) rfl
theorem mw_85 : Cond.fieldLink "MessageCrossbar" 135 "MessageCrossbar$Port" "jobsDone" "I" ∈ mx_T := mx_in (i := 85) (by decide +kernel) rfl
theorem mw_86 : Cond.fieldLink "MessageCrossbar$Port" 37 "MessageCrossbar$Port" "latestMaster" "I" ∈ mx_T := mx_in (i := 86) (by decide +kernel) rfl
theorem mw_87 : Cond.fieldLink "MessageCrossbar" 236 "MessageCrossbar$Port" "latestMaster" "I" ∈ mx_T := mx_in (i := 87) (by decide +kernel) rfl
theorem mw_88 : Cond.laysFinal "MessageCrossbar$Port" "MessageCrossbar$Port" "requests" "LMessageCrossbar$Line;" ∈ mx_T := mx_in (i := 88) (by decide +kernel) rfl
theorem mw_90 : Cond.laysFinal "MessageCrossbar$Port" "MessageCrossbar$Port" "answers" "LMessageCrossbar$Line;" ∈ mx_T := mx_in (i := 90) (by decide +kernel) rfl
theorem mw_92 : Cond.laysFinal "MessageCrossbar$Port" "MessageCrossbar$Port" "owners" "[I" ∈ mx_T := mx_in (i := 92) (by decide +kernel) rfl
theorem mw_94 : Cond.lays "MessageCrossbar$Port" "MessageCrossbar$Port" "job" "I" ∈ mx_T := mx_in (i := 94) (by decide +kernel) rfl
theorem mw_96 : Cond.lays "MessageCrossbar$Port" "MessageCrossbar$Port" "ticksLeft" "I" ∈ mx_T := mx_in (i := 96) (by decide +kernel) rfl
theorem mw_98 : Cond.lays "MessageCrossbar$Port" "MessageCrossbar$Port" "jobsDone" "I" ∈ mx_T := mx_in (i := 98) (by decide +kernel) rfl
theorem mw_100 : Cond.lays "MessageCrossbar$Port" "MessageCrossbar$Port" "latestMaster" "I" ∈ mx_T := mx_in (i := 100) (by decide +kernel) rfl
theorem mw_103 : Cond.classLink "MessageCrossbar" 23 "MessageCrossbar$Message" ∈ mx_T := mx_in (i := 103) (by decide +kernel) rfl
theorem mw_105 : Cond.instantiable "MessageCrossbar$Message" 5 ∈ mx_T := mx_in (i := 105) (by decide +kernel) rfl
theorem mw_107 : Cond.instanceMethod yG_init ∈ mx_T := mx_in (i := 107) (by decide +kernel) rfl
theorem mw_108 : Cond.code yG_init prog_4_method_1_code 1 none ∈ mx_T := mx_in (i := 108) (by decide +kernel) rfl
theorem mw_109 : Cond.methodLink "MessageCrossbar$Message" 3 objectInit ∈ mx_T := mx_in (i := 109) (by decide +kernel) rfl
theorem mw_110 : Cond.fieldLink "MessageCrossbar$Message" 9 "MessageCrossbar$Message" "sort" "I" ∈ mx_T := mx_in (i := 110) (by decide +kernel) rfl
theorem mw_111 : Cond.fieldLink "MessageCrossbar" 111 "MessageCrossbar$Message" "sort" "I" ∈ mx_T := mx_in (i := 111) (by decide +kernel) rfl
theorem mw_112 : Cond.fieldLink "MessageCrossbar$Message" 15 "MessageCrossbar$Message" "z" "I" ∈ mx_T := mx_in (i := 112) (by decide +kernel) rfl
theorem mw_113 : Cond.fieldLink "MessageCrossbar$Message" 18 "MessageCrossbar$Message" "address" "I" ∈ mx_T := mx_in (i := 113) (by decide +kernel) rfl
theorem mw_114 : Cond.fieldLink "MessageCrossbar" 221 "MessageCrossbar$Message" "address" "I" ∈ mx_T := mx_in (i := 114) (by decide +kernel) rfl
theorem mw_115 : Cond.fieldLink "MessageCrossbar$Message" 21 "MessageCrossbar$Message" "data" "J" ∈ mx_T := mx_in (i := 115) (by decide +kernel) rfl
theorem mw_116 : Cond.fieldLink "MessageCrossbar" 108 "MessageCrossbar$Message" "data" "J" ∈ mx_T := mx_in (i := 116) (by decide +kernel) rfl
theorem mw_117 : Cond.fieldLink "MessageCrossbar$Message" 25 "MessageCrossbar$Message" "mask" "I" ∈ mx_T := mx_in (i := 117) (by decide +kernel) rfl
theorem mw_118 : Cond.lays "MessageCrossbar$Message" "MessageCrossbar$Message" "sort" "I" ∈ mx_T := mx_in (i := 118) (by decide +kernel) rfl
theorem mw_120 : Cond.lays "MessageCrossbar$Message" "MessageCrossbar$Message" "z" "I" ∈ mx_T := mx_in (i := 120) (by decide +kernel) rfl
theorem mw_122 : Cond.lays "MessageCrossbar$Message" "MessageCrossbar$Message" "address" "I" ∈ mx_T := mx_in (i := 122) (by decide +kernel) rfl
theorem mw_124 : Cond.lays "MessageCrossbar$Message" "MessageCrossbar$Message" "data" "J" ∈ mx_T := mx_in (i := 124) (by decide +kernel) rfl
theorem mw_126 : Cond.lays "MessageCrossbar$Message" "MessageCrossbar$Message" "mask" "I" ∈ mx_T := mx_in (i := 126) (by decide +kernel) rfl
theorem mw_129 : Cond.fieldLink "MessageCrossbar" 11 "MessageCrossbar" "masters" "[LMessageCrossbar$Master;" ∈ mx_T := mx_in (i := 129) (by decide +kernel) rfl
theorem mw_130 : Cond.fieldLink "MessageCrossbar" 18 "MessageCrossbar" "ports" "[LMessageCrossbar$Port;" ∈ mx_T := mx_in (i := 130) (by decide +kernel) rfl
theorem mw_131 : Cond.fieldLink "MessageCrossbar" 25 "MessageCrossbar" "messages" "[LMessageCrossbar$Message;" ∈ mx_T := mx_in (i := 131) (by decide +kernel) rfl
theorem mw_132 : Cond.fieldLink "MessageCrossbar" 30 "MessageCrossbar" "bytes" "[B" ∈ mx_T := mx_in (i := 132) (by decide +kernel) rfl
theorem mw_133 : Cond.fieldLink "MessageCrossbar" 34 "MessageCrossbar" "log" "[I" ∈ mx_T := mx_in (i := 133) (by decide +kernel) rfl
theorem mw_134 : Cond.fieldLink "MessageCrossbar" 38 "MessageCrossbar" "counts" "[I" ∈ mx_T := mx_in (i := 134) (by decide +kernel) rfl
theorem mw_135 : Cond.fieldLink "MessageCrossbar" 41 "MessageCrossbar" "latestData" "J" ∈ mx_T := mx_in (i := 135) (by decide +kernel) rfl
theorem mw_136 : Cond.laysFinal "MessageCrossbar" "MessageCrossbar" "masters" "[LMessageCrossbar$Master;" ∈ mx_T := mx_in (i := 136) (by decide +kernel) rfl
theorem mw_138 : Cond.laysFinal "MessageCrossbar" "MessageCrossbar" "ports" "[LMessageCrossbar$Port;" ∈ mx_T := mx_in (i := 138) (by decide +kernel) rfl
theorem mw_140 : Cond.laysFinal "MessageCrossbar" "MessageCrossbar" "messages" "[LMessageCrossbar$Message;" ∈ mx_T := mx_in (i := 140) (by decide +kernel) rfl
theorem mw_142 : Cond.laysFinal "MessageCrossbar" "MessageCrossbar" "bytes" "[B" ∈ mx_T := mx_in (i := 142) (by decide +kernel) rfl
theorem mw_144 : Cond.laysFinal "MessageCrossbar" "MessageCrossbar" "log" "[I" ∈ mx_T := mx_in (i := 144) (by decide +kernel) rfl
theorem mw_146 : Cond.laysFinal "MessageCrossbar" "MessageCrossbar" "counts" "[I" ∈ mx_T := mx_in (i := 146) (by decide +kernel) rfl
theorem mw_148 : Cond.lays "MessageCrossbar" "MessageCrossbar" "latestData" "J" ∈ mx_T := mx_in (i := 148) (by decide +kernel) rfl
theorem mw_151 : Cond.arrayClass .byte ∈ mx_T := mx_in (i := 151) (by decide +kernel) rfl
theorem mw_152 : Cond.methodLink "MessageCrossbarLaw" 68 yX_data ∈ mx_T := mx_in (i := 152) (by decide +kernel) rfl
theorem mw_153 : Cond.instanceMethod yX_data ∈ mx_T := mx_in (i := 153) (by decide +kernel) rfl
theorem mw_154 : Cond.selects "MessageCrossbar" yX_data yX_data ∈ mx_T := mx_in (i := 154) (by decide +kernel) rfl
theorem mw_155 : Cond.code yX_data prog_1_method_6_code 1 (some .long) ∈ mx_T := mx_in (i := 155) (by decide +kernel) rfl
theorem mw_156 : Cond.methodLink "MessageCrossbarLaw" 86 yX_done ∈ mx_T := mx_in (i := 156) (by decide +kernel) rfl
theorem mw_157 : Cond.instanceMethod yX_done ∈ mx_T := mx_in (i := 157) (by decide +kernel) rfl
theorem mw_158 : Cond.selects "MessageCrossbar" yX_done yX_done ∈ mx_T := mx_in (i := 158) (by decide +kernel) rfl
theorem mw_159 : Cond.code yX_done prog_1_method_11_code 2 (some .int) ∈ mx_T := mx_in (i := 159) (by decide +kernel) rfl
theorem mw_160 : Cond.methodLink "MessageCrossbar" 45 yX_isBelow ∈ mx_T := mx_in (i := 160) (by decide +kernel) rfl
theorem mw_161 : Cond.static yX_isBelow ∈ mx_T := mx_in (i := 161) (by decide +kernel) rfl
theorem mw_162 : Cond.code yX_isBelow prog_1_method_28_code 2 (some .boolean) ∈ mx_T := mx_in (i := 162) (by decide +kernel) rfl
theorem mw_163 : Cond.methodLink "MessageCrossbar" 141 yX_logPlace ∈ mx_T := mx_in (i := 163) (by decide +kernel) rfl
theorem mw_164 : Cond.static yX_logPlace ∈ mx_T := mx_in (i := 164) (by decide +kernel) rfl
theorem mw_165 : Cond.code yX_logPlace prog_1_method_32_code 1 (some .int) ∈ mx_T := mx_in (i := 165) (by decide +kernel) rfl
theorem mw_166 : Cond.methodLink "MessageCrossbarLaw" 90 yX_count ∈ mx_T := mx_in (i := 166) (by decide +kernel) rfl
theorem mw_167 : Cond.instanceMethod yX_count ∈ mx_T := mx_in (i := 167) (by decide +kernel) rfl
theorem mw_168 : Cond.selects "MessageCrossbar" yX_count yX_count ∈ mx_T := mx_in (i := 168) (by decide +kernel) rfl
theorem mw_169 : Cond.code yX_count prog_1_method_12_code 2 (some .int) ∈ mx_T := mx_in (i := 169) (by decide +kernel) rfl
theorem mw_170 : Cond.methodLink "MessageCrossbarLaw" 47 yZ_request ∈ mx_T := mx_in (i := 170) (by decide +kernel) rfl
theorem mw_171 : Cond.static yZ_request ∈ mx_T := mx_in (i := 171) (by decide +kernel) rfl
theorem mw_172 : Cond.codeWith yZ_request method_3_code 11 (some .int) [(0, 20, 23, 13)] ∈ mx_T := mx_in (i := 172) (by decide +kernel) rfl
theorem mw_173 : Cond.classLink "MessageCrossbarLaw" 13 "java/lang/IllegalArgumentException" ∈ mx_T := mx_in (i := 173) (by decide +kernel) rfl
theorem mw_174 : Cond.methodLink "MessageCrossbarLaw" 7 yX_request ∈ mx_T := mx_in (i := 174) (by decide +kernel) rfl
theorem mw_175 : Cond.instanceMethod yX_request ∈ mx_T := mx_in (i := 175) (by decide +kernel) rfl
theorem mw_176 : Cond.selects "MessageCrossbar" yX_request yX_request ∈ mx_T := mx_in (i := 176) (by decide +kernel) rfl
theorem mw_177 : Cond.code yX_request prog_1_method_2_code 11 (some .int) ∈ mx_T := mx_in (i := 177) (by decide +kernel) rfl
theorem mw_178 : Cond.methodLink "MessageCrossbar" 49 yX_isAligned ∈ mx_T := mx_in (i := 178) (by decide +kernel) rfl
theorem mw_179 : Cond.static yX_isAligned ∈ mx_T := mx_in (i := 179) (by decide +kernel) rfl
theorem mw_180 : Cond.code yX_isAligned prog_1_method_29_code 2 (some .boolean) ∈ mx_T := mx_in (i := 180) (by decide +kernel) rfl
theorem mw_181 : Cond.classLink "MessageCrossbar" 52 "java/lang/IllegalArgumentException" ∈ mx_T := mx_in (i := 181) (by decide +kernel) rfl
theorem mw_182 : Cond.instantiable "java/lang/IllegalArgumentException" 6 ∈ mx_T := mx_in (i := 182) (by decide +kernel) rfl
theorem mw_190 : Cond.selects "java/lang/IllegalArgumentException" ⟨"java/lang/Throwable", "fillInStackTrace", "(I)Ljava/lang/Throwable;"⟩ ⟨"java/lang/Throwable", "fillInStackTrace", "(I)Ljava/lang/Throwable;"⟩ ∈ mx_T := mx_in (i := 190) (by decide +kernel) rfl
theorem mw_191 : Cond.selects "java/lang/IllegalArgumentException" ⟨"java/lang/Throwable", "fillInStackTrace", "()Ljava/lang/Throwable;"⟩ ⟨"java/lang/Throwable", "fillInStackTrace", "()Ljava/lang/Throwable;"⟩ ∈ mx_T := mx_in (i := 191) (by decide +kernel) rfl
theorem mw_192 : Cond.lays "java/lang/IllegalArgumentException" "java/lang/Throwable" "cause" "Ljava/lang/Throwable;" ∈ mx_T := mx_in (i := 192) (by decide +kernel) rfl
theorem mw_193 : Cond.lays "java/lang/Throwable" "java/lang/Throwable" "cause" "Ljava/lang/Throwable;" ∈ mx_T := mx_in (i := 193) (by decide +kernel) rfl
theorem mw_194 : Cond.lays "java/lang/IllegalArgumentException" "java/lang/Throwable" "stackTrace" "[Ljava/lang/StackTraceElement;" ∈ mx_T := mx_in (i := 194) (by decide +kernel) rfl
theorem mw_195 : Cond.lays "java/lang/Throwable" "java/lang/Throwable" "stackTrace" "[Ljava/lang/StackTraceElement;" ∈ mx_T := mx_in (i := 195) (by decide +kernel) rfl
theorem mw_196 : Cond.lays "java/lang/IllegalArgumentException" "java/lang/Throwable" "suppressedExceptions" "Ljava/util/List;" ∈ mx_T := mx_in (i := 196) (by decide +kernel) rfl
theorem mw_197 : Cond.lays "java/lang/Throwable" "java/lang/Throwable" "suppressedExceptions" "Ljava/util/List;" ∈ mx_T := mx_in (i := 197) (by decide +kernel) rfl
theorem mw_198 : Cond.lays "java/lang/IllegalArgumentException" "java/lang/Throwable" "detailMessage" "Ljava/lang/String;" ∈ mx_T := mx_in (i := 198) (by decide +kernel) rfl
theorem mw_199 : Cond.lays "java/lang/Throwable" "java/lang/Throwable" "detailMessage" "Ljava/lang/String;" ∈ mx_T := mx_in (i := 199) (by decide +kernel) rfl
theorem mw_200 : Cond.lays "java/lang/IllegalArgumentException" "java/lang/Throwable" "backtrace" "Ljava/lang/Object;" ∈ mx_T := mx_in (i := 200) (by decide +kernel) rfl
theorem mw_201 : Cond.lays "java/lang/Throwable" "java/lang/Throwable" "backtrace" "Ljava/lang/Object;" ∈ mx_T := mx_in (i := 201) (by decide +kernel) rfl
theorem mw_202 : Cond.fieldLink "java/lang/Throwable" 198 "java/lang/Throwable" "backtrace" "Ljava/lang/Object;" ∈ mx_T := mx_in (i := 202) (by decide +kernel) rfl
theorem mw_204 : Cond.instanceMethod ⟨"java/lang/Throwable", "<init>", "()V"⟩ ∈ mx_T := mx_in (i := 204) (by decide +kernel) rfl
theorem mw_205 : Cond.code ⟨"java/lang/Throwable", "<init>", "()V"⟩ prog_13_method_1_code 1 none ∈ mx_T := mx_in (i := 205) (by decide +kernel) rfl
theorem mw_206 : Cond.methodLink "java/lang/Throwable" 1 objectInit ∈ mx_T := mx_in (i := 206) (by decide +kernel) rfl
theorem mw_207 : Cond.fieldLink "java/lang/Throwable" 13 "java/lang/Throwable" "UNASSIGNED_STACK" "[Ljava/lang/StackTraceElement;" ∈ mx_T := mx_in (i := 207) (by decide +kernel) rfl
theorem mw_209 : Cond.fieldLink "java/lang/Throwable" 20 "java/lang/Throwable" "SUPPRESSED_SENTINEL" "Ljava/util/List;" ∈ mx_T := mx_in (i := 209) (by decide +kernel) rfl
theorem mw_211 : Cond.methodLink "java/lang/Throwable" 27 ⟨"java/lang/Throwable", "fillInStackTrace", "()Ljava/lang/Throwable;"⟩ ∈ mx_T := mx_in (i := 211) (by decide +kernel) rfl
theorem mw_212 : Cond.instanceMethod ⟨"java/lang/Throwable", "fillInStackTrace", "()Ljava/lang/Throwable;"⟩ ∈ mx_T := mx_in (i := 212) (by decide +kernel) rfl
theorem mw_214 : Cond.selects "java/lang/IndexOutOfBoundsException" ⟨"java/lang/Throwable", "fillInStackTrace", "()Ljava/lang/Throwable;"⟩ ⟨"java/lang/Throwable", "fillInStackTrace", "()Ljava/lang/Throwable;"⟩ ∈ mx_T := mx_in (i := 214) (by decide +kernel) rfl
theorem mw_216 : Cond.methodLink "java/lang/Throwable" 202 ⟨"java/lang/Throwable", "fillInStackTrace", "(I)Ljava/lang/Throwable;"⟩ ∈ mx_T := mx_in (i := 216) (by decide +kernel) rfl
theorem mw_218 : Cond.instanceMethod ⟨"java/lang/Throwable", "fillInStackTrace", "(I)Ljava/lang/Throwable;"⟩ ∈ mx_T := mx_in (i := 218) (by decide +kernel) rfl
theorem mw_219 : Cond.instantiable "java/lang/Throwable" 6 ∈ mx_T := mx_in (i := 219) (by decide +kernel) rfl
theorem mw_221 : Cond.methodLink "MessageCrossbar" 54 ⟨"java/lang/IllegalArgumentException", "<init>", "()V"⟩ ∈ mx_T := mx_in (i := 221) (by decide +kernel) rfl
theorem mw_222 : Cond.instanceMethod ⟨"java/lang/IllegalArgumentException", "<init>", "()V"⟩ ∈ mx_T := mx_in (i := 222) (by decide +kernel) rfl
theorem mw_223 : Cond.code ⟨"java/lang/IllegalArgumentException", "<init>", "()V"⟩ prog_9_method_1_code 1 none ∈ mx_T := mx_in (i := 223) (by decide +kernel) rfl
theorem mw_224 : Cond.methodLink "java/lang/IllegalArgumentException" 1 ⟨"java/lang/RuntimeException", "<init>", "()V"⟩ ∈ mx_T := mx_in (i := 224) (by decide +kernel) rfl
theorem mw_225 : Cond.instanceMethod ⟨"java/lang/RuntimeException", "<init>", "()V"⟩ ∈ mx_T := mx_in (i := 225) (by decide +kernel) rfl
theorem mw_226 : Cond.code ⟨"java/lang/RuntimeException", "<init>", "()V"⟩ prog_12_method_1_code 1 none ∈ mx_T := mx_in (i := 226) (by decide +kernel) rfl
theorem mw_227 : Cond.methodLink "java/lang/RuntimeException" 1 ⟨"java/lang/Exception", "<init>", "()V"⟩ ∈ mx_T := mx_in (i := 227) (by decide +kernel) rfl
theorem mw_228 : Cond.instanceMethod ⟨"java/lang/Exception", "<init>", "()V"⟩ ∈ mx_T := mx_in (i := 228) (by decide +kernel) rfl
theorem mw_229 : Cond.code ⟨"java/lang/Exception", "<init>", "()V"⟩ prog_8_method_1_code 1 none ∈ mx_T := mx_in (i := 229) (by decide +kernel) rfl
theorem mw_230 : Cond.methodLink "java/lang/Exception" 1 ⟨"java/lang/Throwable", "<init>", "()V"⟩ ∈ mx_T := mx_in (i := 230) (by decide +kernel) rfl
theorem mw_231 : Cond.fieldLink "java/lang/Throwable" 198 "java/lang/Throwable" "backtrace" "Ljava/lang/Object;" ∈ mx_T := mx_in (i := 231) (by decide +kernel) rfl
theorem mw_232 : Cond.fieldLink "java/lang/Throwable" 7 "java/lang/Throwable" "cause" "Ljava/lang/Throwable;" ∈ mx_T := mx_in (i := 232) (by decide +kernel) rfl
theorem mw_233 : Cond.fieldLink "java/lang/Throwable" 17 "java/lang/Throwable" "stackTrace" "[Ljava/lang/StackTraceElement;" ∈ mx_T := mx_in (i := 233) (by decide +kernel) rfl
theorem mw_234 : Cond.fieldLink "java/lang/Throwable" 24 "java/lang/Throwable" "suppressedExceptions" "Ljava/util/List;" ∈ mx_T := mx_in (i := 234) (by decide +kernel) rfl
theorem mw_239 : Cond.lays "java/lang/IllegalArgumentException" "java/lang/Throwable" "depth" "I" ∈ mx_T := mx_in (i := 239) (by decide +kernel) rfl
theorem mw_243 : Cond.methodLink "MessageCrossbar" 55 yM_hasInFlight ∈ mx_T := mx_in (i := 243) (by decide +kernel) rfl
theorem mw_244 : Cond.instanceMethod yM_hasInFlight ∈ mx_T := mx_in (i := 244) (by decide +kernel) rfl
theorem mw_245 : Cond.selects "MessageCrossbar$Master" yM_hasInFlight yM_hasInFlight ∈ mx_T := mx_in (i := 245) (by decide +kernel) rfl
theorem mw_246 : Cond.code yM_hasInFlight prog_3_method_2_code 2 (some .boolean) ∈ mx_T := mx_in (i := 246) (by decide +kernel) rfl
theorem mw_247 : Cond.methodLink "MessageCrossbar" 63 yL_isFull ∈ mx_T := mx_in (i := 247) (by decide +kernel) rfl
theorem mw_248 : Cond.instanceMethod yL_isFull ∈ mx_T := mx_in (i := 248) (by decide +kernel) rfl
theorem mw_249 : Cond.selects "MessageCrossbar$Line" yL_isFull yL_isFull ∈ mx_T := mx_in (i := 249) (by decide +kernel) rfl
theorem mw_250 : Cond.code yL_isFull prog_2_method_2_code 1 (some .boolean) ∈ mx_T := mx_in (i := 250) (by decide +kernel) rfl
theorem mw_251 : Cond.methodLink "MessageCrossbar" 69 yG_become ∈ mx_T := mx_in (i := 251) (by decide +kernel) rfl
theorem mw_252 : Cond.instanceMethod yG_become ∈ mx_T := mx_in (i := 252) (by decide +kernel) rfl
theorem mw_253 : Cond.selects "MessageCrossbar$Message" yG_become yG_become ∈ mx_T := mx_in (i := 253) (by decide +kernel) rfl
theorem mw_254 : Cond.code yG_become prog_4_method_2_code 7 none ∈ mx_T := mx_in (i := 254) (by decide +kernel) rfl
theorem mw_255 : Cond.methodLink "MessageCrossbar" 73 yL_append ∈ mx_T := mx_in (i := 255) (by decide +kernel) rfl
theorem mw_256 : Cond.instanceMethod yL_append ∈ mx_T := mx_in (i := 256) (by decide +kernel) rfl
theorem mw_257 : Cond.selects "MessageCrossbar$Line" yL_append yL_append ∈ mx_T := mx_in (i := 257) (by decide +kernel) rfl
theorem mw_258 : Cond.code yL_append prog_2_method_4_code 2 none ∈ mx_T := mx_in (i := 258) (by decide +kernel) rfl
theorem mw_259 : Cond.methodLink "MessageCrossbarLaw" 57 yZ_accept ∈ mx_T := mx_in (i := 259) (by decide +kernel) rfl
theorem mw_260 : Cond.static yZ_accept ∈ mx_T := mx_in (i := 260) (by decide +kernel) rfl
theorem mw_261 : Cond.codeWith yZ_accept method_4_code 5 (some .int) [(0, 17, 20, 13)] ∈ mx_T := mx_in (i := 261) (by decide +kernel) rfl
theorem mw_262 : Cond.methodLink "MessageCrossbarLaw" 15 yX_accept ∈ mx_T := mx_in (i := 262) (by decide +kernel) rfl
theorem mw_263 : Cond.instanceMethod yX_accept ∈ mx_T := mx_in (i := 263) (by decide +kernel) rfl
theorem mw_264 : Cond.selects "MessageCrossbar" yX_accept yX_accept ∈ mx_T := mx_in (i := 264) (by decide +kernel) rfl
theorem mw_265 : Cond.code yX_accept prog_1_method_3_code 4 (some .boolean) ∈ mx_T := mx_in (i := 265) (by decide +kernel) rfl
theorem mw_266 : Cond.methodLink "MessageCrossbarLaw" 61 yZ_tick ∈ mx_T := mx_in (i := 266) (by decide +kernel) rfl
theorem mw_267 : Cond.static yZ_tick ∈ mx_T := mx_in (i := 267) (by decide +kernel) rfl
theorem mw_268 : Cond.codeWith yZ_tick method_5_code 4 (some .int) [(0, 9, 12, 13)] ∈ mx_T := mx_in (i := 268) (by decide +kernel) rfl
theorem mw_269 : Cond.methodLink "MessageCrossbarLaw" 19 yX_tick ∈ mx_T := mx_in (i := 269) (by decide +kernel) rfl
theorem mw_270 : Cond.instanceMethod yX_tick ∈ mx_T := mx_in (i := 270) (by decide +kernel) rfl
theorem mw_271 : Cond.selects "MessageCrossbar" yX_tick yX_tick ∈ mx_T := mx_in (i := 271) (by decide +kernel) rfl
theorem mw_272 : Cond.code yX_tick prog_1_method_4_code 4 (some .int) ∈ mx_T := mx_in (i := 272) (by decide +kernel) rfl
theorem mw_273 : Cond.methodLink "MessageCrossbar" 88 yX_runTick ∈ mx_T := mx_in (i := 273) (by decide +kernel) rfl
theorem mw_275 : Cond.instanceMethod yX_runTick ∈ mx_T := mx_in (i := 275) (by decide +kernel) rfl
theorem mw_276 : Cond.code yX_runTick prog_1_method_13_code 5 (some .boolean) ∈ mx_T := mx_in (i := 276) (by decide +kernel) rfl
theorem mw_277 : Cond.methodLink "MessageCrossbar" 144 yX_moveAnswers ∈ mx_T := mx_in (i := 277) (by decide +kernel) rfl
theorem mw_279 : Cond.instanceMethod yX_moveAnswers ∈ mx_T := mx_in (i := 279) (by decide +kernel) rfl
theorem mw_280 : Cond.code yX_moveAnswers prog_1_method_16_code 4 (some .boolean) ∈ mx_T := mx_in (i := 280) (by decide +kernel) rfl
theorem mw_281 : Cond.methodLink "MessageCrossbar" 153 yX_nextAnsweringPort ∈ mx_T := mx_in (i := 281) (by decide +kernel) rfl
theorem mw_283 : Cond.instanceMethod yX_nextAnsweringPort ∈ mx_T := mx_in (i := 283) (by decide +kernel) rfl
theorem mw_284 : Cond.code yX_nextAnsweringPort prog_1_method_17_code 5 (some .int) ∈ mx_T := mx_in (i := 284) (by decide +kernel) rfl
theorem mw_285 : Cond.methodLink "MessageCrossbar" 160 yM_hasRoomForAnswer ∈ mx_T := mx_in (i := 285) (by decide +kernel) rfl
theorem mw_286 : Cond.instanceMethod yM_hasRoomForAnswer ∈ mx_T := mx_in (i := 286) (by decide +kernel) rfl
theorem mw_287 : Cond.selects "MessageCrossbar$Master" yM_hasRoomForAnswer yM_hasRoomForAnswer ∈ mx_T := mx_in (i := 287) (by decide +kernel) rfl
theorem mw_288 : Cond.code yM_hasRoomForAnswer prog_3_method_3_code 1 (some .boolean) ∈ mx_T := mx_in (i := 288) (by decide +kernel) rfl
theorem mw_289 : Cond.methodLink "MessageCrossbar$Master" 34 yL_isFull ∈ mx_T := mx_in (i := 289) (by decide +kernel) rfl
theorem mw_290 : Cond.methodLink "MessageCrossbar" 166 yX_stepBehind ∈ mx_T := mx_in (i := 290) (by decide +kernel) rfl
theorem mw_291 : Cond.static yX_stepBehind ∈ mx_T := mx_in (i := 291) (by decide +kernel) rfl
theorem mw_292 : Cond.code yX_stepBehind prog_1_method_33_code 4 (some .int) ∈ mx_T := mx_in (i := 292) (by decide +kernel) rfl
theorem mw_293 : Cond.methodLink "MessageCrossbar" 170 yL_first ∈ mx_T := mx_in (i := 293) (by decide +kernel) rfl
theorem mw_294 : Cond.instanceMethod yL_first ∈ mx_T := mx_in (i := 294) (by decide +kernel) rfl
theorem mw_295 : Cond.selects "MessageCrossbar$Line" yL_first yL_first ∈ mx_T := mx_in (i := 295) (by decide +kernel) rfl
theorem mw_296 : Cond.code yL_first prog_2_method_3_code 1 (some .int) ∈ mx_T := mx_in (i := 296) (by decide +kernel) rfl
theorem mw_297 : Cond.methodLink "MessageCrossbar" 173 yX_masterOf ∈ mx_T := mx_in (i := 297) (by decide +kernel) rfl
theorem mw_298 : Cond.static yX_masterOf ∈ mx_T := mx_in (i := 298) (by decide +kernel) rfl
theorem mw_299 : Cond.code yX_masterOf prog_1_method_30_code 1 (some .int) ∈ mx_T := mx_in (i := 299) (by decide +kernel) rfl
theorem mw_300 : Cond.methodLink "MessageCrossbar" 156 yX_moveAnswer ∈ mx_T := mx_in (i := 300) (by decide +kernel) rfl
theorem mw_302 : Cond.instanceMethod yX_moveAnswer ∈ mx_T := mx_in (i := 302) (by decide +kernel) rfl
theorem mw_303 : Cond.code yX_moveAnswer prog_1_method_18_code 4 none ∈ mx_T := mx_in (i := 303) (by decide +kernel) rfl
theorem mw_304 : Cond.methodLink "MessageCrossbar" 100 yL_removeFirst ∈ mx_T := mx_in (i := 304) (by decide +kernel) rfl
theorem mw_305 : Cond.instanceMethod yL_removeFirst ∈ mx_T := mx_in (i := 305) (by decide +kernel) rfl
theorem mw_306 : Cond.selects "MessageCrossbar$Line" yL_removeFirst yL_removeFirst ∈ mx_T := mx_in (i := 306) (by decide +kernel) rfl
theorem mw_307 : Cond.code yL_removeFirst prog_2_method_5_code 3 (some .int) ∈ mx_T := mx_in (i := 307) (by decide +kernel) rfl
theorem mw_308 : Cond.methodLink "MessageCrossbar" 176 yP_releaseId ∈ mx_T := mx_in (i := 308) (by decide +kernel) rfl
theorem mw_309 : Cond.instanceMethod yP_releaseId ∈ mx_T := mx_in (i := 309) (by decide +kernel) rfl
theorem mw_310 : Cond.selects "MessageCrossbar$Port" yP_releaseId yP_releaseId ∈ mx_T := mx_in (i := 310) (by decide +kernel) rfl
theorem mw_311 : Cond.code yP_releaseId prog_5_method_9_code 3 none ∈ mx_T := mx_in (i := 311) (by decide +kernel) rfl
theorem mw_312 : Cond.methodLink "MessageCrossbar" 147 yX_servePorts ∈ mx_T := mx_in (i := 312) (by decide +kernel) rfl
theorem mw_314 : Cond.instanceMethod yX_servePorts ∈ mx_T := mx_in (i := 314) (by decide +kernel) rfl
theorem mw_315 : Cond.code yX_servePorts prog_1_method_19_code 3 (some .boolean) ∈ mx_T := mx_in (i := 315) (by decide +kernel) rfl
theorem mw_316 : Cond.methodLink "MessageCrossbar" 179 yP_countDown ∈ mx_T := mx_in (i := 316) (by decide +kernel) rfl
theorem mw_317 : Cond.instanceMethod yP_countDown ∈ mx_T := mx_in (i := 317) (by decide +kernel) rfl
theorem mw_318 : Cond.selects "MessageCrossbar$Port" yP_countDown yP_countDown ∈ mx_T := mx_in (i := 318) (by decide +kernel) rfl
theorem mw_319 : Cond.code yP_countDown prog_5_method_2_code 1 none ∈ mx_T := mx_in (i := 319) (by decide +kernel) rfl
theorem mw_320 : Cond.methodLink "MessageCrossbar" 182 yP_canFinishJob ∈ mx_T := mx_in (i := 320) (by decide +kernel) rfl
theorem mw_321 : Cond.instanceMethod yP_canFinishJob ∈ mx_T := mx_in (i := 321) (by decide +kernel) rfl
theorem mw_322 : Cond.selects "MessageCrossbar$Port" yP_canFinishJob yP_canFinishJob ∈ mx_T := mx_in (i := 322) (by decide +kernel) rfl
theorem mw_323 : Cond.code yP_canFinishJob prog_5_method_3_code 1 (some .boolean) ∈ mx_T := mx_in (i := 323) (by decide +kernel) rfl
theorem mw_324 : Cond.methodLink "MessageCrossbar$Port" 40 yL_isFull ∈ mx_T := mx_in (i := 324) (by decide +kernel) rfl
theorem mw_325 : Cond.methodLink "MessageCrossbar" 185 yX_finishJob ∈ mx_T := mx_in (i := 325) (by decide +kernel) rfl
theorem mw_327 : Cond.instanceMethod yX_finishJob ∈ mx_T := mx_in (i := 327) (by decide +kernel) rfl
theorem mw_328 : Cond.code yX_finishJob prog_1_method_20_code 3 none ∈ mx_T := mx_in (i := 328) (by decide +kernel) rfl
theorem mw_329 : Cond.methodLink "MessageCrossbar" 194 yP_finishJob ∈ mx_T := mx_in (i := 329) (by decide +kernel) rfl
theorem mw_330 : Cond.instanceMethod yP_finishJob ∈ mx_T := mx_in (i := 330) (by decide +kernel) rfl
theorem mw_331 : Cond.selects "MessageCrossbar$Port" yP_finishJob yP_finishJob ∈ mx_T := mx_in (i := 331) (by decide +kernel) rfl
theorem mw_332 : Cond.code yP_finishJob prog_5_method_5_code 2 (some .int) ∈ mx_T := mx_in (i := 332) (by decide +kernel) rfl
theorem mw_333 : Cond.methodLink "MessageCrossbar$Port" 47 yL_append ∈ mx_T := mx_in (i := 333) (by decide +kernel) rfl
theorem mw_334 : Cond.methodLink "MessageCrossbar" 196 yX_carryOut ∈ mx_T := mx_in (i := 334) (by decide +kernel) rfl
theorem mw_336 : Cond.instanceMethod yX_carryOut ∈ mx_T := mx_in (i := 336) (by decide +kernel) rfl
theorem mw_337 : Cond.code yX_carryOut prog_1_method_22_code 4 none ∈ mx_T := mx_in (i := 337) (by decide +kernel) rfl
theorem mw_338 : Cond.methodLink "MessageCrossbar" 114 yG_isDenied ∈ mx_T := mx_in (i := 338) (by decide +kernel) rfl
theorem mw_339 : Cond.instanceMethod yG_isDenied ∈ mx_T := mx_in (i := 339) (by decide +kernel) rfl
theorem mw_340 : Cond.selects "MessageCrossbar$Message" yG_isDenied yG_isDenied ∈ mx_T := mx_in (i := 340) (by decide +kernel) rfl
theorem mw_341 : Cond.code yG_isDenied prog_4_method_4_code 1 (some .boolean) ∈ mx_T := mx_in (i := 341) (by decide +kernel) rfl
theorem mw_342 : Cond.methodLink "MessageCrossbar" 214 yX_readBytes ∈ mx_T := mx_in (i := 342) (by decide +kernel) rfl
theorem mw_344 : Cond.instanceMethod yX_readBytes ∈ mx_T := mx_in (i := 344) (by decide +kernel) rfl
theorem mw_345 : Cond.code yX_readBytes prog_1_method_23_code 5 (some .long) ∈ mx_T := mx_in (i := 345) (by decide +kernel) rfl
theorem mw_346 : Cond.methodLink "MessageCrossbar" 203 yG_size ∈ mx_T := mx_in (i := 346) (by decide +kernel) rfl
theorem mw_347 : Cond.instanceMethod yG_size ∈ mx_T := mx_in (i := 347) (by decide +kernel) rfl
theorem mw_348 : Cond.selects "MessageCrossbar$Message" yG_size yG_size ∈ mx_T := mx_in (i := 348) (by decide +kernel) rfl
theorem mw_349 : Cond.code yG_size prog_4_method_3_code 1 (some .int) ∈ mx_T := mx_in (i := 349) (by decide +kernel) rfl
theorem mw_350 : Cond.methodLink "MessageCrossbar" 218 yX_writeBytes ∈ mx_T := mx_in (i := 350) (by decide +kernel) rfl
theorem mw_352 : Cond.instanceMethod yX_writeBytes ∈ mx_T := mx_in (i := 352) (by decide +kernel) rfl
theorem mw_353 : Cond.code yX_writeBytes prog_1_method_24_code 3 none ∈ mx_T := mx_in (i := 353) (by decide +kernel) rfl
theorem mw_354 : Cond.methodLink "MessageCrossbar" 224 yG_writesByte ∈ mx_T := mx_in (i := 354) (by decide +kernel) rfl
theorem mw_355 : Cond.instanceMethod yG_writesByte ∈ mx_T := mx_in (i := 355) (by decide +kernel) rfl
theorem mw_356 : Cond.selects "MessageCrossbar$Message" yG_writesByte yG_writesByte ∈ mx_T := mx_in (i := 356) (by decide +kernel) rfl
theorem mw_357 : Cond.code yG_writesByte prog_4_method_5_code 2 (some .boolean) ∈ mx_T := mx_in (i := 357) (by decide +kernel) rfl
theorem mw_358 : Cond.methodLink "MessageCrossbar" 188 yP_canBeginJob ∈ mx_T := mx_in (i := 358) (by decide +kernel) rfl
theorem mw_359 : Cond.instanceMethod yP_canBeginJob ∈ mx_T := mx_in (i := 359) (by decide +kernel) rfl
theorem mw_360 : Cond.selects "MessageCrossbar$Port" yP_canBeginJob yP_canBeginJob ∈ mx_T := mx_in (i := 360) (by decide +kernel) rfl
theorem mw_361 : Cond.code yP_canBeginJob prog_5_method_4_code 1 (some .boolean) ∈ mx_T := mx_in (i := 361) (by decide +kernel) rfl
theorem mw_362 : Cond.methodLink "MessageCrossbar" 191 yX_beginJob ∈ mx_T := mx_in (i := 362) (by decide +kernel) rfl
theorem mw_364 : Cond.instanceMethod yX_beginJob ∈ mx_T := mx_in (i := 364) (by decide +kernel) rfl
theorem mw_365 : Cond.code yX_beginJob prog_1_method_21_code 3 none ∈ mx_T := mx_in (i := 365) (by decide +kernel) rfl
theorem mw_366 : Cond.fieldLink "MessageCrossbar" 200 "MessageCrossbar" "DELAYS" "[I" ∈ mx_T := mx_in (i := 366) (by decide +kernel) rfl
theorem mw_368 : Cond.fieldLink "MessageCrossbar" 205 "MessageCrossbar" "WIDTH_POWERS" "[I" ∈ mx_T := mx_in (i := 368) (by decide +kernel) rfl
theorem mw_370 : Cond.methodLink "MessageCrossbar" 208 ⟨"java/lang/Math", "max", "(II)I"⟩ ∈ mx_T := mx_in (i := 370) (by decide +kernel) rfl
theorem mw_371 : Cond.static ⟨"java/lang/Math", "max", "(II)I"⟩ ∈ mx_T := mx_in (i := 371) (by decide +kernel) rfl
theorem mw_372 : Cond.code ⟨"java/lang/Math", "max", "(II)I"⟩ prog_11_method_65_code 2 (some .int) ∈ mx_T := mx_in (i := 372) (by decide +kernel) rfl
theorem mw_373 : Cond.methodLink "MessageCrossbar" 150 yX_moveRequests ∈ mx_T := mx_in (i := 373) (by decide +kernel) rfl
theorem mw_375 : Cond.instanceMethod yX_moveRequests ∈ mx_T := mx_in (i := 375) (by decide +kernel) rfl
theorem mw_376 : Cond.code yX_moveRequests prog_1_method_25_code 4 (some .boolean) ∈ mx_T := mx_in (i := 376) (by decide +kernel) rfl
theorem mw_377 : Cond.methodLink "MessageCrossbar" 227 yX_nextRequestingMaster ∈ mx_T := mx_in (i := 377) (by decide +kernel) rfl
theorem mw_379 : Cond.instanceMethod yX_nextRequestingMaster ∈ mx_T := mx_in (i := 379) (by decide +kernel) rfl
theorem mw_380 : Cond.code yX_nextRequestingMaster prog_1_method_26_code 5 (some .int) ∈ mx_T := mx_in (i := 380) (by decide +kernel) rfl
theorem mw_381 : Cond.methodLink "MessageCrossbar" 233 yP_hasRoomForRequest ∈ mx_T := mx_in (i := 381) (by decide +kernel) rfl
theorem mw_382 : Cond.instanceMethod yP_hasRoomForRequest ∈ mx_T := mx_in (i := 382) (by decide +kernel) rfl
theorem mw_383 : Cond.selects "MessageCrossbar$Port" yP_hasRoomForRequest yP_hasRoomForRequest ∈ mx_T := mx_in (i := 383) (by decide +kernel) rfl
theorem mw_384 : Cond.code yP_hasRoomForRequest prog_5_method_6_code 1 (some .boolean) ∈ mx_T := mx_in (i := 384) (by decide +kernel) rfl
theorem mw_385 : Cond.methodLink "MessageCrossbar$Port" 50 yP_idsInUse ∈ mx_T := mx_in (i := 385) (by decide +kernel) rfl
theorem mw_386 : Cond.instanceMethod yP_idsInUse ∈ mx_T := mx_in (i := 386) (by decide +kernel) rfl
theorem mw_387 : Cond.selects "MessageCrossbar$Port" yP_idsInUse yP_idsInUse ∈ mx_T := mx_in (i := 387) (by decide +kernel) rfl
theorem mw_388 : Cond.code yP_idsInUse prog_5_method_7_code 3 (some .int) ∈ mx_T := mx_in (i := 388) (by decide +kernel) rfl
theorem mw_389 : Cond.methodLink "MessageCrossbar" 239 yG_goesTo ∈ mx_T := mx_in (i := 389) (by decide +kernel) rfl
theorem mw_390 : Cond.instanceMethod yG_goesTo ∈ mx_T := mx_in (i := 390) (by decide +kernel) rfl
theorem mw_391 : Cond.selects "MessageCrossbar$Message" yG_goesTo yG_goesTo ∈ mx_T := mx_in (i := 391) (by decide +kernel) rfl
theorem mw_392 : Cond.code yG_goesTo prog_4_method_6_code 2 (some .boolean) ∈ mx_T := mx_in (i := 392) (by decide +kernel) rfl
theorem mw_395 : Cond.methodLink "MessageCrossbar" 230 yX_moveRequest ∈ mx_T := mx_in (i := 395) (by decide +kernel) rfl
theorem mw_397 : Cond.instanceMethod yX_moveRequest ∈ mx_T := mx_in (i := 397) (by decide +kernel) rfl
theorem mw_398 : Cond.code yX_moveRequest prog_1_method_27_code 4 none ∈ mx_T := mx_in (i := 398) (by decide +kernel) rfl
theorem mw_399 : Cond.methodLink "MessageCrossbar" 242 yP_takeLeastId ∈ mx_T := mx_in (i := 399) (by decide +kernel) rfl
theorem mw_400 : Cond.instanceMethod yP_takeLeastId ∈ mx_T := mx_in (i := 400) (by decide +kernel) rfl
theorem mw_401 : Cond.selects "MessageCrossbar$Port" yP_takeLeastId yP_takeLeastId ∈ mx_T := mx_in (i := 401) (by decide +kernel) rfl
theorem mw_402 : Cond.code yP_takeLeastId prog_5_method_8_code 3 none ∈ mx_T := mx_in (i := 402) (by decide +kernel) rfl
theorem mw_403 : Cond.methodLink "MessageCrossbar" 91 yX_anyJobRuns ∈ mx_T := mx_in (i := 403) (by decide +kernel) rfl
theorem mw_405 : Cond.instanceMethod yX_anyJobRuns ∈ mx_T := mx_in (i := 405) (by decide +kernel) rfl
theorem mw_406 : Cond.code yX_anyJobRuns prog_1_method_14_code 2 (some .boolean) ∈ mx_T := mx_in (i := 406) (by decide +kernel) rfl
theorem mw_407 : Cond.methodLink "MessageCrossbar" 94 yX_countStillTicks ∈ mx_T := mx_in (i := 407) (by decide +kernel) rfl
theorem mw_409 : Cond.instanceMethod yX_countStillTicks ∈ mx_T := mx_in (i := 409) (by decide +kernel) rfl
theorem mw_410 : Cond.code yX_countStillTicks prog_1_method_15_code 2 none ∈ mx_T := mx_in (i := 410) (by decide +kernel) rfl
theorem mw_411 : Cond.methodLink "MessageCrossbarLaw" 65 yZ_take ∈ mx_T := mx_in (i := 411) (by decide +kernel) rfl
theorem mw_412 : Cond.static yZ_take ∈ mx_T := mx_in (i := 412) (by decide +kernel) rfl
theorem mw_413 : Cond.codeWith yZ_take method_6_code 4 (some .int) [(0, 9, 12, 13)] ∈ mx_T := mx_in (i := 413) (by decide +kernel) rfl
theorem mw_414 : Cond.methodLink "MessageCrossbarLaw" 23 yX_take ∈ mx_T := mx_in (i := 414) (by decide +kernel) rfl
theorem mw_415 : Cond.instanceMethod yX_take ∈ mx_T := mx_in (i := 415) (by decide +kernel) rfl
theorem mw_416 : Cond.selects "MessageCrossbar" yX_take yX_take ∈ mx_T := mx_in (i := 416) (by decide +kernel) rfl
theorem mw_417 : Cond.code yX_take prog_1_method_5_code 7 (some .int) ∈ mx_T := mx_in (i := 417) (by decide +kernel) rfl
theorem mw_418 : Cond.methodLink "MessageCrossbar" 104 yX_sourceOf ∈ mx_T := mx_in (i := 418) (by decide +kernel) rfl
theorem mw_419 : Cond.static yX_sourceOf ∈ mx_T := mx_in (i := 419) (by decide +kernel) rfl
theorem mw_420 : Cond.code yX_sourceOf prog_1_method_31_code 1 (some .int) ∈ mx_T := mx_in (i := 420) (by decide +kernel) rfl
theorem mw_421 : Cond.methodLink "MessageCrossbarLaw" 73 yZ_port ∈ mx_T := mx_in (i := 421) (by decide +kernel) rfl
theorem mw_422 : Cond.static yZ_port ∈ mx_T := mx_in (i := 422) (by decide +kernel) rfl
theorem mw_423 : Cond.codeWith yZ_port method_7_code 5 (some .int) [(0, 10, 13, 30), (0, 10, 17, 13)] ∈ mx_T := mx_in (i := 423) (by decide +kernel) rfl
theorem mw_424 : Cond.classLink "MessageCrossbarLaw" 30 "java/lang/IndexOutOfBoundsException" ∈ mx_T := mx_in (i := 424) (by decide +kernel) rfl
theorem mw_425 : Cond.methodLink "MessageCrossbarLaw" 26 yX_port ∈ mx_T := mx_in (i := 425) (by decide +kernel) rfl
theorem mw_426 : Cond.instanceMethod yX_port ∈ mx_T := mx_in (i := 426) (by decide +kernel) rfl
theorem mw_427 : Cond.selects "MessageCrossbar" yX_port yX_port ∈ mx_T := mx_in (i := 427) (by decide +kernel) rfl
theorem mw_428 : Cond.code yX_port prog_1_method_7_code 4 (some .int) ∈ mx_T := mx_in (i := 428) (by decide +kernel) rfl
theorem mw_429 : Cond.classLink "MessageCrossbar" 117 "java/lang/IndexOutOfBoundsException" ∈ mx_T := mx_in (i := 429) (by decide +kernel) rfl
theorem mw_430 : Cond.instantiable "java/lang/IndexOutOfBoundsException" 6 ∈ mx_T := mx_in (i := 430) (by decide +kernel) rfl
theorem mw_432 : Cond.selects "java/lang/IndexOutOfBoundsException" ⟨"java/lang/Throwable", "fillInStackTrace", "(I)Ljava/lang/Throwable;"⟩ ⟨"java/lang/Throwable", "fillInStackTrace", "(I)Ljava/lang/Throwable;"⟩ ∈ mx_T := mx_in (i := 432) (by decide +kernel) rfl
theorem mw_433 : Cond.lays "java/lang/IndexOutOfBoundsException" "java/lang/Throwable" "cause" "Ljava/lang/Throwable;" ∈ mx_T := mx_in (i := 433) (by decide +kernel) rfl
theorem mw_434 : Cond.lays "java/lang/IndexOutOfBoundsException" "java/lang/Throwable" "stackTrace" "[Ljava/lang/StackTraceElement;" ∈ mx_T := mx_in (i := 434) (by decide +kernel) rfl
theorem mw_435 : Cond.lays "java/lang/IndexOutOfBoundsException" "java/lang/Throwable" "suppressedExceptions" "Ljava/util/List;" ∈ mx_T := mx_in (i := 435) (by decide +kernel) rfl
theorem mw_436 : Cond.lays "java/lang/IndexOutOfBoundsException" "java/lang/Throwable" "detailMessage" "Ljava/lang/String;" ∈ mx_T := mx_in (i := 436) (by decide +kernel) rfl
theorem mw_437 : Cond.lays "java/lang/IndexOutOfBoundsException" "java/lang/Throwable" "backtrace" "Ljava/lang/Object;" ∈ mx_T := mx_in (i := 437) (by decide +kernel) rfl
theorem mw_438 : Cond.methodLink "MessageCrossbar" 119 ⟨"java/lang/IndexOutOfBoundsException", "<init>", "()V"⟩ ∈ mx_T := mx_in (i := 438) (by decide +kernel) rfl
theorem mw_439 : Cond.instanceMethod ⟨"java/lang/IndexOutOfBoundsException", "<init>", "()V"⟩ ∈ mx_T := mx_in (i := 439) (by decide +kernel) rfl
theorem mw_440 : Cond.code ⟨"java/lang/IndexOutOfBoundsException", "<init>", "()V"⟩ prog_10_method_1_code 1 none ∈ mx_T := mx_in (i := 440) (by decide +kernel) rfl
theorem mw_441 : Cond.methodLink "java/lang/IndexOutOfBoundsException" 1 ⟨"java/lang/RuntimeException", "<init>", "()V"⟩ ∈ mx_T := mx_in (i := 441) (by decide +kernel) rfl
theorem mw_442 : Cond.lays "java/lang/IndexOutOfBoundsException" "java/lang/Throwable" "depth" "I" ∈ mx_T := mx_in (i := 442) (by decide +kernel) rfl
theorem mw_444 : Cond.methodLink "MessageCrossbar" 132 yP_idsInUse ∈ mx_T := mx_in (i := 444) (by decide +kernel) rfl
theorem mw_445 : Cond.methodLink "MessageCrossbarLaw" 77 yZ_owner ∈ mx_T := mx_in (i := 445) (by decide +kernel) rfl
theorem mw_446 : Cond.static yZ_owner ∈ mx_T := mx_in (i := 446) (by decide +kernel) rfl
theorem mw_447 : Cond.codeWith yZ_owner method_8_code 5 (some .int) [(0, 10, 13, 30)] ∈ mx_T := mx_in (i := 447) (by decide +kernel) rfl
theorem mw_448 : Cond.methodLink "MessageCrossbarLaw" 32 yX_owner ∈ mx_T := mx_in (i := 448) (by decide +kernel) rfl
theorem mw_449 : Cond.instanceMethod yX_owner ∈ mx_T := mx_in (i := 449) (by decide +kernel) rfl
theorem mw_450 : Cond.selects "MessageCrossbar" yX_owner yX_owner ∈ mx_T := mx_in (i := 450) (by decide +kernel) rfl
theorem mw_451 : Cond.code yX_owner prog_1_method_8_code 3 (some .int) ∈ mx_T := mx_in (i := 451) (by decide +kernel) rfl
theorem mw_452 : Cond.methodLink "MessageCrossbarLaw" 80 yZ_master ∈ mx_T := mx_in (i := 452) (by decide +kernel) rfl
theorem mw_453 : Cond.static yZ_master ∈ mx_T := mx_in (i := 453) (by decide +kernel) rfl
theorem mw_454 : Cond.codeWith yZ_master method_9_code 5 (some .int) [(0, 10, 13, 30), (0, 10, 17, 13)] ∈ mx_T := mx_in (i := 454) (by decide +kernel) rfl
theorem mw_455 : Cond.methodLink "MessageCrossbarLaw" 35 yX_master ∈ mx_T := mx_in (i := 455) (by decide +kernel) rfl
theorem mw_456 : Cond.instanceMethod yX_master ∈ mx_T := mx_in (i := 456) (by decide +kernel) rfl
theorem mw_457 : Cond.selects "MessageCrossbar" yX_master yX_master ∈ mx_T := mx_in (i := 457) (by decide +kernel) rfl
theorem mw_458 : Cond.code yX_master prog_1_method_9_code 4 (some .int) ∈ mx_T := mx_in (i := 458) (by decide +kernel) rfl
theorem mw_459 : Cond.methodLink "MessageCrossbarLaw" 83 yZ_memory ∈ mx_T := mx_in (i := 459) (by decide +kernel) rfl
theorem mw_460 : Cond.static yZ_memory ∈ mx_T := mx_in (i := 460) (by decide +kernel) rfl
theorem mw_461 : Cond.codeWith yZ_memory method_10_code 4 (some .int) [(0, 9, 12, 30)] ∈ mx_T := mx_in (i := 461) (by decide +kernel) rfl
theorem mw_462 : Cond.methodLink "MessageCrossbarLaw" 38 yX_memory ∈ mx_T := mx_in (i := 462) (by decide +kernel) rfl
theorem mw_463 : Cond.instanceMethod yX_memory ∈ mx_T := mx_in (i := 463) (by decide +kernel) rfl
theorem mw_464 : Cond.selects "MessageCrossbar" yX_memory yX_memory ∈ mx_T := mx_in (i := 464) (by decide +kernel) rfl
theorem mw_465 : Cond.code yX_memory prog_1_method_10_code 2 (some .int) ∈ mx_T := mx_in (i := 465) (by decide +kernel) rfl
theorem mw_466 : Cond.classLink "MessageCrossbarLaw" 42 "MessageCrossbarModel" ∈ mx_T := mx_in (i := 466) (by decide +kernel) rfl
theorem mw_467 : Cond.instantiable "MessageCrossbarModel" 20 ∈ mx_T := mx_in (i := 467) (by decide +kernel) rfl
theorem mw_468 : Cond.methodLink "MessageCrossbarLaw" 44 yR_init ∈ mx_T := mx_in (i := 468) (by decide +kernel) rfl
theorem mw_469 : Cond.instanceMethod yR_init ∈ mx_T := mx_in (i := 469) (by decide +kernel) rfl
theorem mw_470 : Cond.code yR_init prog_7_method_1_code 1 none ∈ mx_T := mx_in (i := 470) (by decide +kernel) rfl
theorem mw_471 : Cond.methodLink "MessageCrossbarModel" 1 objectInit ∈ mx_T := mx_in (i := 471) (by decide +kernel) rfl
theorem mw_472 : Cond.fieldLink "MessageCrossbarModel" 60 "MessageCrossbarModel" "code" "I" ∈ mx_T := mx_in (i := 472) (by decide +kernel) rfl
theorem mw_473 : Cond.fieldLink "MessageCrossbarModel" 7 "MessageCrossbarModel" "stands" "[I" ∈ mx_T := mx_in (i := 473) (by decide +kernel) rfl
theorem mw_474 : Cond.fieldLink "MessageCrossbarModel" 13 "MessageCrossbarModel" "since" "[I" ∈ mx_T := mx_in (i := 474) (by decide +kernel) rfl
theorem mw_475 : Cond.fieldLink "MessageCrossbarModel" 16 "MessageCrossbarModel" "sort" "[I" ∈ mx_T := mx_in (i := 475) (by decide +kernel) rfl
theorem mw_476 : Cond.fieldLink "MessageCrossbarModel" 19 "MessageCrossbarModel" "size" "[I" ∈ mx_T := mx_in (i := 476) (by decide +kernel) rfl
theorem mw_477 : Cond.fieldLink "MessageCrossbarModel" 22 "MessageCrossbarModel" "address" "[I" ∈ mx_T := mx_in (i := 477) (by decide +kernel) rfl
theorem mw_478 : Cond.fieldLink "MessageCrossbarModel" 25 "MessageCrossbarModel" "bytes" "[J" ∈ mx_T := mx_in (i := 478) (by decide +kernel) rfl
theorem mw_479 : Cond.fieldLink "MessageCrossbarModel" 29 "MessageCrossbarModel" "mask" "[I" ∈ mx_T := mx_in (i := 479) (by decide +kernel) rfl
theorem mw_480 : Cond.fieldLink "MessageCrossbarModel" 32 "MessageCrossbarModel" "id" "[I" ∈ mx_T := mx_in (i := 480) (by decide +kernel) rfl
theorem mw_481 : Cond.fieldLink "MessageCrossbarModel" 72 "MessageCrossbarModel" "moves" "I" ∈ mx_T := mx_in (i := 481) (by decide +kernel) rfl
theorem mw_482 : Cond.fieldLink "MessageCrossbarModel" 35 "MessageCrossbarModel" "refuses" "[Z" ∈ mx_T := mx_in (i := 482) (by decide +kernel) rfl
theorem mw_483 : Cond.fieldLink "MessageCrossbarModel" 39 "MessageCrossbarModel" "portInTurn" "[I" ∈ mx_T := mx_in (i := 483) (by decide +kernel) rfl
theorem mw_484 : Cond.fieldLink "MessageCrossbarModel" 42 "MessageCrossbarModel" "masterInTurn" "[I" ∈ mx_T := mx_in (i := 484) (by decide +kernel) rfl
theorem mw_485 : Cond.fieldLink "MessageCrossbarModel" 45 "MessageCrossbarModel" "left" "[I" ∈ mx_T := mx_in (i := 485) (by decide +kernel) rfl
theorem mw_486 : Cond.fieldLink "MessageCrossbarModel" 48 "MessageCrossbarModel" "jobs" "[I" ∈ mx_T := mx_in (i := 486) (by decide +kernel) rfl
theorem mw_487 : Cond.fieldLink "MessageCrossbarModel" 51 "MessageCrossbarModel" "memory" "[I" ∈ mx_T := mx_in (i := 487) (by decide +kernel) rfl
theorem mw_488 : Cond.fieldLink "MessageCrossbarModel" 54 "MessageCrossbarModel" "log" "[I" ∈ mx_T := mx_in (i := 488) (by decide +kernel) rfl
theorem mw_489 : Cond.fieldLink "MessageCrossbarModel" 57 "MessageCrossbarModel" "counts" "[I" ∈ mx_T := mx_in (i := 489) (by decide +kernel) rfl
theorem mw_490 : Cond.fieldLink "MessageCrossbarModel" 121 "MessageCrossbarModel" "latest" "J" ∈ mx_T := mx_in (i := 490) (by decide +kernel) rfl
theorem mw_491 : Cond.fieldLink "MessageCrossbarModel" 75 "MessageCrossbarModel" "moved" "Z" ∈ mx_T := mx_in (i := 491) (by decide +kernel) rfl
theorem mw_492 : Cond.lays "MessageCrossbarModel" "MessageCrossbarModel" "code" "I" ∈ mx_T := mx_in (i := 492) (by decide +kernel) rfl
theorem mw_494 : Cond.laysFinal "MessageCrossbarModel" "MessageCrossbarModel" "stands" "[I" ∈ mx_T := mx_in (i := 494) (by decide +kernel) rfl
theorem mw_496 : Cond.laysFinal "MessageCrossbarModel" "MessageCrossbarModel" "since" "[I" ∈ mx_T := mx_in (i := 496) (by decide +kernel) rfl
theorem mw_498 : Cond.laysFinal "MessageCrossbarModel" "MessageCrossbarModel" "sort" "[I" ∈ mx_T := mx_in (i := 498) (by decide +kernel) rfl
theorem mw_500 : Cond.laysFinal "MessageCrossbarModel" "MessageCrossbarModel" "size" "[I" ∈ mx_T := mx_in (i := 500) (by decide +kernel) rfl
theorem mw_502 : Cond.laysFinal "MessageCrossbarModel" "MessageCrossbarModel" "address" "[I" ∈ mx_T := mx_in (i := 502) (by decide +kernel) rfl
theorem mw_504 : Cond.laysFinal "MessageCrossbarModel" "MessageCrossbarModel" "bytes" "[J" ∈ mx_T := mx_in (i := 504) (by decide +kernel) rfl
theorem mw_506 : Cond.laysFinal "MessageCrossbarModel" "MessageCrossbarModel" "mask" "[I" ∈ mx_T := mx_in (i := 506) (by decide +kernel) rfl
theorem mw_508 : Cond.laysFinal "MessageCrossbarModel" "MessageCrossbarModel" "id" "[I" ∈ mx_T := mx_in (i := 508) (by decide +kernel) rfl
theorem mw_510 : Cond.lays "MessageCrossbarModel" "MessageCrossbarModel" "moves" "I" ∈ mx_T := mx_in (i := 510) (by decide +kernel) rfl
theorem mw_512 : Cond.laysFinal "MessageCrossbarModel" "MessageCrossbarModel" "refuses" "[Z" ∈ mx_T := mx_in (i := 512) (by decide +kernel) rfl
theorem mw_514 : Cond.laysFinal "MessageCrossbarModel" "MessageCrossbarModel" "portInTurn" "[I" ∈ mx_T := mx_in (i := 514) (by decide +kernel) rfl
theorem mw_516 : Cond.laysFinal "MessageCrossbarModel" "MessageCrossbarModel" "masterInTurn" "[I" ∈ mx_T := mx_in (i := 516) (by decide +kernel) rfl
theorem mw_518 : Cond.laysFinal "MessageCrossbarModel" "MessageCrossbarModel" "left" "[I" ∈ mx_T := mx_in (i := 518) (by decide +kernel) rfl
theorem mw_520 : Cond.laysFinal "MessageCrossbarModel" "MessageCrossbarModel" "jobs" "[I" ∈ mx_T := mx_in (i := 520) (by decide +kernel) rfl
theorem mw_522 : Cond.laysFinal "MessageCrossbarModel" "MessageCrossbarModel" "memory" "[I" ∈ mx_T := mx_in (i := 522) (by decide +kernel) rfl
theorem mw_524 : Cond.laysFinal "MessageCrossbarModel" "MessageCrossbarModel" "log" "[I" ∈ mx_T := mx_in (i := 524) (by decide +kernel) rfl
theorem mw_526 : Cond.laysFinal "MessageCrossbarModel" "MessageCrossbarModel" "counts" "[I" ∈ mx_T := mx_in (i := 526) (by decide +kernel) rfl
theorem mw_528 : Cond.lays "MessageCrossbarModel" "MessageCrossbarModel" "latest" "J" ∈ mx_T := mx_in (i := 528) (by decide +kernel) rfl
theorem mw_530 : Cond.lays "MessageCrossbarModel" "MessageCrossbarModel" "moved" "Z" ∈ mx_T := mx_in (i := 530) (by decide +kernel) rfl
theorem mw_533 : Cond.arrayClass .long ∈ mx_T := mx_in (i := 533) (by decide +kernel) rfl
theorem mw_534 : Cond.arrayClass .boolean ∈ mx_T := mx_in (i := 534) (by decide +kernel) rfl
theorem mw_535 : Cond.methodLink "MessageCrossbarLaw" 53 yR_thrown ∈ mx_T := mx_in (i := 535) (by decide +kernel) rfl
theorem mw_536 : Cond.instanceMethod yR_thrown ∈ mx_T := mx_in (i := 536) (by decide +kernel) rfl
theorem mw_537 : Cond.selects "MessageCrossbarModel" yR_thrown yR_thrown ∈ mx_T := mx_in (i := 537) (by decide +kernel) rfl
theorem mw_538 : Cond.code yR_thrown prog_7_method_2_code 1 (some .int) ∈ mx_T := mx_in (i := 538) (by decide +kernel) rfl
theorem mw_539 : Cond.methodLink "MessageCrossbarLaw" 52 yR_request ∈ mx_T := mx_in (i := 539) (by decide +kernel) rfl
theorem mw_540 : Cond.instanceMethod yR_request ∈ mx_T := mx_in (i := 540) (by decide +kernel) rfl
theorem mw_541 : Cond.selects "MessageCrossbarModel" yR_request yR_request ∈ mx_T := mx_in (i := 541) (by decide +kernel) rfl
theorem mw_542 : Cond.code yR_request prog_7_method_13_code 11 (some .int) ∈ mx_T := mx_in (i := 542) (by decide +kernel) rfl
theorem mw_543 : Cond.methodLink "MessageCrossbarModel" 83 yR_in ∈ mx_T := mx_in (i := 543) (by decide +kernel) rfl
theorem mw_544 : Cond.static yR_in ∈ mx_T := mx_in (i := 544) (by decide +kernel) rfl
theorem mw_545 : Cond.code yR_in prog_7_method_3_code 2 (some .boolean) ∈ mx_T := mx_in (i := 545) (by decide +kernel) rfl
theorem mw_546 : Cond.methodLink "MessageCrossbarModel" 87 yR_many ∈ mx_T := mx_in (i := 546) (by decide +kernel) rfl
theorem mw_548 : Cond.instanceMethod yR_many ∈ mx_T := mx_in (i := 548) (by decide +kernel) rfl
theorem mw_549 : Cond.code yR_many prog_7_method_8_code 5 (some .int) ∈ mx_T := mx_in (i := 549) (by decide +kernel) rfl
theorem mw_550 : Cond.methodLink "MessageCrossbarModel" 68 yR_isAt ∈ mx_T := mx_in (i := 550) (by decide +kernel) rfl
theorem mw_552 : Cond.instanceMethod yR_isAt ∈ mx_T := mx_in (i := 552) (by decide +kernel) rfl
theorem mw_553 : Cond.code yR_isAt prog_7_method_7_code 4 (some .boolean) ∈ mx_T := mx_in (i := 553) (by decide +kernel) rfl
theorem mw_554 : Cond.methodLink "MessageCrossbarModel" 64 yR_portOf ∈ mx_T := mx_in (i := 554) (by decide +kernel) rfl
theorem mw_555 : Cond.static yR_portOf ∈ mx_T := mx_in (i := 555) (by decide +kernel) rfl
theorem mw_556 : Cond.code yR_portOf prog_7_method_4_code 1 (some .int) ∈ mx_T := mx_in (i := 556) (by decide +kernel) rfl
theorem mw_557 : Cond.methodLink "MessageCrossbarModel" 90 yR_go ∈ mx_T := mx_in (i := 557) (by decide +kernel) rfl
theorem mw_559 : Cond.instanceMethod yR_go ∈ mx_T := mx_in (i := 559) (by decide +kernel) rfl
theorem mw_560 : Cond.code yR_go prog_7_method_10_code 3 none ∈ mx_T := mx_in (i := 560) (by decide +kernel) rfl
theorem mw_561 : Cond.methodLink "MessageCrossbarLaw" 60 yR_accept ∈ mx_T := mx_in (i := 561) (by decide +kernel) rfl
theorem mw_562 : Cond.instanceMethod yR_accept ∈ mx_T := mx_in (i := 562) (by decide +kernel) rfl
theorem mw_563 : Cond.selects "MessageCrossbarModel" yR_accept yR_accept ∈ mx_T := mx_in (i := 563) (by decide +kernel) rfl
theorem mw_564 : Cond.code yR_accept prog_7_method_14_code 4 (some .boolean) ∈ mx_T := mx_in (i := 564) (by decide +kernel) rfl
theorem mw_565 : Cond.methodLink "MessageCrossbarLaw" 64 yR_tick ∈ mx_T := mx_in (i := 565) (by decide +kernel) rfl
theorem mw_566 : Cond.instanceMethod yR_tick ∈ mx_T := mx_in (i := 566) (by decide +kernel) rfl
theorem mw_567 : Cond.selects "MessageCrossbarModel" yR_tick yR_tick ∈ mx_T := mx_in (i := 567) (by decide +kernel) rfl
theorem mw_568 : Cond.code yR_tick prog_7_method_19_code 4 (some .int) ∈ mx_T := mx_in (i := 568) (by decide +kernel) rfl
theorem mw_569 : Cond.methodLink "MessageCrossbarModel" 112 yR_answers ∈ mx_T := mx_in (i := 569) (by decide +kernel) rfl
theorem mw_571 : Cond.instanceMethod yR_answers ∈ mx_T := mx_in (i := 571) (by decide +kernel) rfl
theorem mw_572 : Cond.code yR_answers prog_7_method_15_code 5 none ∈ mx_T := mx_in (i := 572) (by decide +kernel) rfl
theorem mw_573 : Cond.methodLink "MessageCrossbarModel" 94 yR_first ∈ mx_T := mx_in (i := 573) (by decide +kernel) rfl
theorem mw_575 : Cond.instanceMethod yR_first ∈ mx_T := mx_in (i := 575) (by decide +kernel) rfl
theorem mw_576 : Cond.code yR_first prog_7_method_9_code 5 (some .int) ∈ mx_T := mx_in (i := 576) (by decide +kernel) rfl
theorem mw_577 : Cond.methodLink "MessageCrossbarModel" 115 yR_serve ∈ mx_T := mx_in (i := 577) (by decide +kernel) rfl
theorem mw_579 : Cond.instanceMethod yR_serve ∈ mx_T := mx_in (i := 579) (by decide +kernel) rfl
theorem mw_580 : Cond.code yR_serve prog_7_method_17_code 5 none ∈ mx_T := mx_in (i := 580) (by decide +kernel) rfl
theorem mw_581 : Cond.methodLink "MessageCrossbarModel" 99 yR_work ∈ mx_T := mx_in (i := 581) (by decide +kernel) rfl
theorem mw_583 : Cond.instanceMethod yR_work ∈ mx_T := mx_in (i := 583) (by decide +kernel) rfl
theorem mw_584 : Cond.code yR_work prog_7_method_16_code 6 none ∈ mx_T := mx_in (i := 584) (by decide +kernel) rfl
theorem mw_585 : Cond.constantLong "MessageCrossbarModel" 97 (255 : Int64) ∈ mx_T := mx_in (i := 585) (by decide +kernel) rfl
theorem mw_586 : Cond.methodLink "MessageCrossbarModel" 103 yR_widthOf ∈ mx_T := mx_in (i := 586) (by decide +kernel) rfl
theorem mw_587 : Cond.static yR_widthOf ∈ mx_T := mx_in (i := 587) (by decide +kernel) rfl
theorem mw_588 : Cond.code yR_widthOf prog_7_method_5_code 1 (some .int) ∈ mx_T := mx_in (i := 588) (by decide +kernel) rfl
theorem mw_589 : Cond.methodLink "MessageCrossbarModel" 106 yR_delayOf ∈ mx_T := mx_in (i := 589) (by decide +kernel) rfl
theorem mw_590 : Cond.static yR_delayOf ∈ mx_T := mx_in (i := 590) (by decide +kernel) rfl
theorem mw_591 : Cond.code yR_delayOf prog_7_method_6_code 1 (some .int) ∈ mx_T := mx_in (i := 591) (by decide +kernel) rfl
theorem mw_592 : Cond.methodLink "MessageCrossbarModel" 118 yR_fetch ∈ mx_T := mx_in (i := 592) (by decide +kernel) rfl
theorem mw_594 : Cond.instanceMethod yR_fetch ∈ mx_T := mx_in (i := 594) (by decide +kernel) rfl
theorem mw_595 : Cond.code yR_fetch prog_7_method_18_code 6 none ∈ mx_T := mx_in (i := 595) (by decide +kernel) rfl
theorem mw_596 : Cond.methodLink "MessageCrossbarModel" 109 yR_freeId ∈ mx_T := mx_in (i := 596) (by decide +kernel) rfl
theorem mw_598 : Cond.instanceMethod yR_freeId ∈ mx_T := mx_in (i := 598) (by decide +kernel) rfl
theorem mw_599 : Cond.code yR_freeId prog_7_method_12_code 3 (some .int) ∈ mx_T := mx_in (i := 599) (by decide +kernel) rfl
theorem mw_600 : Cond.methodLink "MessageCrossbarModel" 79 yR_holder ∈ mx_T := mx_in (i := 600) (by decide +kernel) rfl
theorem mw_602 : Cond.instanceMethod yR_holder ∈ mx_T := mx_in (i := 602) (by decide +kernel) rfl
theorem mw_603 : Cond.code yR_holder prog_7_method_11_code 4 (some .int) ∈ mx_T := mx_in (i := 603) (by decide +kernel) rfl
theorem mw_604 : Cond.methodLink "MessageCrossbarLaw" 67 yR_take ∈ mx_T := mx_in (i := 604) (by decide +kernel) rfl
theorem mw_605 : Cond.instanceMethod yR_take ∈ mx_T := mx_in (i := 605) (by decide +kernel) rfl
theorem mw_606 : Cond.selects "MessageCrossbarModel" yR_take yR_take ∈ mx_T := mx_in (i := 606) (by decide +kernel) rfl
theorem mw_607 : Cond.code yR_take prog_7_method_20_code 4 (some .int) ∈ mx_T := mx_in (i := 607) (by decide +kernel) rfl
theorem mw_608 : Cond.methodLink "MessageCrossbarLaw" 72 yR_data ∈ mx_T := mx_in (i := 608) (by decide +kernel) rfl
theorem mw_609 : Cond.instanceMethod yR_data ∈ mx_T := mx_in (i := 609) (by decide +kernel) rfl
theorem mw_610 : Cond.selects "MessageCrossbarModel" yR_data yR_data ∈ mx_T := mx_in (i := 610) (by decide +kernel) rfl
theorem mw_611 : Cond.code yR_data prog_7_method_21_code 1 (some .long) ∈ mx_T := mx_in (i := 611) (by decide +kernel) rfl
theorem mw_612 : Cond.methodLink "MessageCrossbarLaw" 76 yR_port ∈ mx_T := mx_in (i := 612) (by decide +kernel) rfl
theorem mw_613 : Cond.instanceMethod yR_port ∈ mx_T := mx_in (i := 613) (by decide +kernel) rfl
theorem mw_614 : Cond.selects "MessageCrossbarModel" yR_port yR_port ∈ mx_T := mx_in (i := 614) (by decide +kernel) rfl
theorem mw_615 : Cond.code yR_port prog_7_method_22_code 3 (some .int) ∈ mx_T := mx_in (i := 615) (by decide +kernel) rfl
theorem mw_616 : Cond.methodLink "MessageCrossbarLaw" 79 yR_owner ∈ mx_T := mx_in (i := 616) (by decide +kernel) rfl
theorem mw_617 : Cond.instanceMethod yR_owner ∈ mx_T := mx_in (i := 617) (by decide +kernel) rfl
theorem mw_618 : Cond.selects "MessageCrossbarModel" yR_owner yR_owner ∈ mx_T := mx_in (i := 618) (by decide +kernel) rfl
theorem mw_619 : Cond.code yR_owner prog_7_method_23_code 3 (some .int) ∈ mx_T := mx_in (i := 619) (by decide +kernel) rfl
theorem mw_620 : Cond.methodLink "MessageCrossbarLaw" 82 yR_master ∈ mx_T := mx_in (i := 620) (by decide +kernel) rfl
theorem mw_621 : Cond.instanceMethod yR_master ∈ mx_T := mx_in (i := 621) (by decide +kernel) rfl
theorem mw_622 : Cond.selects "MessageCrossbarModel" yR_master yR_master ∈ mx_T := mx_in (i := 622) (by decide +kernel) rfl
theorem mw_623 : Cond.code yR_master prog_7_method_24_code 5 (some .int) ∈ mx_T := mx_in (i := 623) (by decide +kernel) rfl
theorem mw_624 : Cond.methodLink "MessageCrossbarLaw" 85 yR_memory ∈ mx_T := mx_in (i := 624) (by decide +kernel) rfl
theorem mw_625 : Cond.instanceMethod yR_memory ∈ mx_T := mx_in (i := 625) (by decide +kernel) rfl
theorem mw_626 : Cond.selects "MessageCrossbarModel" yR_memory yR_memory ∈ mx_T := mx_in (i := 626) (by decide +kernel) rfl
theorem mw_627 : Cond.code yR_memory prog_7_method_25_code 2 (some .int) ∈ mx_T := mx_in (i := 627) (by decide +kernel) rfl
theorem mw_628 : Cond.methodLink "MessageCrossbarLaw" 89 yR_done ∈ mx_T := mx_in (i := 628) (by decide +kernel) rfl
theorem mw_629 : Cond.instanceMethod yR_done ∈ mx_T := mx_in (i := 629) (by decide +kernel) rfl
theorem mw_630 : Cond.selects "MessageCrossbarModel" yR_done yR_done ∈ mx_T := mx_in (i := 630) (by decide +kernel) rfl
theorem mw_631 : Cond.code yR_done prog_7_method_26_code 2 (some .int) ∈ mx_T := mx_in (i := 631) (by decide +kernel) rfl
theorem mw_632 : Cond.methodLink "MessageCrossbarLaw" 93 yR_count ∈ mx_T := mx_in (i := 632) (by decide +kernel) rfl
theorem mw_633 : Cond.instanceMethod yR_count ∈ mx_T := mx_in (i := 633) (by decide +kernel) rfl
theorem mw_634 : Cond.selects "MessageCrossbarModel" yR_count yR_count ∈ mx_T := mx_in (i := 634) (by decide +kernel) rfl
theorem mw_635 : Cond.code yR_count prog_7_method_27_code 2 (some .int) ∈ mx_T := mx_in (i := 635) (by decide +kernel) rfl
theorem mw_636 : Cond.constantLong "MessageCrossbarLaw" 45 (4294967295 : Int64) ∈ mx_T := mx_in (i := 636) (by decide +kernel) rfl
theorem ms_1 : Cond.selects "MessageCrossbar" yX_runTick yX_runTick ∈ mx_T := mx_se (y := yX_runTick) (n := 7) (i := 1) (by decide +kernel) rfl
theorem ms_2 : Cond.selects "MessageCrossbar" yX_moveAnswers yX_moveAnswers ∈ mx_T := mx_se (y := yX_moveAnswers) (n := 7) (i := 2) (by decide +kernel) rfl
theorem ms_3 : Cond.selects "MessageCrossbar" yX_nextAnsweringPort yX_nextAnsweringPort ∈ mx_T := mx_se (y := yX_nextAnsweringPort) (n := 7) (i := 3) (by decide +kernel) rfl
theorem ms_4 : Cond.selects "MessageCrossbar" yX_moveAnswer yX_moveAnswer ∈ mx_T := mx_se (y := yX_moveAnswer) (n := 7) (i := 4) (by decide +kernel) rfl
theorem ms_5 : Cond.selects "MessageCrossbar" yX_servePorts yX_servePorts ∈ mx_T := mx_se (y := yX_servePorts) (n := 7) (i := 5) (by decide +kernel) rfl
theorem ms_6 : Cond.selects "MessageCrossbar" yX_finishJob yX_finishJob ∈ mx_T := mx_se (y := yX_finishJob) (n := 7) (i := 6) (by decide +kernel) rfl
theorem ms_7 : Cond.selects "MessageCrossbar" yX_carryOut yX_carryOut ∈ mx_T := mx_se (y := yX_carryOut) (n := 7) (i := 7) (by decide +kernel) rfl
theorem ms_8 : Cond.selects "MessageCrossbar" yX_readBytes yX_readBytes ∈ mx_T := mx_se (y := yX_readBytes) (n := 7) (i := 8) (by decide +kernel) rfl
theorem ms_9 : Cond.selects "MessageCrossbar" yX_writeBytes yX_writeBytes ∈ mx_T := mx_se (y := yX_writeBytes) (n := 7) (i := 9) (by decide +kernel) rfl
theorem ms_10 : Cond.selects "MessageCrossbar" yX_beginJob yX_beginJob ∈ mx_T := mx_se (y := yX_beginJob) (n := 7) (i := 10) (by decide +kernel) rfl
theorem ms_11 : Cond.selects "MessageCrossbar" yX_moveRequests yX_moveRequests ∈ mx_T := mx_se (y := yX_moveRequests) (n := 7) (i := 11) (by decide +kernel) rfl
theorem ms_12 : Cond.selects "MessageCrossbar" yX_nextRequestingMaster yX_nextRequestingMaster ∈ mx_T := mx_se (y := yX_nextRequestingMaster) (n := 7) (i := 12) (by decide +kernel) rfl
theorem ms_13 : Cond.selects "MessageCrossbar" yX_moveRequest yX_moveRequest ∈ mx_T := mx_se (y := yX_moveRequest) (n := 7) (i := 13) (by decide +kernel) rfl
theorem ms_14 : Cond.selects "MessageCrossbar" yX_anyJobRuns yX_anyJobRuns ∈ mx_T := mx_se (y := yX_anyJobRuns) (n := 7) (i := 14) (by decide +kernel) rfl
theorem ms_15 : Cond.selects "MessageCrossbar" yX_countStillTicks yX_countStillTicks ∈ mx_T := mx_se (y := yX_countStillTicks) (n := 7) (i := 15) (by decide +kernel) rfl
theorem ms_16 : Cond.selects "MessageCrossbarModel" yR_many yR_many ∈ mx_T := mx_se (y := yR_many) (n := 20) (i := 16) (by decide +kernel) rfl
theorem ms_17 : Cond.selects "MessageCrossbarModel" yR_isAt yR_isAt ∈ mx_T := mx_se (y := yR_isAt) (n := 20) (i := 17) (by decide +kernel) rfl
theorem ms_18 : Cond.selects "MessageCrossbarModel" yR_go yR_go ∈ mx_T := mx_se (y := yR_go) (n := 20) (i := 18) (by decide +kernel) rfl
theorem ms_19 : Cond.selects "MessageCrossbarModel" yR_answers yR_answers ∈ mx_T := mx_se (y := yR_answers) (n := 20) (i := 19) (by decide +kernel) rfl
theorem ms_20 : Cond.selects "MessageCrossbarModel" yR_first yR_first ∈ mx_T := mx_se (y := yR_first) (n := 20) (i := 20) (by decide +kernel) rfl
theorem ms_21 : Cond.selects "MessageCrossbarModel" yR_serve yR_serve ∈ mx_T := mx_se (y := yR_serve) (n := 20) (i := 21) (by decide +kernel) rfl
theorem ms_22 : Cond.selects "MessageCrossbarModel" yR_work yR_work ∈ mx_T := mx_se (y := yR_work) (n := 20) (i := 22) (by decide +kernel) rfl
theorem ms_23 : Cond.selects "MessageCrossbarModel" yR_fetch yR_fetch ∈ mx_T := mx_se (y := yR_fetch) (n := 20) (i := 23) (by decide +kernel) rfl
theorem ms_24 : Cond.selects "MessageCrossbarModel" yR_freeId yR_freeId ∈ mx_T := mx_se (y := yR_freeId) (n := 20) (i := 24) (by decide +kernel) rfl
theorem ms_25 : Cond.selects "MessageCrossbarModel" yR_holder yR_holder ∈ mx_T := mx_se (y := yR_holder) (n := 20) (i := 25) (by decide +kernel) rfl
def mR_L : String := "MessageCrossbar$Line"
def mT_L : u_T := fun k => match k with
  | 0 => ("MessageCrossbar$Line", "keys", "[I", true)
  | _ => ("MessageCrossbar$Line", "size", "I", false)
def mt_L : Nat → FieldType := fun k => match k with
  | 0 => .array .int
  | _ => .int
theorem mn_L : ∀ a, a < 2 → ∀ b, b < 2 → a ≠ b → (mT_L a).2.1 ≠ (mT_L b).2.1 := by decide +kernel
theorem mk_L : ∀ k, k < 2 → parseFieldDescriptor (mT_L k).2.2.1 = some (mt_L k) := by decide +kernel
theorem mh_L : ∀ w ∈ u_ws mR_L mT_L 2, w ∈ mx_T := by
  show ∀ w ∈ [u_lay mR_L mT_L 0, u_lay mR_L mT_L 1], w ∈ mx_T
  exact List.forall_mem_cons.mpr ⟨mw_38, List.forall_mem_cons.mpr ⟨mw_40, fun _ h => absurd h List.not_mem_nil⟩⟩
def mR_M : String := "MessageCrossbar$Master"
def mT_M : u_T := fun k => match k with
  | 0 => ("MessageCrossbar$Master", "waiting", "LMessageCrossbar$Line;", true)
  | 1 => ("MessageCrossbar$Master", "box", "LMessageCrossbar$Line;", true)
  | 2 => ("MessageCrossbar$Master", "inFlight", "I", false)
  | 3 => ("MessageCrossbar$Master", "accepts", "Z", false)
  | _ => ("MessageCrossbar$Master", "latestPort", "I", false)
def mt_M : Nat → FieldType := fun k => match k with
  | 0 => .object "MessageCrossbar$Line"
  | 1 => .object "MessageCrossbar$Line"
  | 2 => .int
  | 3 => .boolean
  | _ => .int
theorem mn_M : ∀ a, a < 5 → ∀ b, b < 5 → a ≠ b → (mT_M a).2.1 ≠ (mT_M b).2.1 := by decide +kernel
theorem mk_M : ∀ k, k < 5 → parseFieldDescriptor (mT_M k).2.2.1 = some (mt_M k) := by decide +kernel
theorem mh_M : ∀ w ∈ u_ws mR_M mT_M 5, w ∈ mx_T := by
  show ∀ w ∈ [u_lay mR_M mT_M 0, u_lay mR_M mT_M 1, u_lay mR_M mT_M 2, u_lay mR_M mT_M 3, u_lay mR_M mT_M 4], w ∈ mx_T
  exact List.forall_mem_cons.mpr ⟨mw_54, List.forall_mem_cons.mpr ⟨mw_56, List.forall_mem_cons.mpr ⟨mw_58, List.forall_mem_cons.mpr ⟨mw_60, List.forall_mem_cons.mpr ⟨mw_62, fun _ h => absurd h List.not_mem_nil⟩⟩⟩⟩⟩
def mR_G : String := "MessageCrossbar$Message"
def mT_G : u_T := fun k => match k with
  | 0 => ("MessageCrossbar$Message", "sort", "I", false)
  | 1 => ("MessageCrossbar$Message", "z", "I", false)
  | 2 => ("MessageCrossbar$Message", "address", "I", false)
  | 3 => ("MessageCrossbar$Message", "data", "J", false)
  | _ => ("MessageCrossbar$Message", "mask", "I", false)
def mt_G : Nat → FieldType := fun k => match k with
  | 0 => .int
  | 1 => .int
  | 2 => .int
  | 3 => .long
  | _ => .int
theorem mn_G : ∀ a, a < 5 → ∀ b, b < 5 → a ≠ b → (mT_G a).2.1 ≠ (mT_G b).2.1 := by decide +kernel
theorem mk_G : ∀ k, k < 5 → parseFieldDescriptor (mT_G k).2.2.1 = some (mt_G k) := by decide +kernel
theorem mh_G : ∀ w ∈ u_ws mR_G mT_G 5, w ∈ mx_T := by
  show ∀ w ∈ [u_lay mR_G mT_G 0, u_lay mR_G mT_G 1, u_lay mR_G mT_G 2, u_lay mR_G mT_G 3, u_lay mR_G mT_G 4], w ∈ mx_T
  exact List.forall_mem_cons.mpr ⟨mw_118, List.forall_mem_cons.mpr ⟨mw_120, List.forall_mem_cons.mpr ⟨mw_122, List.forall_mem_cons.mpr ⟨mw_124, List.forall_mem_cons.mpr ⟨mw_126, fun _ h => absurd h List.not_mem_nil⟩⟩⟩⟩⟩
def mR_P : String := "MessageCrossbar$Port"
def mT_P : u_T := fun k => match k with
  | 0 => ("MessageCrossbar$Port", "requests", "LMessageCrossbar$Line;", true)
  | 1 => ("MessageCrossbar$Port", "answers", "LMessageCrossbar$Line;", true)
  | 2 => ("MessageCrossbar$Port", "owners", "[I", true)
  | 3 => ("MessageCrossbar$Port", "job", "I", false)
  | 4 => ("MessageCrossbar$Port", "ticksLeft", "I", false)
  | 5 => ("MessageCrossbar$Port", "jobsDone", "I", false)
  | _ => ("MessageCrossbar$Port", "latestMaster", "I", false)
def mt_P : Nat → FieldType := fun k => match k with
  | 0 => .object "MessageCrossbar$Line"
  | 1 => .object "MessageCrossbar$Line"
  | 2 => .array .int
  | 3 => .int
  | 4 => .int
  | 5 => .int
  | _ => .int
theorem mn_P : ∀ a, a < 7 → ∀ b, b < 7 → a ≠ b → (mT_P a).2.1 ≠ (mT_P b).2.1 := by decide +kernel
theorem mk_P : ∀ k, k < 7 → parseFieldDescriptor (mT_P k).2.2.1 = some (mt_P k) := by decide +kernel
theorem mh_P : ∀ w ∈ u_ws mR_P mT_P 7, w ∈ mx_T := by
  show ∀ w ∈ [u_lay mR_P mT_P 0, u_lay mR_P mT_P 1, u_lay mR_P mT_P 2, u_lay mR_P mT_P 3, u_lay mR_P mT_P 4, u_lay mR_P mT_P 5, u_lay mR_P mT_P 6], w ∈ mx_T
  exact List.forall_mem_cons.mpr ⟨mw_88, List.forall_mem_cons.mpr ⟨mw_90, List.forall_mem_cons.mpr ⟨mw_92, List.forall_mem_cons.mpr ⟨mw_94, List.forall_mem_cons.mpr ⟨mw_96, List.forall_mem_cons.mpr ⟨mw_98, List.forall_mem_cons.mpr ⟨mw_100, fun _ h => absurd h List.not_mem_nil⟩⟩⟩⟩⟩⟩⟩
def mR_X : String := "MessageCrossbar"
def mT_X : u_T := fun k => match k with
  | 0 => ("MessageCrossbar", "masters", "[LMessageCrossbar$Master;", true)
  | 1 => ("MessageCrossbar", "ports", "[LMessageCrossbar$Port;", true)
  | 2 => ("MessageCrossbar", "messages", "[LMessageCrossbar$Message;", true)
  | 3 => ("MessageCrossbar", "bytes", "[B", true)
  | 4 => ("MessageCrossbar", "log", "[I", true)
  | 5 => ("MessageCrossbar", "counts", "[I", true)
  | _ => ("MessageCrossbar", "latestData", "J", false)
def mt_X : Nat → FieldType := fun k => match k with
  | 0 => .array (.object "MessageCrossbar$Master")
  | 1 => .array (.object "MessageCrossbar$Port")
  | 2 => .array (.object "MessageCrossbar$Message")
  | 3 => .array .byte
  | 4 => .array .int
  | 5 => .array .int
  | _ => .long
theorem mn_X : ∀ a, a < 7 → ∀ b, b < 7 → a ≠ b → (mT_X a).2.1 ≠ (mT_X b).2.1 := by decide +kernel
theorem mk_X : ∀ k, k < 7 → parseFieldDescriptor (mT_X k).2.2.1 = some (mt_X k) := by decide +kernel
theorem mh_X : ∀ w ∈ u_ws mR_X mT_X 7, w ∈ mx_T := by
  show ∀ w ∈ [u_lay mR_X mT_X 0, u_lay mR_X mT_X 1, u_lay mR_X mT_X 2, u_lay mR_X mT_X 3, u_lay mR_X mT_X 4, u_lay mR_X mT_X 5, u_lay mR_X mT_X 6], w ∈ mx_T
  exact List.forall_mem_cons.mpr ⟨mw_136, List.forall_mem_cons.mpr ⟨mw_138, List.forall_mem_cons.mpr ⟨mw_140, List.forall_mem_cons.mpr ⟨mw_142, List.forall_mem_cons.mpr ⟨mw_144, List.forall_mem_cons.mpr ⟨mw_146, List.forall_mem_cons.mpr ⟨mw_148, fun _ h => absurd h List.not_mem_nil⟩⟩⟩⟩⟩⟩⟩
def mR_R : String := "MessageCrossbarModel"
def mT_R : u_T := fun k => match k with
  | 0 => ("MessageCrossbarModel", "code", "I", false)
  | 1 => ("MessageCrossbarModel", "stands", "[I", true)
  | 2 => ("MessageCrossbarModel", "since", "[I", true)
  | 3 => ("MessageCrossbarModel", "sort", "[I", true)
  | 4 => ("MessageCrossbarModel", "size", "[I", true)
  | 5 => ("MessageCrossbarModel", "address", "[I", true)
  | 6 => ("MessageCrossbarModel", "bytes", "[J", true)
  | 7 => ("MessageCrossbarModel", "mask", "[I", true)
  | 8 => ("MessageCrossbarModel", "id", "[I", true)
  | 9 => ("MessageCrossbarModel", "moves", "I", false)
  | 10 => ("MessageCrossbarModel", "refuses", "[Z", true)
  | 11 => ("MessageCrossbarModel", "portInTurn", "[I", true)
  | 12 => ("MessageCrossbarModel", "masterInTurn", "[I", true)
  | 13 => ("MessageCrossbarModel", "left", "[I", true)
  | 14 => ("MessageCrossbarModel", "jobs", "[I", true)
  | 15 => ("MessageCrossbarModel", "memory", "[I", true)
  | 16 => ("MessageCrossbarModel", "log", "[I", true)
  | 17 => ("MessageCrossbarModel", "counts", "[I", true)
  | 18 => ("MessageCrossbarModel", "latest", "J", false)
  | _ => ("MessageCrossbarModel", "moved", "Z", false)
def mt_R : Nat → FieldType := fun k => match k with
  | 0 => .int
  | 1 => .array .int
  | 2 => .array .int
  | 3 => .array .int
  | 4 => .array .int
  | 5 => .array .int
  | 6 => .array .long
  | 7 => .array .int
  | 8 => .array .int
  | 9 => .int
  | 10 => .array .boolean
  | 11 => .array .int
  | 12 => .array .int
  | 13 => .array .int
  | 14 => .array .int
  | 15 => .array .int
  | 16 => .array .int
  | 17 => .array .int
  | 18 => .long
  | _ => .boolean
theorem mn_R : ∀ a, a < 20 → ∀ b, b < 20 → a ≠ b → (mT_R a).2.1 ≠ (mT_R b).2.1 := by decide +kernel
theorem mk_R : ∀ k, k < 20 → parseFieldDescriptor (mT_R k).2.2.1 = some (mt_R k) := by decide +kernel
theorem mh_R : ∀ w ∈ u_ws mR_R mT_R 20, w ∈ mx_T := by
  show ∀ w ∈ [u_lay mR_R mT_R 0, u_lay mR_R mT_R 1, u_lay mR_R mT_R 2, u_lay mR_R mT_R 3, u_lay mR_R mT_R 4, u_lay mR_R mT_R 5, u_lay mR_R mT_R 6, u_lay mR_R mT_R 7, u_lay mR_R mT_R 8, u_lay mR_R mT_R 9, u_lay mR_R mT_R 10, u_lay mR_R mT_R 11, u_lay mR_R mT_R 12, u_lay mR_R mT_R 13, u_lay mR_R mT_R 14, u_lay mR_R mT_R 15, u_lay mR_R mT_R 16, u_lay mR_R mT_R 17, u_lay mR_R mT_R 18, u_lay mR_R mT_R 19], w ∈ mx_T
  exact List.forall_mem_cons.mpr ⟨mw_492, List.forall_mem_cons.mpr ⟨mw_494, List.forall_mem_cons.mpr ⟨mw_496, List.forall_mem_cons.mpr ⟨mw_498, List.forall_mem_cons.mpr ⟨mw_500, List.forall_mem_cons.mpr ⟨mw_502, List.forall_mem_cons.mpr ⟨mw_504, List.forall_mem_cons.mpr ⟨mw_506, List.forall_mem_cons.mpr ⟨mw_508, List.forall_mem_cons.mpr ⟨mw_510, List.forall_mem_cons.mpr ⟨mw_512, List.forall_mem_cons.mpr ⟨mw_514, List.forall_mem_cons.mpr ⟨mw_516, List.forall_mem_cons.mpr ⟨mw_518, List.forall_mem_cons.mpr ⟨mw_520, List.forall_mem_cons.mpr ⟨mw_522, List.forall_mem_cons.mpr ⟨mw_524, List.forall_mem_cons.mpr ⟨mw_526, List.forall_mem_cons.mpr ⟨mw_528, List.forall_mem_cons.mpr ⟨mw_530, fun _ h => absurd h List.not_mem_nil⟩⟩⟩⟩⟩⟩⟩⟩⟩⟩⟩⟩⟩⟩⟩⟩⟩⟩⟩⟩
abbrev mx_cl : List vw_C := [(mR_L, mT_L, 2), (mR_M, mT_M, 5), (mR_G, mT_G, 5), (mR_P, mT_P, 7), (mR_X, mT_X, 7), (mR_R, mT_R, 20)]
/-! words of a callee among a caller's: all have the same list behind their own code -/
theorem mx_one {w : Cond} (h : w ∈ mx_T) : w ∈ mx_T ∧ ((w.onTables && w.keeps) = true ∨ ∃ ty, w = .arrayClass ty) := ⟨h, good_of_word (List.mem_filter.mp h).2⟩
theorem mx_good {c : Cond} (h : c ∈ mx_T) : GoodIn mx_T (c :: mx_T) := fun w hw => (List.mem_cons.mp hw).elim (fun e => by rw [e]; exact mx_one h) mx_one
theorem mx_gV {own C : String} {idx : Nat} {y : MethodName} {c : Cond} (h1 : Cond.methodLink own idx y ∈ mx_T) (h2 : Cond.instanceMethod y ∈ mx_T) (h3 : Cond.selects C y y ∈ mx_T) (h4 : Cond.initialized C ∈ mx_T) (h : c ∈ mx_T) : GoodIn mx_T (wsV own idx C y (c :: mx_T)) := by
  intro w hw
  unfold wsV at hw
  rcases List.mem_append.mp hw with hw | hw
  · simp only [List.mem_cons, List.not_mem_nil, or_false] at hw
    rcases hw with rfl | rfl | rfl | rfl
    · exact mx_one h1
    · exact mx_one h2
    · exact mx_one h3
    · exact mx_one h4
  · exact mx_good h w hw
theorem mx_gS {own : String} {idx : Nat} {y : MethodName} {c : Cond} (h1 : Cond.methodLink own idx y ∈ mx_T) (h2 : Cond.static y ∈ mx_T) (h4 : Cond.initialized own ∈ mx_T) (h : c ∈ mx_T) : GoodIn mx_T (wsS own idx y (c :: mx_T)) := by
  intro w hw
  unfold wsS at hw
  rcases List.mem_append.mp hw with hw | hw
  · simp only [List.mem_cons, List.not_mem_nil, or_false] at hw
    rcases hw with rfl | rfl | rfl
    · exact mx_one h1
    · exact mx_one h2
    · exact mx_one h4
  · exact mx_good h w hw
