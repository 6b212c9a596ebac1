-- ===== PART A: goes FIRST, ahead of the names: the tables' words, and 'selects' of the private methods out of them =====
/-- a private method of a class that the tables say can be made, by its rows of tables_1 -/
def lw_okq (q : MethodName × Nat) : Prop := (q.1.cls ≠ "java/lang/invoke/MethodHandle" ∧ q.1.cls ≠ "java/lang/invoke/VarHandle") ∧ Cond.instantiable q.1.cls q.2 ∈ tables_1 ∧ Cond.privateMethod q.1 ∈ tables_1 ∧ Cond.instanceMethod q.1 ∈ tables_1
theorem lw_p0 : lw_okq (⟨"FleetWaves", "hasCarOfNumber", "(J)Z"⟩, 3) := ⟨⟨by decide +kernel, by decide +kernel⟩, List.mem_of_getElem? (i := 21) (by decide +kernel), List.mem_of_getElem? (i := 69) (by decide +kernel), List.mem_of_getElem? (i := 70) (by decide +kernel)⟩
theorem lw_p1 : lw_okq (⟨"java/util/ArrayList", "add", "(Ljava/lang/Object;[Ljava/lang/Object;I)V"⟩, 3) := ⟨⟨by decide +kernel, by decide +kernel⟩, List.mem_of_getElem? (i := 29) (by decide +kernel), List.mem_of_getElem? (i := 121) (by decide +kernel), List.mem_of_getElem? (i := 122) (by decide +kernel)⟩
theorem lw_p2 : lw_okq (⟨"java/util/ArrayList", "grow", "()[Ljava/lang/Object;"⟩, 3) := ⟨⟨by decide +kernel, by decide +kernel⟩, List.mem_of_getElem? (i := 29) (by decide +kernel), List.mem_of_getElem? (i := 125) (by decide +kernel), List.mem_of_getElem? (i := 126) (by decide +kernel)⟩
theorem lw_p3 : lw_okq (⟨"java/util/ArrayList", "grow", "(I)[Ljava/lang/Object;"⟩, 3) := ⟨⟨by decide +kernel, by decide +kernel⟩, List.mem_of_getElem? (i := 29) (by decide +kernel), List.mem_of_getElem? (i := 129) (by decide +kernel), List.mem_of_getElem? (i := 130) (by decide +kernel)⟩
theorem lw_p4 : lw_okq (⟨"FleetWaves", "hasCampaignOf", "(II)Z"⟩, 3) := ⟨⟨by decide +kernel, by decide +kernel⟩, List.mem_of_getElem? (i := 21) (by decide +kernel), List.mem_of_getElem? (i := 183) (by decide +kernel), List.mem_of_getElem? (i := 184) (by decide +kernel)⟩
theorem lw_p5 : lw_okq (⟨"FleetWaves", "orderWithinPart", "(LFleetWaves$Campaign;)V"⟩, 3) := ⟨⟨by decide +kernel, by decide +kernel⟩, List.mem_of_getElem? (i := 21) (by decide +kernel), List.mem_of_getElem? (i := 242) (by decide +kernel), List.mem_of_getElem? (i := 243) (by decide +kernel)⟩
theorem lw_p6 : lw_okq (⟨"FleetWaves", "findCampaign", "(I)LFleetWaves$Campaign;"⟩, 3) := ⟨⟨by decide +kernel, by decide +kernel⟩, List.mem_of_getElem? (i := 21) (by decide +kernel), List.mem_of_getElem? (i := 254) (by decide +kernel), List.mem_of_getElem? (i := 255) (by decide +kernel)⟩
theorem lw_p7 : lw_okq (⟨"FleetWaves", "findCar", "(I)LFleetWaves$Car;"⟩, 3) := ⟨⟨by decide +kernel, by decide +kernel⟩, List.mem_of_getElem? (i := 21) (by decide +kernel), List.mem_of_getElem? (i := 296) (by decide +kernel), List.mem_of_getElem? (i := 297) (by decide +kernel)⟩
theorem lw_p8 : lw_okq (⟨"FleetWaves", "nextFor", "(LFleetWaves$Car;)I"⟩, 3) := ⟨⟨by decide +kernel, by decide +kernel⟩, List.mem_of_getElem? (i := 21) (by decide +kernel), List.mem_of_getElem? (i := 300) (by decide +kernel), List.mem_of_getElem? (i := 301) (by decide +kernel)⟩
theorem lw_p9 : lw_okq (⟨"FleetWaves", "isOpenTo", "(LFleetWaves$Campaign;LFleetWaves$Car;)Z"⟩, 3) := ⟨⟨by decide +kernel, by decide +kernel⟩, List.mem_of_getElem? (i := 21) (by decide +kernel), List.mem_of_getElem? (i := 304) (by decide +kernel), List.mem_of_getElem? (i := 305) (by decide +kernel)⟩
theorem lw_p10 : lw_okq (⟨"FleetWaves", "isHeldBack", "(LFleetWaves$Campaign;LFleetWaves$Car;)Z"⟩, 3) := ⟨⟨by decide +kernel, by decide +kernel⟩, List.mem_of_getElem? (i := 21) (by decide +kernel), List.mem_of_getElem? (i := 325) (by decide +kernel), List.mem_of_getElem? (i := 326) (by decide +kernel)⟩
theorem lw_p11 : lw_okq (⟨"FleetWaves", "countNotBegun", "(LFleetWaves$Campaign;)I"⟩, 3) := ⟨⟨by decide +kernel, by decide +kernel⟩, List.mem_of_getElem? (i := 21) (by decide +kernel), List.mem_of_getElem? (i := 398) (by decide +kernel), List.mem_of_getElem? (i := 399) (by decide +kernel)⟩
theorem lw_p12 : lw_okq (⟨"FleetWaves", "allBefore", "(LFleetWaves$Campaign;)J"⟩, 3) := ⟨⟨by decide +kernel, by decide +kernel⟩, List.mem_of_getElem? (i := 21) (by decide +kernel), List.mem_of_getElem? (i := 424) (by decide +kernel), List.mem_of_getElem? (i := 425) (by decide +kernel)⟩
theorem lw_p13 : lw_okq (⟨"java/lang/Throwable", "fillInStackTrace", "(I)Ljava/lang/Throwable;"⟩, 6) := ⟨⟨by decide +kernel, by decide +kernel⟩, List.mem_of_getElem? (i := 475) (by decide +kernel), List.mem_of_getElem? (i := 473) (by decide +kernel), List.mem_of_getElem? (i := 474) (by decide +kernel)⟩
theorem lw_p14 : lw_okq (⟨"FleetWavesModel", "none", "(I)Z"⟩, 23) := ⟨⟨by decide +kernel, by decide +kernel⟩, List.mem_of_getElem? (i := 505) (by decide +kernel), List.mem_of_getElem? (i := 600) (by decide +kernel), List.mem_of_getElem? (i := 601) (by decide +kernel)⟩
theorem lw_p15 : lw_okq (⟨"FleetWavesModel", "noCar", "(I)Z"⟩, 23) := ⟨⟨by decide +kernel, by decide +kernel⟩, List.mem_of_getElem? (i := 505) (by decide +kernel), List.mem_of_getElem? (i := 615) (by decide +kernel), List.mem_of_getElem? (i := 616) (by decide +kernel)⟩
def lw_privs_1 : List (MethodName × Nat) := [(⟨"FleetWaves", "hasCarOfNumber", "(J)Z"⟩, 3), (⟨"java/util/ArrayList", "add", "(Ljava/lang/Object;[Ljava/lang/Object;I)V"⟩, 3), (⟨"java/util/ArrayList", "grow", "()[Ljava/lang/Object;"⟩, 3), (⟨"java/util/ArrayList", "grow", "(I)[Ljava/lang/Object;"⟩, 3), (⟨"FleetWaves", "hasCampaignOf", "(II)Z"⟩, 3), (⟨"FleetWaves", "orderWithinPart", "(LFleetWaves$Campaign;)V"⟩, 3), (⟨"FleetWaves", "findCampaign", "(I)LFleetWaves$Campaign;"⟩, 3), (⟨"FleetWaves", "findCar", "(I)LFleetWaves$Car;"⟩, 3), (⟨"FleetWaves", "nextFor", "(LFleetWaves$Car;)I"⟩, 3), (⟨"FleetWaves", "isOpenTo", "(LFleetWaves$Campaign;LFleetWaves$Car;)Z"⟩, 3), (⟨"FleetWaves", "isHeldBack", "(LFleetWaves$Campaign;LFleetWaves$Car;)Z"⟩, 3), (⟨"FleetWaves", "countNotBegun", "(LFleetWaves$Campaign;)I"⟩, 3), (⟨"FleetWaves", "allBefore", "(LFleetWaves$Campaign;)J"⟩, 3), (⟨"java/lang/Throwable", "fillInStackTrace", "(I)Ljava/lang/Throwable;"⟩, 6), (⟨"FleetWavesModel", "none", "(I)Z"⟩, 23), (⟨"FleetWavesModel", "noCar", "(I)Z"⟩, 23)]
theorem lw_r1 : ∀ q ∈ lw_privs_1, lw_okq q := List.forall_mem_cons.mpr ⟨lw_p0, List.forall_mem_cons.mpr ⟨lw_p1, List.forall_mem_cons.mpr ⟨lw_p2, List.forall_mem_cons.mpr ⟨lw_p3, List.forall_mem_cons.mpr ⟨lw_p4, List.forall_mem_cons.mpr ⟨lw_p5, List.forall_mem_cons.mpr ⟨lw_p6, List.forall_mem_cons.mpr ⟨lw_p7, List.forall_mem_cons.mpr ⟨lw_p8, List.forall_mem_cons.mpr ⟨lw_p9, List.forall_mem_cons.mpr ⟨lw_p10, List.forall_mem_cons.mpr ⟨lw_p11, List.forall_mem_cons.mpr ⟨lw_p12, List.forall_mem_cons.mpr ⟨lw_p13, List.forall_mem_cons.mpr ⟨lw_p14, List.forall_mem_cons.mpr ⟨lw_p15, fun _ h => absurd h List.not_mem_nil⟩⟩⟩⟩⟩⟩⟩⟩⟩⟩⟩⟩⟩⟩⟩⟩
theorem lw_p16 : lw_okq (⟨"FleetWavesModel", "meant", "(II)Z"⟩, 23) := ⟨⟨by decide +kernel, by decide +kernel⟩, List.mem_of_getElem? (i := 505) (by decide +kernel), List.mem_of_getElem? (i := 619) (by decide +kernel), List.mem_of_getElem? (i := 620) (by decide +kernel)⟩
theorem lw_p17 : lw_okq (⟨"FleetWavesModel", "may", "(II)Z"⟩, 23) := ⟨⟨by decide +kernel, by decide +kernel⟩, List.mem_of_getElem? (i := 505) (by decide +kernel), List.mem_of_getElem? (i := 623) (by decide +kernel), List.mem_of_getElem? (i := 624) (by decide +kernel)⟩
theorem lw_p18 : lw_okq (⟨"FleetWavesModel", "before", "(II)Z"⟩, 23) := ⟨⟨by decide +kernel, by decide +kernel⟩, List.mem_of_getElem? (i := 505) (by decide +kernel), List.mem_of_getElem? (i := 628) (by decide +kernel), List.mem_of_getElem? (i := 629) (by decide +kernel)⟩
theorem lw_p19 : lw_okq (⟨"FleetWavesModel", "since", "(II)J"⟩, 23) := ⟨⟨by decide +kernel, by decide +kernel⟩, List.mem_of_getElem? (i := 505) (by decide +kernel), List.mem_of_getElem? (i := 632) (by decide +kernel), List.mem_of_getElem? (i := 633) (by decide +kernel)⟩
theorem lw_p20 : lw_okq (⟨"FleetWavesModel", "isIn", "(III)Z"⟩, 23) := ⟨⟨by decide +kernel, by decide +kernel⟩, List.mem_of_getElem? (i := 505) (by decide +kernel), List.mem_of_getElem? (i := 637) (by decide +kernel), List.mem_of_getElem? (i := 638) (by decide +kernel)⟩
theorem lw_p21 : lw_okq (⟨"FleetWavesModel", "look", "(I)V"⟩, 23) := ⟨⟨by decide +kernel, by decide +kernel⟩, List.mem_of_getElem? (i := 505) (by decide +kernel), List.mem_of_getElem? (i := 654) (by decide +kernel), List.mem_of_getElem? (i := 655) (by decide +kernel)⟩
def lw_privs_2 : List (MethodName × Nat) := [(⟨"FleetWavesModel", "meant", "(II)Z"⟩, 23), (⟨"FleetWavesModel", "may", "(II)Z"⟩, 23), (⟨"FleetWavesModel", "before", "(II)Z"⟩, 23), (⟨"FleetWavesModel", "since", "(II)J"⟩, 23), (⟨"FleetWavesModel", "isIn", "(III)Z"⟩, 23), (⟨"FleetWavesModel", "look", "(I)V"⟩, 23)]
theorem lw_r2 : ∀ q ∈ lw_privs_2, lw_okq q := List.forall_mem_cons.mpr ⟨lw_p16, List.forall_mem_cons.mpr ⟨lw_p17, List.forall_mem_cons.mpr ⟨lw_p18, List.forall_mem_cons.mpr ⟨lw_p19, List.forall_mem_cons.mpr ⟨lw_p20, List.forall_mem_cons.mpr ⟨lw_p21, fun _ h => absurd h List.not_mem_nil⟩⟩⟩⟩⟩⟩
def lw_privs : List (MethodName × Nat) := lw_privs_1 ++ (lw_privs_2)
def lw_tbl : List Cond := k2_sels lw_privs ++ tables_1
theorem lw_privs_ok : ∀ q ∈ lw_privs, lw_okq q := by
  show ∀ q ∈ lw_privs_1 ++ (lw_privs_2), lw_okq q
  exact List.forall_mem_append.mpr ⟨lw_r1, lw_r2⟩
-- ===== end of PART A; then your names; then what follows =====
abbrev y_F_init : MethodName := ⟨"FleetWaves", "<init>", "()V"⟩
abbrev y_O_init : MethodName := ⟨"java/lang/Object", "<init>", "()V"⟩
abbrev y_A_init : MethodName := ⟨"java/util/ArrayList", "<init>", "()V"⟩
abbrev y_AL_init : MethodName := ⟨"java/util/AbstractList", "<init>", "()V"⟩
abbrev y_AC_init : MethodName := ⟨"java/util/AbstractCollection", "<init>", "()V"⟩
abbrev y_F_car : MethodName := ⟨"FleetWaves", "car", "(JI)I"⟩
abbrev y_F_hasCarOfNumber : MethodName := ⟨"FleetWaves", "hasCarOfNumber", "(J)Z"⟩
abbrev y_A_size : MethodName := ⟨"java/util/ArrayList", "size", "()I"⟩
abbrev y_A_get : MethodName := ⟨"java/util/ArrayList", "get", "(I)Ljava/lang/Object;"⟩
abbrev y_JO_checkIndex : MethodName := ⟨"java/util/Objects", "checkIndex", "(II)I"⟩
abbrev y_JP_checkIndex : MethodName := ⟨"jdk/internal/util/Preconditions", "checkIndex", "(IILjava/util/function/BiFunction;)I"⟩
abbrev y_A_elementData : MethodName := ⟨"java/util/ArrayList", "elementData", "(I)Ljava/lang/Object;"⟩
abbrev y_C_init : MethodName := ⟨"FleetWaves$Car", "<init>", "(JI)V"⟩
abbrev y_A_add : MethodName := ⟨"java/util/ArrayList", "add", "(Ljava/lang/Object;)Z"⟩
abbrev y_A_add2 : MethodName := ⟨"java/util/ArrayList", "add", "(Ljava/lang/Object;[Ljava/lang/Object;I)V"⟩
abbrev y_A_grow : MethodName := ⟨"java/util/ArrayList", "grow", "()[Ljava/lang/Object;"⟩
abbrev y_A_grow2 : MethodName := ⟨"java/util/ArrayList", "grow", "(I)[Ljava/lang/Object;"⟩
abbrev y_JS_newLength : MethodName := ⟨"jdk/internal/util/ArraysSupport", "newLength", "(III)I"⟩
abbrev y_JM_max : MethodName := ⟨"java/lang/Math", "max", "(II)I"⟩
abbrev y_JS_hugeLength : MethodName := ⟨"jdk/internal/util/ArraysSupport", "hugeLength", "(II)I"⟩
abbrev y_JA_copyOf : MethodName := ⟨"java/util/Arrays", "copyOf", "([Ljava/lang/Object;I)[Ljava/lang/Object;"⟩
abbrev y_JA_copyOf2 : MethodName := ⟨"java/util/Arrays", "copyOf", "([Ljava/lang/Object;ILjava/lang/Class;)[Ljava/lang/Object;"⟩
abbrev y_JM_min : MethodName := ⟨"java/lang/Math", "min", "(II)I"⟩
abbrev y_F_campaign : MethodName := ⟨"FleetWaves", "campaign", "(II)I"⟩
abbrev y_K_partOf : MethodName := ⟨"FleetWaves$Campaign", "partOf", "(I)I"⟩
abbrev y_JM_floorMod : MethodName := ⟨"java/lang/Math", "floorMod", "(II)I"⟩
abbrev y_F_hasCampaignOf : MethodName := ⟨"FleetWaves", "hasCampaignOf", "(II)Z"⟩
abbrev y_K_init : MethodName := ⟨"FleetWaves$Campaign", "<init>", "(III)V"⟩
abbrev y_F_orderWithinPart : MethodName := ⟨"FleetWaves", "orderWithinPart", "(LFleetWaves$Campaign;)V"⟩
abbrev y_K_bit : MethodName := ⟨"FleetWaves$Campaign", "bit", "()J"⟩
abbrev y_F_wave : MethodName := ⟨"FleetWaves", "wave", "(IJJJ)I"⟩
abbrev y_F_findCampaign : MethodName := ⟨"FleetWaves", "findCampaign", "(I)LFleetWaves$Campaign;"⟩
abbrev y_F_isShare : MethodName := ⟨"FleetWaves", "isShare", "(JJ)Z"⟩
abbrev y_K_hasGreaterShareThan : MethodName := ⟨"FleetWaves$Campaign", "hasGreaterShareThan", "(JJ)Z"⟩
abbrev y_A_isEmpty : MethodName := ⟨"java/util/ArrayList", "isEmpty", "()Z"⟩
abbrev y_V_init : MethodName := ⟨"FleetWaves$Wave", "<init>", "(JJJ)V"⟩
abbrev y_F_due : MethodName := ⟨"FleetWaves", "due", "(IJ)I"⟩
abbrev y_F_findCar : MethodName := ⟨"FleetWaves", "findCar", "(I)LFleetWaves$Car;"⟩
abbrev y_F_nextFor : MethodName := ⟨"FleetWaves", "nextFor", "(LFleetWaves$Car;)I"⟩
abbrev y_F_isOpenTo : MethodName := ⟨"FleetWaves", "isOpenTo", "(LFleetWaves$Campaign;LFleetWaves$Car;)Z"⟩
abbrev y_K_isMeantFor : MethodName := ⟨"FleetWaves$Campaign", "isMeantFor", "(LFleetWaves$Car;)Z"⟩
abbrev y_C_isOlder : MethodName := ⟨"FleetWaves$Car", "isOlder", "(II)Z"⟩
abbrev y_C_mayTry : MethodName := ⟨"FleetWaves$Car", "mayTry", "(IJ)Z"⟩
abbrev y_C_failureAt : MethodName := ⟨"FleetWaves$Car", "failureAt", "(I)LFleetWaves$Failure;"⟩
abbrev y_F_isHeldBack : MethodName := ⟨"FleetWaves", "isHeldBack", "(LFleetWaves$Campaign;LFleetWaves$Car;)Z"⟩
abbrev y_F_contains : MethodName := ⟨"FleetWaves", "contains", "(JLFleetWaves$Campaign;)Z"⟩
abbrev y_K_inWaveSince : MethodName := ⟨"FleetWaves$Campaign", "inWaveSince", "(LFleetWaves$Car;)J"⟩
abbrev y_K_digestOf : MethodName := ⟨"FleetWaves$Campaign", "digestOf", "(LFleetWaves$Car;)J"⟩
abbrev y_V_takes : MethodName := ⟨"FleetWaves$Wave", "takes", "(J)Z"⟩
abbrev y_F_report : MethodName := ⟨"FleetWaves", "report", "(IIZ)I"⟩
abbrev y_C_renew : MethodName := ⟨"FleetWaves$Car", "renew", "(II)V"⟩
abbrev y_C_addFailure : MethodName := ⟨"FleetWaves$Car", "addFailure", "(IJ)V"⟩
abbrev y_E_init : MethodName := ⟨"FleetWaves$Failure", "<init>", "(ILFleetWaves$Failure;)V"⟩
abbrev y_K_pauseIfRuleIsBroken : MethodName := ⟨"FleetWaves$Campaign", "pauseIfRuleIsBroken", "()Z"⟩
abbrev y_F_rule : MethodName := ⟨"FleetWaves", "rule", "(IJJ)I"⟩
abbrev y_F_state : MethodName := ⟨"FleetWaves", "state", "(I)I"⟩
abbrev y_F_stop : MethodName := ⟨"FleetWaves", "stop", "(I)I"⟩
abbrev y_F_countNotBegun : MethodName := ⟨"FleetWaves", "countNotBegun", "(LFleetWaves$Campaign;)I"⟩
abbrev y_F_consent : MethodName := ⟨"FleetWaves", "consent", "(IZ)I"⟩
abbrev y_F_failed : MethodName := ⟨"FleetWaves", "failed", "(I)I"⟩
abbrev y_C_countGivenUp : MethodName := ⟨"FleetWaves$Car", "countGivenUp", "()I"⟩
abbrev y_F_in : MethodName := ⟨"FleetWaves", "in", "(II)I"⟩
abbrev y_F_order : MethodName := ⟨"FleetWaves", "order", "(II)I"⟩
abbrev y_F_allBefore : MethodName := ⟨"FleetWaves", "allBefore", "(LFleetWaves$Campaign;)J"⟩
abbrev y_L_share : MethodName := ⟨"FleetWavesLaw", "share", "(LFleetWaves;II[J)I"⟩
abbrev y_F_share : MethodName := ⟨"FleetWaves", "share", "(II)J"⟩
abbrev y_F_greatestCommonDivisor : MethodName := ⟨"FleetWaves", "greatestCommonDivisor", "(II)I"⟩
abbrev y_TH_init : MethodName := ⟨"java/lang/Throwable", "<init>", "()V"⟩
abbrev y_TH_fillInStackTrace : MethodName := ⟨"java/lang/Throwable", "fillInStackTrace", "()Ljava/lang/Throwable;"⟩
abbrev y_TA_init : MethodName := ⟨"java/lang/ArithmeticException", "<init>", "(Ljava/lang/String;)V"⟩
abbrev y_TR_init : MethodName := ⟨"java/lang/RuntimeException", "<init>", "(Ljava/lang/String;)V"⟩
abbrev y_TE_init : MethodName := ⟨"java/lang/Exception", "<init>", "(Ljava/lang/String;)V"⟩
abbrev y_TH_init2 : MethodName := ⟨"java/lang/Throwable", "<init>", "(Ljava/lang/String;)V"⟩
abbrev y_M_init : MethodName := ⟨"FleetWavesModel", "<init>", "()V"⟩
abbrev y_M_thrown : MethodName := ⟨"FleetWavesModel", "thrown", "()I"⟩
abbrev y_M_car : MethodName := ⟨"FleetWavesModel", "car", "(JI)I"⟩
abbrev y_M_campaign : MethodName := ⟨"FleetWavesModel", "campaign", "(II)I"⟩
abbrev y_M_wave : MethodName := ⟨"FleetWavesModel", "wave", "(IJJJ)I"⟩
abbrev y_M_none : MethodName := ⟨"FleetWavesModel", "none", "(I)Z"⟩
abbrev y_M_noShare : MethodName := ⟨"FleetWavesModel", "noShare", "(JJ)Z"⟩
abbrev y_M_compare : MethodName := ⟨"FleetWavesModel", "compare", "(JJJJ)J"⟩
abbrev y_M_due : MethodName := ⟨"FleetWavesModel", "due", "(IJ)I"⟩
abbrev y_M_noCar : MethodName := ⟨"FleetWavesModel", "noCar", "(I)Z"⟩
abbrev y_M_meant : MethodName := ⟨"FleetWavesModel", "meant", "(II)Z"⟩
abbrev y_M_may : MethodName := ⟨"FleetWavesModel", "may", "(II)Z"⟩
abbrev y_M_before : MethodName := ⟨"FleetWavesModel", "before", "(II)Z"⟩
abbrev y_M_since : MethodName := ⟨"FleetWavesModel", "since", "(II)J"⟩
abbrev y_M_isIn : MethodName := ⟨"FleetWavesModel", "isIn", "(III)Z"⟩
abbrev y_M_digestOf : MethodName := ⟨"FleetWavesModel", "digestOf", "(JI)J"⟩
abbrev y_M_less : MethodName := ⟨"FleetWavesModel", "less", "(JJJ)Z"⟩
abbrev y_M_report : MethodName := ⟨"FleetWavesModel", "report", "(IIZ)I"⟩
abbrev y_M_look : MethodName := ⟨"FleetWavesModel", "look", "(I)V"⟩
abbrev y_M_share : MethodName := ⟨"FleetWavesModel", "share", "(II)J"⟩
abbrev y_M_rule : MethodName := ⟨"FleetWavesModel", "rule", "(IJJ)I"⟩
abbrev y_M_state : MethodName := ⟨"FleetWavesModel", "state", "(I)I"⟩
abbrev y_M_stop : MethodName := ⟨"FleetWavesModel", "stop", "(I)I"⟩
abbrev y_M_consent : MethodName := ⟨"FleetWavesModel", "consent", "(IZ)I"⟩
abbrev y_M_failed : MethodName := ⟨"FleetWavesModel", "failed", "(I)I"⟩
abbrev y_M_in : MethodName := ⟨"FleetWavesModel", "in", "(II)I"⟩
abbrev y_M_order : MethodName := ⟨"FleetWavesModel", "order", "(II)I"⟩
