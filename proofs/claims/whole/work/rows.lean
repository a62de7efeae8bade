section
-- ===== PART A: goes FIRST, ahead of the names: the tables' words, and 'selects' of the private methods out of them =====
/-- a private method of a class that the tables say can be made, by its rows of tables_1 -/
def lw_okq (q : MethodName × Nat) : Prop := (q.1.cls ≠ "java/lang/invoke/MethodHandle" ∧ q.1.cls ≠ "java/lang/invoke/VarHandle") ∧ Cond.instantiable q.1.cls q.2 ∈ tables_1 ∧ Cond.privateMethod q.1 ∈ tables_1 ∧ Cond.instanceMethod q.1 ∈ tables_1
theorem lw_p0 : lw_okq (⟨"java/lang/Throwable", "fillInStackTrace", "(I)Ljava/lang/Throwable;"⟩, 6) := ⟨⟨by decide +kernel, by decide +kernel⟩, List.mem_of_getElem? (i := 311) (by decide +kernel), List.mem_of_getElem? (i := 309) (by decide +kernel), List.mem_of_getElem? (i := 310) (by decide +kernel)⟩
theorem lw_p1 : lw_okq (⟨"BuddyBlockScheduler$Cluster", "plan", "(I)I"⟩, 9) := ⟨⟨by decide +kernel, by decide +kernel⟩, List.mem_of_getElem? (i := 29) (by decide +kernel), List.mem_of_getElem? (i := 369) (by decide +kernel), List.mem_of_getElem? (i := 370) (by decide +kernel)⟩
theorem lw_p2 : lw_okq (⟨"BuddyBlockScheduler$Timetable", "nextEnd", "(I)I"⟩, 4) := ⟨⟨by decide +kernel, by decide +kernel⟩, List.mem_of_getElem? (i := 35) (by decide +kernel), List.mem_of_getElem? (i := 387) (by decide +kernel), List.mem_of_getElem? (i := 388) (by decide +kernel)⟩
theorem lw_p3 : lw_okq (⟨"BuddyBlockScheduler$Cluster", "startJobs", "()V"⟩, 9) := ⟨⟨by decide +kernel, by decide +kernel⟩, List.mem_of_getElem? (i := 29) (by decide +kernel), List.mem_of_getElem? (i := 400) (by decide +kernel), List.mem_of_getElem? (i := 401) (by decide +kernel)⟩
theorem lw_p4 : lw_okq (⟨"BuddyBlockScheduler$Cluster", "finishJobs", "()I"⟩, 9) := ⟨⟨by decide +kernel, by decide +kernel⟩, List.mem_of_getElem? (i := 29) (by decide +kernel), List.mem_of_getElem? (i := 424) (by decide +kernel), List.mem_of_getElem? (i := 425) (by decide +kernel)⟩
theorem lw_p5 : lw_okq (⟨"BuddyBlockScheduler$Cluster", "endRun", "(II)V"⟩, 9) := ⟨⟨by decide +kernel, by decide +kernel⟩, List.mem_of_getElem? (i := 29) (by decide +kernel), List.mem_of_getElem? (i := 428) (by decide +kernel), List.mem_of_getElem? (i := 429) (by decide +kernel)⟩
theorem lw_p6 : lw_okq (⟨"BuddyBlockScheduler$Cluster", "unitsUpToNow", "(I)I"⟩, 9) := ⟨⟨by decide +kernel, by decide +kernel⟩, List.mem_of_getElem? (i := 29) (by decide +kernel), List.mem_of_getElem? (i := 432) (by decide +kernel), List.mem_of_getElem? (i := 433) (by decide +kernel)⟩
theorem lw_p7 : lw_okq (⟨"BuddyBlockScheduler$Cluster", "replan", "()V"⟩, 9) := ⟨⟨by decide +kernel, by decide +kernel⟩, List.mem_of_getElem? (i := 29) (by decide +kernel), List.mem_of_getElem? (i := 440) (by decide +kernel), List.mem_of_getElem? (i := 441) (by decide +kernel)⟩
theorem lw_p8 : lw_okq (⟨"BuddyBlockScheduler$Cluster", "queueWaiting", "()I"⟩, 9) := ⟨⟨by decide +kernel, by decide +kernel⟩, List.mem_of_getElem? (i := 29) (by decide +kernel), List.mem_of_getElem? (i := 444) (by decide +kernel), List.mem_of_getElem? (i := 445) (by decide +kernel)⟩
theorem lw_p9 : lw_okq (⟨"BuddyBlockScheduler$Cluster", "insertIntoQueue", "(II)V"⟩, 9) := ⟨⟨by decide +kernel, by decide +kernel⟩, List.mem_of_getElem? (i := 29) (by decide +kernel), List.mem_of_getElem? (i := 452) (by decide +kernel), List.mem_of_getElem? (i := 453) (by decide +kernel)⟩
theorem lw_p10 : lw_okq (⟨"BuddyBlockScheduler$Cluster", "goesBefore", "(II)Z"⟩, 9) := ⟨⟨by decide +kernel, by decide +kernel⟩, List.mem_of_getElem? (i := 29) (by decide +kernel), List.mem_of_getElem? (i := 456) (by decide +kernel), List.mem_of_getElem? (i := 457) (by decide +kernel)⟩
theorem lw_p11 : lw_okq (⟨"BuddyBlockScheduler", "checkJob", "(I)V"⟩, 4) := ⟨⟨by decide +kernel, by decide +kernel⟩, List.mem_of_getElem? (i := 21) (by decide +kernel), List.mem_of_getElem? (i := 491) (by decide +kernel), List.mem_of_getElem? (i := 492) (by decide +kernel)⟩
theorem lw_p12 : lw_okq (⟨"BuddyBlockScheduler", "checkAllocated", "(I)V"⟩, 4) := ⟨⟨by decide +kernel, by decide +kernel⟩, List.mem_of_getElem? (i := 21) (by decide +kernel), List.mem_of_getElem? (i := 508) (by decide +kernel), List.mem_of_getElem? (i := 509) (by decide +kernel)⟩
theorem lw_p13 : lw_okq (⟨"BuddyBlockScheduler", "reasonToRefuse", "(III)I"⟩, 4) := ⟨⟨by decide +kernel, by decide +kernel⟩, List.mem_of_getElem? (i := 21) (by decide +kernel), List.mem_of_getElem? (i := 540) (by decide +kernel), List.mem_of_getElem? (i := 541) (by decide +kernel)⟩
theorem lw_p14 : lw_okq (⟨"BuddyBlockScheduler", "checkReservation", "(I)V"⟩, 4) := ⟨⟨by decide +kernel, by decide +kernel⟩, List.mem_of_getElem? (i := 21) (by decide +kernel), List.mem_of_getElem? (i := 557) (by decide +kernel), List.mem_of_getElem? (i := 558) (by decide +kernel)⟩
theorem lw_p15 : lw_okq (⟨"BuddyBlockScheduler", "checkFinished", "(I)V"⟩, 4) := ⟨⟨by decide +kernel, by decide +kernel⟩, List.mem_of_getElem? (i := 21) (by decide +kernel), List.mem_of_getElem? (i := 613) (by decide +kernel), List.mem_of_getElem? (i := 614) (by decide +kernel)⟩
def lw_privs_1 : List (MethodName × Nat) := [(⟨"java/lang/Throwable", "fillInStackTrace", "(I)Ljava/lang/Throwable;"⟩, 6), (⟨"BuddyBlockScheduler$Cluster", "plan", "(I)I"⟩, 9), (⟨"BuddyBlockScheduler$Timetable", "nextEnd", "(I)I"⟩, 4), (⟨"BuddyBlockScheduler$Cluster", "startJobs", "()V"⟩, 9), (⟨"BuddyBlockScheduler$Cluster", "finishJobs", "()I"⟩, 9), (⟨"BuddyBlockScheduler$Cluster", "endRun", "(II)V"⟩, 9), (⟨"BuddyBlockScheduler$Cluster", "unitsUpToNow", "(I)I"⟩, 9), (⟨"BuddyBlockScheduler$Cluster", "replan", "()V"⟩, 9), (⟨"BuddyBlockScheduler$Cluster", "queueWaiting", "()I"⟩, 9), (⟨"BuddyBlockScheduler$Cluster", "insertIntoQueue", "(II)V"⟩, 9), (⟨"BuddyBlockScheduler$Cluster", "goesBefore", "(II)Z"⟩, 9), (⟨"BuddyBlockScheduler", "checkJob", "(I)V"⟩, 4), (⟨"BuddyBlockScheduler", "checkAllocated", "(I)V"⟩, 4), (⟨"BuddyBlockScheduler", "reasonToRefuse", "(III)I"⟩, 4), (⟨"BuddyBlockScheduler", "checkReservation", "(I)V"⟩, 4), (⟨"BuddyBlockScheduler", "checkFinished", "(I)V"⟩, 4)]
theorem lw_r1 : ∀ q ∈ lw_privs_1, lw_okq q := List.forall_mem_cons.mpr ⟨lw_p0, List.forall_mem_cons.mpr ⟨lw_p1, List.forall_mem_cons.mpr ⟨lw_p2, List.forall_mem_cons.mpr ⟨lw_p3, List.forall_mem_cons.mpr ⟨lw_p4, List.forall_mem_cons.mpr ⟨lw_p5, List.forall_mem_cons.mpr ⟨lw_p6, List.forall_mem_cons.mpr ⟨lw_p7, List.forall_mem_cons.mpr ⟨lw_p8, List.forall_mem_cons.mpr ⟨lw_p9, List.forall_mem_cons.mpr ⟨lw_p10, List.forall_mem_cons.mpr ⟨lw_p11, List.forall_mem_cons.mpr ⟨lw_p12, List.forall_mem_cons.mpr ⟨lw_p13, List.forall_mem_cons.mpr ⟨lw_p14, List.forall_mem_cons.mpr ⟨lw_p15, fun _ h => absurd h List.not_mem_nil⟩⟩⟩⟩⟩⟩⟩⟩⟩⟩⟩⟩⟩⟩⟩⟩
theorem lw_p16 : lw_okq (⟨"BuddyBlockScheduler", "takenNow", "()I"⟩, 4) := ⟨⟨by decide +kernel, by decide +kernel⟩, List.mem_of_getElem? (i := 21) (by decide +kernel), List.mem_of_getElem? (i := 721) (by decide +kernel), List.mem_of_getElem? (i := 722) (by decide +kernel)⟩
theorem lw_p17 : lw_okq (⟨"BuddyBlockSchedulerModel", "raises", "(I)I"⟩, 7) := ⟨⟨by decide +kernel, by decide +kernel⟩, List.mem_of_getElem? (i := 818) (by decide +kernel), List.mem_of_getElem? (i := 857) (by decide +kernel), List.mem_of_getElem? (i := 858) (by decide +kernel)⟩
theorem lw_p18 : lw_okq (⟨"BuddyBlockSchedulerModel", "put", "(III)V"⟩, 7) := ⟨⟨by decide +kernel, by decide +kernel⟩, List.mem_of_getElem? (i := 818) (by decide +kernel), List.mem_of_getElem? (i := 861) (by decide +kernel), List.mem_of_getElem? (i := 862) (by decide +kernel)⟩
theorem lw_p19 : lw_okq (⟨"BuddyBlockSchedulerModel", "records", "(II)V"⟩, 7) := ⟨⟨by decide +kernel, by decide +kernel⟩, List.mem_of_getElem? (i := 818) (by decide +kernel), List.mem_of_getElem? (i := 865) (by decide +kernel), List.mem_of_getElem? (i := 866) (by decide +kernel)⟩
theorem lw_p20 : lw_okq (⟨"BuddyBlockSchedulerModel", "plans", "(I)V"⟩, 7) := ⟨⟨by decide +kernel, by decide +kernel⟩, List.mem_of_getElem? (i := 818) (by decide +kernel), List.mem_of_getElem? (i := 869) (by decide +kernel), List.mem_of_getElem? (i := 870) (by decide +kernel)⟩
theorem lw_p21 : lw_okq (⟨"BuddyBlockSchedulerModel", "of", "(II)I"⟩, 7) := ⟨⟨by decide +kernel, by decide +kernel⟩, List.mem_of_getElem? (i := 818) (by decide +kernel), List.mem_of_getElem? (i := 873) (by decide +kernel), List.mem_of_getElem? (i := 874) (by decide +kernel)⟩
theorem lw_p22 : lw_okq (⟨"BuddyBlockSchedulerModel", "earliest", "(II)I"⟩, 7) := ⟨⟨by decide +kernel, by decide +kernel⟩, List.mem_of_getElem? (i := 818) (by decide +kernel), List.mem_of_getElem? (i := 877) (by decide +kernel), List.mem_of_getElem? (i := 878) (by decide +kernel)⟩
theorem lw_p23 : lw_okq (⟨"BuddyBlockSchedulerModel", "reserved", "(II)I"⟩, 7) := ⟨⟨by decide +kernel, by decide +kernel⟩, List.mem_of_getElem? (i := 818) (by decide +kernel), List.mem_of_getElem? (i := 882) (by decide +kernel), List.mem_of_getElem? (i := 883) (by decide +kernel)⟩
theorem lw_p24 : lw_okq (⟨"BuddyBlockSchedulerModel", "isAllocated", "(I)Z"⟩, 7) := ⟨⟨by decide +kernel, by decide +kernel⟩, List.mem_of_getElem? (i := 818) (by decide +kernel), List.mem_of_getElem? (i := 886) (by decide +kernel), List.mem_of_getElem? (i := 887) (by decide +kernel)⟩
theorem lw_p25 : lw_okq (⟨"BuddyBlockSchedulerModel", "lowest", "(III)I"⟩, 7) := ⟨⟨by decide +kernel, by decide +kernel⟩, List.mem_of_getElem? (i := 818) (by decide +kernel), List.mem_of_getElem? (i := 890) (by decide +kernel), List.mem_of_getElem? (i := 891) (by decide +kernel)⟩
theorem lw_p26 : lw_okq (⟨"BuddyBlockSchedulerModel", "isFree", "(IIII)Z"⟩, 7) := ⟨⟨by decide +kernel, by decide +kernel⟩, List.mem_of_getElem? (i := 818) (by decide +kernel), List.mem_of_getElem? (i := 894) (by decide +kernel), List.mem_of_getElem? (i := 895) (by decide +kernel)⟩
theorem lw_p27 : lw_okq (⟨"BuddyBlockSchedulerModel", "starts", "()V"⟩, 7) := ⟨⟨by decide +kernel, by decide +kernel⟩, List.mem_of_getElem? (i := 818) (by decide +kernel), List.mem_of_getElem? (i := 901) (by decide +kernel), List.mem_of_getElem? (i := 902) (by decide +kernel)⟩
theorem lw_p28 : lw_okq (⟨"BuddyBlockSchedulerModel", "ticks", "()I"⟩, 7) := ⟨⟨by decide +kernel, by decide +kernel⟩, List.mem_of_getElem? (i := 818) (by decide +kernel), List.mem_of_getElem? (i := 912) (by decide +kernel), List.mem_of_getElem? (i := 913) (by decide +kernel)⟩
theorem lw_p29 : lw_okq (⟨"BuddyBlockSchedulerModel", "replans", "()V"⟩, 7) := ⟨⟨by decide +kernel, by decide +kernel⟩, List.mem_of_getElem? (i := 818) (by decide +kernel), List.mem_of_getElem? (i := 916) (by decide +kernel), List.mem_of_getElem? (i := 917) (by decide +kernel)⟩
theorem lw_p30 : lw_okq (⟨"BuddyBlockSchedulerModel", "used", "(I)I"⟩, 7) := ⟨⟨by decide +kernel, by decide +kernel⟩, List.mem_of_getElem? (i := 818) (by decide +kernel), List.mem_of_getElem? (i := 920) (by decide +kernel), List.mem_of_getElem? (i := 921) (by decide +kernel)⟩
theorem lw_p31 : lw_okq (⟨"BuddyBlockSchedulerModel", "usageOf", "(I)I"⟩, 7) := ⟨⟨by decide +kernel, by decide +kernel⟩, List.mem_of_getElem? (i := 818) (by decide +kernel), List.mem_of_getElem? (i := 924) (by decide +kernel), List.mem_of_getElem? (i := 925) (by decide +kernel)⟩
def lw_privs_2 : List (MethodName × Nat) := [(⟨"BuddyBlockScheduler", "takenNow", "()I"⟩, 4), (⟨"BuddyBlockSchedulerModel", "raises", "(I)I"⟩, 7), (⟨"BuddyBlockSchedulerModel", "put", "(III)V"⟩, 7), (⟨"BuddyBlockSchedulerModel", "records", "(II)V"⟩, 7), (⟨"BuddyBlockSchedulerModel", "plans", "(I)V"⟩, 7), (⟨"BuddyBlockSchedulerModel", "of", "(II)I"⟩, 7), (⟨"BuddyBlockSchedulerModel", "earliest", "(II)I"⟩, 7), (⟨"BuddyBlockSchedulerModel", "reserved", "(II)I"⟩, 7), (⟨"BuddyBlockSchedulerModel", "isAllocated", "(I)Z"⟩, 7), (⟨"BuddyBlockSchedulerModel", "lowest", "(III)I"⟩, 7), (⟨"BuddyBlockSchedulerModel", "isFree", "(IIII)Z"⟩, 7), (⟨"BuddyBlockSchedulerModel", "starts", "()V"⟩, 7), (⟨"BuddyBlockSchedulerModel", "ticks", "()I"⟩, 7), (⟨"BuddyBlockSchedulerModel", "replans", "()V"⟩, 7), (⟨"BuddyBlockSchedulerModel", "used", "(I)I"⟩, 7), (⟨"BuddyBlockSchedulerModel", "usageOf", "(I)I"⟩, 7)]
theorem lw_r2 : ∀ q ∈ lw_privs_2, lw_okq q := List.forall_mem_cons.mpr ⟨lw_p16, List.forall_mem_cons.mpr ⟨lw_p17, List.forall_mem_cons.mpr ⟨lw_p18, List.forall_mem_cons.mpr ⟨lw_p19, List.forall_mem_cons.mpr ⟨lw_p20, List.forall_mem_cons.mpr ⟨lw_p21, List.forall_mem_cons.mpr ⟨lw_p22, List.forall_mem_cons.mpr ⟨lw_p23, List.forall_mem_cons.mpr ⟨lw_p24, List.forall_mem_cons.mpr ⟨lw_p25, List.forall_mem_cons.mpr ⟨lw_p26, List.forall_mem_cons.mpr ⟨lw_p27, List.forall_mem_cons.mpr ⟨lw_p28, List.forall_mem_cons.mpr ⟨lw_p29, List.forall_mem_cons.mpr ⟨lw_p30, List.forall_mem_cons.mpr ⟨lw_p31, fun _ h => absurd h List.not_mem_nil⟩⟩⟩⟩⟩⟩⟩⟩⟩⟩⟩⟩⟩⟩⟩⟩
theorem lw_p32 : lw_okq (⟨"BuddyBlockSchedulerModel", "goesAhead", "(II)Z"⟩, 7) := ⟨⟨by decide +kernel, by decide +kernel⟩, List.mem_of_getElem? (i := 818) (by decide +kernel), List.mem_of_getElem? (i := 928) (by decide +kernel), List.mem_of_getElem? (i := 929) (by decide +kernel)⟩
theorem lw_p33 : lw_okq (⟨"BuddyBlockSchedulerModel", "isJob", "(I)Z"⟩, 7) := ⟨⟨by decide +kernel, by decide +kernel⟩, List.mem_of_getElem? (i := 818) (by decide +kernel), List.mem_of_getElem? (i := 936) (by decide +kernel), List.mem_of_getElem? (i := 937) (by decide +kernel)⟩
theorem lw_p34 : lw_okq (⟨"BuddyBlockSchedulerModel", "refuses", "(I)I"⟩, 7) := ⟨⟨by decide +kernel, by decide +kernel⟩, List.mem_of_getElem? (i := 818) (by decide +kernel), List.mem_of_getElem? (i := 948) (by decide +kernel), List.mem_of_getElem? (i := 949) (by decide +kernel)⟩
theorem lw_p35 : lw_okq (⟨"BuddyBlockSchedulerModel", "isReservation", "(I)Z"⟩, 7) := ⟨⟨by decide +kernel, by decide +kernel⟩, List.mem_of_getElem? (i := 818) (by decide +kernel), List.mem_of_getElem? (i := 960) (by decide +kernel), List.mem_of_getElem? (i := 961) (by decide +kernel)⟩
theorem lw_p36 : lw_okq (⟨"BuddyBlockSchedulerModel", "ofAllocated", "(II)I"⟩, 7) := ⟨⟨by decide +kernel, by decide +kernel⟩, List.mem_of_getElem? (i := 818) (by decide +kernel), List.mem_of_getElem? (i := 988) (by decide +kernel), List.mem_of_getElem? (i := 989) (by decide +kernel)⟩
theorem lw_p37 : lw_okq (⟨"BuddyBlockSchedulerModel", "owner", "(II)I"⟩, 7) := ⟨⟨by decide +kernel, by decide +kernel⟩, List.mem_of_getElem? (i := 818) (by decide +kernel), List.mem_of_getElem? (i := 1037) (by decide +kernel), List.mem_of_getElem? (i := 1038) (by decide +kernel)⟩
theorem lw_p38 : lw_okq (⟨"BuddyBlockSchedulerModel", "frees", "(I)I"⟩, 7) := ⟨⟨by decide +kernel, by decide +kernel⟩, List.mem_of_getElem? (i := 818) (by decide +kernel), List.mem_of_getElem? (i := 1045) (by decide +kernel), List.mem_of_getElem? (i := 1046) (by decide +kernel)⟩
theorem lw_p39 : lw_okq (⟨"BuddyBlockSchedulerModel", "isFreeNow", "(II)Z"⟩, 7) := ⟨⟨by decide +kernel, by decide +kernel⟩, List.mem_of_getElem? (i := 818) (by decide +kernel), List.mem_of_getElem? (i := 1053) (by decide +kernel), List.mem_of_getElem? (i := 1054) (by decide +kernel)⟩
theorem lw_p40 : lw_okq (⟨"BuddyBlockSchedulerModel", "largest", "()I"⟩, 7) := ⟨⟨by decide +kernel, by decide +kernel⟩, List.mem_of_getElem? (i := 818) (by decide +kernel), List.mem_of_getElem? (i := 1061) (by decide +kernel), List.mem_of_getElem? (i := 1062) (by decide +kernel)⟩
def lw_privs_3 : List (MethodName × Nat) := [(⟨"BuddyBlockSchedulerModel", "goesAhead", "(II)Z"⟩, 7), (⟨"BuddyBlockSchedulerModel", "isJob", "(I)Z"⟩, 7), (⟨"BuddyBlockSchedulerModel", "refuses", "(I)I"⟩, 7), (⟨"BuddyBlockSchedulerModel", "isReservation", "(I)Z"⟩, 7), (⟨"BuddyBlockSchedulerModel", "ofAllocated", "(II)I"⟩, 7), (⟨"BuddyBlockSchedulerModel", "owner", "(II)I"⟩, 7), (⟨"BuddyBlockSchedulerModel", "frees", "(I)I"⟩, 7), (⟨"BuddyBlockSchedulerModel", "isFreeNow", "(II)Z"⟩, 7), (⟨"BuddyBlockSchedulerModel", "largest", "()I"⟩, 7)]
theorem lw_r3 : ∀ q ∈ lw_privs_3, lw_okq q := List.forall_mem_cons.mpr ⟨lw_p32, List.forall_mem_cons.mpr ⟨lw_p33, List.forall_mem_cons.mpr ⟨lw_p34, List.forall_mem_cons.mpr ⟨lw_p35, List.forall_mem_cons.mpr ⟨lw_p36, List.forall_mem_cons.mpr ⟨lw_p37, List.forall_mem_cons.mpr ⟨lw_p38, List.forall_mem_cons.mpr ⟨lw_p39, List.forall_mem_cons.mpr ⟨lw_p40, fun _ h => absurd h List.not_mem_nil⟩⟩⟩⟩⟩⟩⟩⟩⟩
def lw_privs : List (MethodName × Nat) := lw_privs_1 ++ (lw_privs_2 ++ (lw_privs_3))
def lw_tbl : List Cond := k2_sels lw_privs ++ tables_1
theorem lw_privs_ok : ∀ q ∈ lw_privs, lw_okq q := by
  show ∀ q ∈ lw_privs_1 ++ (lw_privs_2 ++ (lw_privs_3)), lw_okq q
  exact List.forall_mem_append.mpr ⟨lw_r1, List.forall_mem_append.mpr ⟨lw_r2, lw_r3⟩⟩
/-- the streams that the claim lets the run draw from -/
abbrev lw_cs : List Choice := [Jvm.Choice.named "NaN.bits"]
theorem lw_bits : nanBits ∈ lw_cs := by first | decide | exact List.mem_cons_self | simp [lw_cs, nanBits]
-- ===== end of PART A; then your names; then what follows =====
end
section
/-! ===== BEGIN words of one list among another's, by their places ===== -/
theorem goodIn_r {big : List Cond} (ws : List Cond) (ps : List Nat) (hp : ws = ps.filterMap (fun i => big[i]?)) (h : ws.all goodWord = true) : GoodIn big ws := by
  intro w hw
  have h1 := List.all_eq_true.mp h w hw
  rw [hp] at hw
  obtain ⟨i, -, hi⟩ := List.mem_filterMap.mp hw
  have hm : w ∈ big := by first | exact List.mem_of_getElem? hi | exact List.getElem?_mem hi
  exact ⟨hm, good_of_word h1⟩
theorem goodIn_app {big a b : List Cond} (ha : GoodIn big a) (hb : GoodIn big b) : GoodIn big (a ++ b) := fun w h => (List.mem_append.mp h).elim (ha w) (hb w)
theorem goodIn_ca {big a b : List Cond} {c : Cond} (ha : GoodIn big (c :: a)) (hb : GoodIn big b) : GoodIn big (c :: (a ++ b)) := fun w h => (List.mem_cons.mp h).elim (fun e => ha w (List.mem_cons.mpr (Or.inl e))) (fun h => (List.mem_append.mp h).elim (fun h => ha w (List.mem_cons.mpr (Or.inr h))) (hb w))
theorem goodIn_sub {big ws : List Cond} (hm : ∀ w ∈ ws, w ∈ big) (h : ws.all goodWord = true) : GoodIn big ws := fun w hw => ⟨hm w hw, good_of_word (List.all_eq_true.mp h w hw)⟩
/-! ===== END ===== -/

/-! ===== BEGIN exceptions that leave a method, and their catching by the caller (launches without stack traces) ===== -/
section VXA
/-! The laws vx_back, vx_callV, vx_callS, vx_callSW, vx_throw0, vx_throwS follow proofs of the library, with one case more: JvmDerived/Free/Laws.lean (Back.of_free), Shelf42/LK1.lean (callV, callS), Shelf/KitTraced.lean (throwNew0V, throwNewS). -/
/-- where a method has thrown q: the class by its name, the cell, what was written, the world -/
def vx_T (XC : String → State → State → Prop) (st : State) (q : Addr) (t : State) (mc ms : Nat) (free : Addr → Prop) : Prop :=
  ∃ (E : String) (ce : Cell) (L : List Loc), XC E st t ∧ t.heap[q]? = some ce ∧ ce.vm = .none ∧ st.vm.findClass E = some ce.cls ∧ st.WarmedH t.vm ∧ st.sameButNew ({ t with vm := st.vm } : State) L mc ms ∧ ∀ z ∈ L, free z.base
def vx_Q (Qc : Array Value → State → Outcome → State → Prop) (XC : String → State → State → Prop) (mc ms : Nat) (free : Addr → Prop) : Array Value → State → Outcome → State → Prop := fun a st o t =>
  (Qc a st o t ∧ ∃ L, FrameEnd st o t L mc ms ∧ ∀ q ∈ L, free q.base) ∨ ∃ q, o = .threw q ∧ vx_T XC st q t mc ms free
/-- a callee that returns or throws -/
def vx_Met (l : Launch) (y : MethodName) (ws : List Cond) (rm : Room) (Pc : Array Value → State → Prop) (Qc : Array Value → State → Outcome → State → Prop) (XC : String → State → State → Prop) (mc ms : Nat) (free : Addr → Prop) : Prop :=
  MetFree l y (headSpec ws rm) Pc (fun _ _ _ _ _ => True) (vx_Q Qc XC mc ms free)
def vx_Post (XC : String → State → State → Prop) (mc ms : Nat) (free : Addr → Prop) : Pt → Array Value → Addr → Pt → Prop := fun A a q B =>
  ∃ (g : JFrame) (mk : MethodId) (t : State) (L : List Loc) (E : String) (ce : Cell), B.U.heap = t.heap ∧ B.U.vm = t.vm ∧ XC E (A.U.calling g mk a) t ∧ t.heap[q]? = some ce ∧ ce.vm = .none ∧ A.U.vm.findClass E = some ce.cls ∧ B.locs = A.locs ++ L ∧ (∀ z ∈ L, free z.base) ∧ B.cells = A.cells + mc ∧ B.slots = A.slots + ms
def vx_Back (l : Launch) (R : Room) (p : Program) (e : Env) (below : List Frame) (s : State) (sargs : Array Value) (y : MethodName) (len W9 : Nat)
    (Pre : Pt → Array Value → Prop) (Post : Pt → Array Value → Option Value → Pt → Prop) (PostX : Pt → Array Value → Addr → Pt → Prop) : Prop :=
  ∀ (m : MethodId) (meth : Method) (c : Code) (A : Pt) (g : JFrame) (ig : Instr) (mk : MethodId) (a : Array Value),
    Stand p l e R s m sargs below meth c A.U A.locs A.cells A.slots → g.method = m → g.locals.size = c.maxLocals → decode c.code g.pc = .ok (ig, len) →
    2 * g.monitorRoom + (g.stack.map fun v => v.category).sum ≤ W9 → A.U.methodNamed? y = some mk → Pre A a →
    (∃ (v : Option Value) (B : Pt), Stand p l e R s m sargs below meth c B.U B.locs B.cells B.slots ∧ Post A a v B ∧
      Steps p.tables e below (doInvoke e (A.U.setTop g) [] mk a).1 (B.U.setTop { g with pc := g.pc + len, stack := v.toList ++ g.stack })) ∨
    (∃ (q : Addr) (B : Pt), Stand p l e R s m sargs below meth c B.U B.locs B.cells B.slots ∧ PostX A a q B ∧
      Steps p.tables e below (doInvoke e (A.U.setTop g) [] mk a).1 ((B.U.setTop g).pushFrame (.throwing q)))
section Payer
variable {l : Launch} {R : Room} {p : Program} {e : Env} {below : List Frame} {s : State} {sargs : Array Value} {y : MethodName} {len W9 : Nat}
theorem vx_back {ws : List Cond} {rm : Room} {Pc : Array Value → State → Prop} {Qc : Array Value → State → Outcome → State → Prop} {XC : String → State → State → Prop} {mc ms : Nat} {free : Addr → Prop} {bytes : ByteArray} {maxL : Nat} {ret : Option FieldType}
    (hM : vx_Met l y ws rm Pc Qc XC mc ms free) (hblind : FrameBlind Pc) (hrc : rm.cells = mc) (hrs : rm.slots = ms)
    (hframes : rm.frames + 1 ≤ R.frames) (hlocals : W9 + (maxL + 11) + rm.locals ≤ R.locals)
    (hws : ∀ w ∈ ws, ∀ a' U, s.WarmedH U.vm → w.before a' U = true) (hcode : Cond.code y bytes maxL ret ∈ ws) (hinit : ∀ a' U, s.WarmedH U.vm → (Cond.initialized y.cls).before a' U = true) :
    vx_Back l R p e below s sargs y len W9 (PreOf R mc ms Pc) (PostOf Qc mc ms free) (vx_Post XC mc ms free) := by
  intro m meth c A g ig mk a X hg hsize hdg hW hn hp
  have h1 : (headSpec ws rm).pre.before a A.U = true := atoms_intro fun w hw => hws w hw _ _ X.warmed
  have h2 : (Cond.code y bytes maxL ret).before a A.U = true := hws _ hcode _ _ X.warmed
  have h3 : (Cond.initialized y.cls).before a A.U = true := hinit _ _ X.warmed
  have h4 : A.cells + (headSpec ws rm).room.cells ≤ R.cells := by rw [show (headSpec ws rm).room.cells = mc from hrc]; exact hp.1
  have h5 : A.slots + (headSpec ws rm).room.slots ≤ R.slots := by rw [show (headSpec ws rm).room.slots = ms from hrs]; exact hp.2.1
  have hPc : Pc a (A.U.calling g mk a) := hblind _ _ _ _ hp.2.2
  obtain ⟨U, Ls, c0, s0⟩ := A
  dsimp only [Pt.U, Pt.locs, Pt.cells, Pt.slots] at h1 h2 h3 h4 h5 X hn hPc ⊢
  obtain ⟨methY, cY, hmY, hcY, -, hlY, -, -, -, -⟩ := Cond.code_spec hn h2
  obtain ⟨kY, hkY, -⟩ := className_of_methodNamed hn
  have hinitY : kY.init = .initialized := Cond.initialized_spec (findClass_of_methodNamed hn) hkY h3
  have h : At U g.method c below := by rw [hg]; exact X.here
  have hlocals9 : W9 + (maxL + 11) + (headSpec ws rm).room.locals ≤ R.locals := hlocals
  have happ : (headSpec ws rm).appliesLoose y e.platform (U.calling g mk a) = true :=
    Spec.appliesLoose_calling (g := g) h hdg hn hkY hinitY
      (X.room_calling (g := g) (R' := (headSpec ws rm).room) hsize hmY hcY hframes (by rw [hlY]; omega) h4 h5) h1
  obtain ⟨mid, hmid⟩ := h.above
  have hfr : (U.setTop g).frames = (.java g :: mid) ++ below := by rw [State.frames_setTop' g h.top, hmid]; rfl
  obtain ⟨o, s₂, hsteps, -, hend, hq⟩ := Steps.callFree hM p X.admits X.cas X.clock (acts := []) hfr happ hPc trivial
  have hq' : vx_Q Qc XC mc ms free a (U.calling g mk a) o s₂ := hq
  rw [State.frames_setTop' g h.top] at hend
  obtain ⟨g₀, hg0⟩ := Option.isSome_iff_exists.mp h.top
  obtain ⟨r, hr⟩ := State.topJava?_eq_some.mp hg0
  have hr' : (({ U with heap := s₂.heap, slotsUsed := s₂.slotsUsed } : State).setVm s₂.vm).frames = .java g₀ :: r := hr
  rcases hq' with ⟨hqc, L, hfe, hL⟩ | ⟨q, rfl, E, ce, L, hx, hce, hcv, hcl, hW₂, hsm, hL⟩
  · obtain ⟨⟨v, rfl⟩, hW₂, e2, q2, q3, q4, q5, q6⟩ := id hfe
    have e3 : s₂ = ({ (U.calling g mk a).setFrames s₂.frames with heap := s₂.heap, slotsUsed := s₂.slotsUsed } : State).setVm s₂.vm := by
      have : s₂ = ({ s₂ with vm := (U.calling g mk a).vm } : State).setVm s₂.vm := rfl
      rw [e2] at this
      exact this
    obtain ⟨c₂, i₂, len₂, hc₂, hd₂, hf₂⟩ := hend
    have hW' : U.WarmedH s₂.vm := hW₂
    have hcc : c₂ = c := by
      have h1 : s₂.code? g.method = U.code? g.method := by
        rw [State.code?_eq, State.code?_eq, hW'.alike.method?]
      exact Option.some.inj (hc₂.symm.trans (h1.trans h.code))
    subst hcc
    have hlen : len₂ = len := by rw [hdg] at hd₂; cases hd₂; rfl
    subst hlen
    have hs₂ : s₂ = (({ U with heap := s₂.heap, slotsUsed := s₂.slotsUsed } : State).setVm s₂.vm).setTop { g with pc := g.pc + len₂, stack := v.toList ++ g.stack } := by
      refine e3.trans ?_
      rw [hf₂, State.calling_eq h.top, State.setFrames_setFrames, State.setTop_of_frames _ hr', hr]
      rfl
    have hsame : U.sameButNew ({ U with heap := s₂.heap, slotsUsed := s₂.slotsUsed } : State) L mc ms := by
      refine ⟨?_, q2, q3, q4, q5, q6⟩
      obtain ⟨t, ht, -⟩ := State.frames_cons hr
      show ({ U with heap := s₂.heap, slotsUsed := s₂.slotsUsed } : State) = { U.setFrames U.frames with heap := s₂.heap, slotsUsed := s₂.slotsUsed }
      rw [State.setFrames_self ht]
    subst hg
    refine Or.inl ⟨v, ⟨(({ U with heap := s₂.heap, slotsUsed := s₂.slotsUsed } : State).setVm s₂.vm), Ls ++ L, c0 + mc, s0 + ms⟩,
      ⟨X.admits, X.cas, X.clock, X.frames, X.room, X.hears, X.method, X.code, (X.here.setHeapUsed s₂.heap s₂.slotsUsed).setVm hW'.alike, X.tail, State.WarmedH.trans X.warmed hW', X.limits, X.bytes, X.same.trans (hsame.setVm s.vm)⟩,
      ⟨g, mk, s₂, L, rfl, rfl, hqc, rfl, hL, rfl, rfl⟩, ?_⟩
    show Steps p.tables e below _ ((({ U with heap := s₂.heap, slotsUsed := s₂.slotsUsed } : State).setVm s₂.vm).setTop { g with pc := g.pc + len₂, stack := v.toList ++ g.stack })
    rw [← hs₂]
    exact hsteps
  · obtain ⟨e2, q2, q3, q4, q5, q6⟩ := id hsm
    have e3 : s₂ = ({ (U.calling g mk a).setFrames s₂.frames with heap := s₂.heap, slotsUsed := s₂.slotsUsed } : State).setVm s₂.vm := by
      have : s₂ = ({ s₂ with vm := (U.calling g mk a).vm } : State).setVm s₂.vm := rfl
      rw [e2] at this
      exact this
    have hf₂ : s₂.frames = .throwing q :: .java g :: U.frames.tail := hend
    have hW' : U.WarmedH s₂.vm := hW₂
    have hs₂ : s₂ = ((({ U with heap := s₂.heap, slotsUsed := s₂.slotsUsed } : State).setVm s₂.vm).setTop g).pushFrame (.throwing q) := by
      refine e3.trans ?_
      rw [hf₂, State.calling_eq h.top, State.setFrames_setFrames, State.pushFrame, State.frames_setTop _ hr', State.setTop_of_frames _ hr', State.setFrames_setFrames, hr]
      rfl
    have hsame : U.sameButNew ({ U with heap := s₂.heap, slotsUsed := s₂.slotsUsed } : State) L mc ms := by
      refine ⟨?_, q2, q3, q4, q5, q6⟩
      obtain ⟨t, ht, -⟩ := State.frames_cons hr
      show ({ U with heap := s₂.heap, slotsUsed := s₂.slotsUsed } : State) = { U.setFrames U.frames with heap := s₂.heap, slotsUsed := s₂.slotsUsed }
      rw [State.setFrames_self ht]
    subst hg
    refine Or.inr ⟨q, ⟨(({ U with heap := s₂.heap, slotsUsed := s₂.slotsUsed } : State).setVm s₂.vm), Ls ++ L, c0 + mc, s0 + ms⟩,
      ⟨X.admits, X.cas, X.clock, X.frames, X.room, X.hears, X.method, X.code, (X.here.setHeapUsed s₂.heap s₂.slotsUsed).setVm hW'.alike, X.tail, State.WarmedH.trans X.warmed hW', X.limits, X.bytes, X.same.trans (hsame.setVm s.vm)⟩,
      ⟨g, mk, s₂, L, E, ce, rfl, rfl, hx, hce, hcv, hcl, rfl, hL, rfl, rfl⟩, ?_⟩
    show Steps p.tables e below _ (((({ U with heap := s₂.heap, slotsUsed := s₂.slotsUsed } : State).setVm s₂.vm).setTop g).pushFrame (.throwing q))
    rw [← hs₂]
    exact hsteps
end Payer
section Calls
variable {p : Program} {l : Launch} {e : Env} {R : Room} {s : State} {m : MethodId} {args : Array Value} {below : List Frame} {meth : Method} {c : Code} {T : State} {locs : List Loc} {cells slots : Nat}
theorem vx_callV (X : Stand p l e R s m args below meth c T locs cells slots) (hexec : p.tables.exec = Jvm.exec) {own C : String} {index : Nat} {y : MethodName} {bytes : ByteArray} {maxL : Nat} {ret : Option FieldType}
    (hown : s.vm.findClass own = some m.cls) (hlink : (Cond.methodLink own index y).before args s = true) (hinst : (Cond.instanceMethod y).before args s = true) (hsel : (Cond.selects C y y).before args s = true)
    (hcode : (Cond.code y bytes maxL ret).before args s = true) (hy : y.cls ≠ "java/lang/invoke/MethodHandle" ∧ y.cls ≠ "java/lang/invoke/VarHandle")
    {W9 : Nat} {Pre : Pt → Array Value → Prop} {Post : Pt → Array Value → Option Value → Pt → Prop} {PostX : Pt → Array Value → Addr → Pt → Prop} (hK : vx_Back l R p e below s args y 3 W9 Pre Post PostX)
    {b : Addr} {cellB : Cell} (hcell : T.heap[b]? = some cellB) (hobj : cellB.vm.isStatics = false) (hcls : s.vm.findClass C = some cellB.cls)
    {g : JFrame} (hg : g.method = m) (hsize : g.locals.size = c.maxLocals) {argsL rest : List Value} (hlen : ∀ sig, parseMethodDescriptor y.desc = some sig → argsL.length = sig.parameters.length)
    (hstack : g.stack = argsL.reverse ++ .ref b :: rest) (hW : 2 * g.monitorRoom + (rest.map fun v => v.category).sum ≤ W9) (hdg : decode c.code g.pc = .ok (.invokevirtual index, 3))
    (hpre : ∀ vm₁, s.WarmedH vm₁ → Pre ⟨T.setVm vm₁, locs, cells, slots⟩ (Value.ref b :: argsL).toArray) :
    (∃ (v : Option Value) (vm₁ : Vm) (B : Pt), s.WarmedH vm₁ ∧ Stand p l e R s m args below meth c B.U B.locs B.cells B.slots ∧ Post ⟨T.setVm vm₁, locs, cells, slots⟩ (Value.ref b :: argsL).toArray v B ∧
      ∀ target, Steps p.tables e below (B.U.setTop { g with pc := g.pc + 3, stack := v.toList ++ rest }) target → Steps p.tables e below (T.setTop g) target) ∨
    (∃ (q : Addr) (vm₁ : Vm) (B : Pt), s.WarmedH vm₁ ∧ Stand p l e R s m args below meth c B.U B.locs B.cells B.slots ∧ PostX ⟨T.setVm vm₁, locs, cells, slots⟩ (Value.ref b :: argsL).toArray q B ∧
      Steps p.tables e below (T.setTop g) ((B.U.setTop { g with stack := rest }).pushFrame (.throwing q))) := by
  obtain ⟨mk, methM, hnamed, hmethM, hstM, habM⟩ := Cond.instanceMethod_spec hinst
  obtain ⟨methM', cM, hmethM', -, -, -, -, -, -, hsigM⟩ := Cond.code_spec hnamed hcode
  cases hmethM.symm.trans hmethM'
  obtain ⟨c2, r2, m2, q1, q2, q3, q4, kP, hkP, hkPi⟩ := Cond.selects_spec hsel
  cases hcls.symm.trans q1
  cases (State.methodFound?_of_named hnamed hy).symm.trans q2
  cases hnamed.symm.trans q3
  have hselP : selectMethod e.platform s.vm cellB.cls mk = .method mk := by rw [Launch.admits_selectMethod X.admits]; exact q4
  obtain ⟨vm₁, X₁, hstep₁⟩ := X.invokevirtual hexec hown hlink hnamed hmethM hstM hkP hkPi hy (a := b) (cell := cellB) hcell
    (fun z h => by rw [h] at hobj; cases hobj) hselP hmethM habM hkP hkPi (g := g) hg (argsL := argsL) (rest := rest) (hlen _ hsigM) hstack hdg
  rcases hK m meth c ⟨T.setVm vm₁, locs, cells, slots⟩ { g with stack := rest } (.invokevirtual index) mk (Value.ref b :: argsL).toArray X₁ hg hsize hdg hW (X₁.named hnamed) (hpre vm₁ X₁.warmed) with ⟨v, B, X', hpost, hsteps⟩ | ⟨q, B, X', hpost, hsteps⟩
  · exact Or.inl ⟨v, vm₁, B, X₁.warmed, X', hpost, fun target h => hstep₁ _ fun acts => by rw [doInvoke_state]; exact hsteps.trans h⟩
  · exact Or.inr ⟨q, vm₁, B, X₁.warmed, X', hpost, hstep₁ _ fun acts => by rw [doInvoke_state]; exact hsteps⟩
theorem vx_callS (X : Stand p l e R s m args below meth c T locs cells slots) (hexec : p.tables.exec = Jvm.exec) {own : String} {index : Nat} {y : MethodName} {bytes : ByteArray} {maxL : Nat} {ret : Option FieldType}
    (hown : s.vm.findClass own = some m.cls) (hlink : (Cond.methodLink own index y).before args s = true) (hstat : (Cond.static y).before args s = true) (hinit : (Cond.initialized y.cls).before args s = true)
    (hcode : (Cond.code y bytes maxL ret).before args s = true) (hy : y.cls ≠ "java/lang/invoke/MethodHandle" ∧ y.cls ≠ "java/lang/invoke/VarHandle")
    {W9 : Nat} {Pre : Pt → Array Value → Prop} {Post : Pt → Array Value → Option Value → Pt → Prop} {PostX : Pt → Array Value → Addr → Pt → Prop} (hK : vx_Back l R p e below s args y 3 W9 Pre Post PostX)
    {g : JFrame} (hg : g.method = m) (hsize : g.locals.size = c.maxLocals) {argsL rest : List Value} (hlen : ∀ sig, parseMethodDescriptor y.desc = some sig → argsL.length = sig.parameters.length)
    (hstack : g.stack = argsL.reverse ++ rest) (hW : 2 * g.monitorRoom + (rest.map fun v => v.category).sum ≤ W9) (hdg : decode c.code g.pc = .ok (.invokestatic index, 3))
    (hpre : ∀ vm₁, s.WarmedH vm₁ → Pre ⟨T.setVm vm₁, locs, cells, slots⟩ argsL.toArray) :
    (∃ (v : Option Value) (vm₁ : Vm) (B : Pt), s.WarmedH vm₁ ∧ Stand p l e R s m args below meth c B.U B.locs B.cells B.slots ∧ Post ⟨T.setVm vm₁, locs, cells, slots⟩ argsL.toArray v B ∧
      ∀ target, Steps p.tables e below (B.U.setTop { g with pc := g.pc + 3, stack := v.toList ++ rest }) target → Steps p.tables e below (T.setTop g) target) ∨
    (∃ (q : Addr) (vm₁ : Vm) (B : Pt), s.WarmedH vm₁ ∧ Stand p l e R s m args below meth c B.U B.locs B.cells B.slots ∧ PostX ⟨T.setVm vm₁, locs, cells, slots⟩ argsL.toArray q B ∧
      Steps p.tables e below (T.setTop g) ((B.U.setTop { g with stack := rest }).pushFrame (.throwing q))) := by
  obtain ⟨mk, hnamed⟩ := Cond.code_named hcode
  obtain ⟨methM, cM, hmethM, -, -, -, -, -, -, hsigM⟩ := Cond.code_spec hnamed hcode
  have hstatic : methM.isStatic = true := Cond.static_spec hnamed hmethM hstat
  obtain ⟨kP, hkP, -⟩ := className_of_methodNamed hnamed
  have hinitP : kP.init = .initialized := Cond.initialized_spec (findClass_of_methodNamed hnamed) hkP hinit
  obtain ⟨vm₁, X₁, hstep₁⟩ := X.invokestatic hexec hown hlink hnamed hmethM hstatic hkP hinitP hy (g := g) hg (argsL := argsL) (rest := rest) (hlen _ hsigM) hstack hdg
  rcases hK m meth c ⟨T.setVm vm₁, locs, cells, slots⟩ { g with stack := rest } (.invokestatic index) mk argsL.toArray X₁ hg hsize hdg hW (X₁.named hnamed) (hpre vm₁ X₁.warmed) with ⟨v, B, X', hpost, hsteps⟩ | ⟨q, B, X', hpost, hsteps⟩
  · exact Or.inl ⟨v, vm₁, B, X₁.warmed, X', hpost, fun target h => hstep₁ _ fun acts => by rw [doInvoke_state]; exact hsteps.trans h⟩
  · exact Or.inr ⟨q, vm₁, B, X₁.warmed, X', hpost, hstep₁ _ fun acts => by rw [doInvoke_state]; exact hsteps⟩
end Calls
theorem vx_cls {s : State} {T : State} {vm₁ : Vm} {E : String} {k : ClassId} (hW : s.WarmedH vm₁) (h : (T.setVm vm₁).vm.findClass E = some k) : s.vm.findClass E = some k := by
  have h1 : vm₁.findClass E = some k := h
  rw [hW.alike.findClass] at h1
  exact h1
/-- the method's frame g, with q thrown over it -/
def vx_W (p : Program) (l : Launch) (e : Env) (R : Room) (s : State) (m : MethodId) (args : Array Value) (below : List Frame) (meth : Method) (c : Code) (H : Heap) (locs : List Loc) (cells slots : Nat) (Q : State → Prop) (g : JFrame) (q : Addr) : Prop :=
  ∀ T : State, T.heap = H → Stand p l e R s m args below meth c T locs cells slots → ∃ t, Steps p.tables e below ((T.setTop g).pushFrame (.throwing q)) t ∧ Q t
def vx_Run (p : Program) (l : Launch) (e : Env) (R : Room) (s : State) (m : MethodId) (args : Array Value) (below : List Frame) (meth : Method) (c : Code) (H : Heap) (locs : List Loc) (cells slots mc ms : Nat) (g : JFrame) (rest : List Value) (Qa : State → Outcome → State → Prop) (XC : String → State → State → Prop) (free : Addr → Prop) : Prop :=
  ∀ T : State, T.heap = H → Stand p l e R s m args below meth c T locs cells slots →
    (∃ (v : Option Value) (st₀ t T' : State) (L : List Loc), st₀.heap = H ∧ Stand p l e R s m args below meth c T' (locs ++ L) (cells + mc) (slots + ms) ∧ (∀ q ∈ L, free q.base) ∧ T'.heap = t.heap ∧ T'.vm = t.vm ∧ Qa st₀ (.returned v) t ∧
      Goes p e below T g T' { g with pc := g.pc + 3, stack := v.toList ++ rest }) ∨
    (∃ (q : Addr) (st₀ t T' : State) (L : List Loc) (E : String) (ce : Cell), st₀.heap = H ∧ Stand p l e R s m args below meth c T' (locs ++ L) (cells + mc) (slots + ms) ∧ (∀ z ∈ L, free z.base) ∧ T'.heap = t.heap ∧ T'.vm = t.vm ∧ XC E st₀ t ∧ t.heap[q]? = some ce ∧ ce.vm = .none ∧ s.vm.findClass E = some ce.cls ∧
      Steps p.tables e below (T.setTop g) ((T'.setTop { g with stack := rest }).pushFrame (.throwing q)))
def vx_X {S : Type} (px : S → Prop) (B : String → S → State → Prop) (A : Nat → Prop) : String → State → State → Prop := fun E st t => ∃ u : S, px u ∧ B E u t ∧ va_F A st t
section Runs
variable {p : Program} {l : Launch} {e : Env} {R : Room} {s : State} {m : MethodId} {args : Array Value} {below : List Frame} {meth : Method} {c : Code} {H : Heap} {locs : List Loc} {cells slots : Nat}
variable {y : MethodName} {bytes cc : ByteArray} {maxL nL mc ms n index : Nat} {ret : Option FieldType} {ws : List Cond} {rm : Room} {Pc : Array Value → State → Prop} {Qc : Array Value → State → Outcome → State → Prop} {XC : String → State → State → Prop} {free : Addr → Prop} {Ts : List Cond} {own C : String} {b : Addr} {As rest : List Value} {g : JFrame}
theorem vx_callBack (cb : CallB R s args own index y bytes maxL ret ws rm mc ms n) (hM : vx_Met l y ws rm Pc Qc XC mc ms free) (hbl : FrameBlind Pc) : vx_Back l R p e below s args y 3 8 (PreOf R mc ms Pc) (PostOf Qc mc ms free) (vx_Post XC mc ms free) := by
  obtain ⟨hrc, hrs, hfr, hlo, hws, hcw, -, hini, -⟩ := cb
  exact vx_back (bytes := bytes) (maxL := maxL) (ret := ret) hM hbl hrc hrs hfr hlo hws hcw (fun a' U hW => word_at hW (Or.inl (by first | rfl | simp [Cond.onTables, Cond.keeps, Cond.steady])) hini)
theorem vx_runV (S : CallFix p m c cc nL s args Ts own) (hM : vx_Met l y ws rm Pc Qc XC mc ms free) (cw : CallW R s args own C index y bytes maxL ret ws rm mc ms n) (hp : PreV s H C b Pc As)
    (hg : g.method = m) (hn : As.length = n) (hsize : g.locals.size = nL) (hstack : g.stack = As.reverse ++ .ref b :: rest) (hW : 2 * g.monitorRoom + (rest.map fun v => v.category).sum ≤ 8) (hdg : decode cc g.pc = .ok (.invokevirtual index, 3)) (hf : cells + mc ≤ R.cells ∧ slots + ms ≤ R.slots) :
    vx_Run p l e R s m args below meth c H locs cells slots mc ms g rest (Qc (Value.ref b :: As).toArray) XC free := by
  have hK : vx_Back l R p e below s args y 3 8 (PreOf R mc ms Pc) (PostOf Qc mc ms free) (vx_Post XC mc ms free) := vx_callBack cw.1 hM hp.1
  obtain ⟨⟨-, -, -, -, -, -, hcode, -, hy, hlen, hl⟩, hin, hse⟩ := cw
  obtain ⟨hx, hb, hml, ho, -⟩ := S
  obtain ⟨-, ⟨cellB, hcB, hoB, hclB⟩, hPc⟩ := hp
  intro T hT X
  rcases vx_callV X hx (C := C) (bytes := bytes) (maxL := maxL) (ret := ret) ho hl hin hse hcode hy hK (by rw [hT]; exact hcB) hoB hclB hg (hsize.trans hml.symm) (argsL := As) (rest := rest) (fun sig h => hn.trans (hlen sig h)) hstack hW (by rw [hb]; exact hdg)
    (fun vm₁ hW₁ => ⟨hf.1, hf.2, hPc (T.setVm vm₁) hT hW₁⟩) with ⟨v, vm₁, ⟨U', l2, c2, s2⟩, hW₁, X', ⟨g', mk, t, L, e1, e2, hq, h1, hL, h2, h3⟩, st⟩ | ⟨q, vm₁, ⟨U', l2, c2, s2⟩, hW₁, X', ⟨g', mk, t, L, E, ce, e1, e2, hq, hce, hcv, hcl, h1, hL, h2, h3⟩, st⟩
  · dsimp only [Pt.U, Pt.locs, Pt.cells, Pt.slots] at X' e1 e2 h1 h2 h3 st
    subst h1; subst h2; subst h3
    exact Or.inl ⟨v, (T.setVm vm₁).calling g' mk (Value.ref b :: As).toArray, t, U', L, hT, X', hL, e1, e2, hq, st⟩
  · dsimp only [Pt.U, Pt.locs, Pt.cells, Pt.slots] at X' e1 e2 h1 h2 h3 st hcl
    subst h1; subst h2; subst h3
    exact Or.inr ⟨q, (T.setVm vm₁).calling g' mk (Value.ref b :: As).toArray, t, U', L, E, ce, hT, X', hL, e1, e2, hq, hce, hcv, vx_cls hW₁ hcl, st⟩
theorem vx_runS (S : CallFix p m c cc nL s args Ts own) (hM : vx_Met l y ws rm Pc Qc XC mc ms free) (cw : CallB R s args own index y bytes maxL ret ws rm mc ms n ∧ (Cond.static y).before args s = true) (hp : PreS s H Pc As)
    (hg : g.method = m) (hn : As.length = n) (hsize : g.locals.size = nL) (hstack : g.stack = As.reverse ++ rest) (hW : 2 * g.monitorRoom + (rest.map fun v => v.category).sum ≤ 8) (hdg : decode cc g.pc = .ok (.invokestatic index, 3)) (hf : cells + mc ≤ R.cells ∧ slots + ms ≤ R.slots) :
    vx_Run p l e R s m args below meth c H locs cells slots mc ms g rest (Qc As.toArray) XC free := by
  have hK : vx_Back l R p e below s args y 3 8 (PreOf R mc ms Pc) (PostOf Qc mc ms free) (vx_Post XC mc ms free) := vx_callBack cw.1 hM hp.1
  obtain ⟨⟨-, -, -, -, -, -, hcode, hini, hy, hlen, hl⟩, hstt⟩ := cw
  obtain ⟨hx, hb, hml, ho, -⟩ := S
  intro T hT X
  rcases vx_callS X hx (bytes := bytes) (maxL := maxL) (ret := ret) ho hl hstt hini hcode hy hK hg (hsize.trans hml.symm) (argsL := As) (rest := rest) (fun sig h => hn.trans (hlen sig h)) hstack hW (by rw [hb]; exact hdg)
    (fun vm₁ hW₁ => ⟨hf.1, hf.2, hp.2 (T.setVm vm₁) hT hW₁⟩) with ⟨v, vm₁, ⟨U', l2, c2, s2⟩, hW₁, X', ⟨g', mk, t, L, e1, e2, hq, h1, hL, h2, h3⟩, st⟩ | ⟨q, vm₁, ⟨U', l2, c2, s2⟩, hW₁, X', ⟨g', mk, t, L, E, ce, e1, e2, hq, hce, hcv, hcl, h1, hL, h2, h3⟩, st⟩
  · dsimp only [Pt.U, Pt.locs, Pt.cells, Pt.slots] at X' e1 e2 h1 h2 h3 st
    subst h1; subst h2; subst h3
    exact Or.inl ⟨v, (T.setVm vm₁).calling g' mk As.toArray, t, U', L, hT, X', hL, e1, e2, hq, st⟩
  · dsimp only [Pt.U, Pt.locs, Pt.cells, Pt.slots] at X' e1 e2 h1 h2 h3 st hcl
    subst h1; subst h2; subst h3
    exact Or.inr ⟨q, (T.setVm vm₁).calling g' mk As.toArray, t, U', L, E, ce, hT, X', hL, e1, e2, hq, hce, hcv, vx_cls hW₁ hcl, st⟩
end Runs
section Rows
variable {p : Program} {l : Launch} {e : Env} {R : Room} {s : State} {m : MethodId} {args : Array Value} {below : List Frame} {meth : Method} {c : Code} {H : Heap} {locs : List Loc} {cells slots : Nat} {Q : State → Prop}
variable {mc ms : Nat} {free : Addr → Prop} {A0 A1 : Nat → Prop} {H0 : Heap} {a : Array Value} {pc : Nat} {ls : Array Slot} {st0 rest : List Value}
theorem vx_keep {st₀ t T' : State} {L : List Loc} (h0 : st₀.heap = H) (e1 : T'.heap = t.heap) (hS : va_S A0 H0 H locs) (hA : ∀ q, q < H.size → A1 q → A0 q) (hf : ∀ q, free q → A0 q) (hL : ∀ q ∈ L, free q.base) (hF : va_F A1 st₀ t) :
    H.size ≤ T'.heap.size ∧ (∀ q : Nat, q < H.size → ¬ A1 q → T'.heap[q]? = H[q]?) ∧ va_S A0 H0 T'.heap (locs ++ L) := by
  obtain ⟨hz, hk⟩ := hF
  rw [h0] at hz hk
  exact ⟨by rw [e1]; exact hz, fun q h1 h2 => by rw [e1]; exact hk q h1 h2,
    ⟨Nat.le_trans hS.1 (by rw [e1]; exact hz), fun q h1 h2 => by rw [e1, hk q (Nat.lt_of_lt_of_le h1 hS.1) (fun z => h2 (hA q (Nat.lt_of_lt_of_le h1 hS.1) z))]; exact hS.2.1 q h1 h2, fun q hq => by
      rcases List.mem_append.mp hq with h | h
      · exact hS.2.2 q h
      · exact hf _ (hL q h)⟩⟩
theorem vx_calli {S SX : Type} {post : Int32 → S → Prop} {px : SX → Prop} {B : S → State → Prop} {BX : String → SX → State → Prop} {AX : Nat → Prop} (hr : vx_Run p l e R s m args below meth c H locs cells slots mc ms (F0 m pc ls st0) rest (va_Qi post B A1 a) (vx_X px BX AX) free) (hS : va_S A0 H0 H locs) (hA : ∀ q, q < H.size → A1 q → A0 q) (hf : ∀ q, free q → A0 q) (hAX : ∀ q, q < H.size → AX q → A0 q)
    (kx : ∀ (E : String) (ce : Cell) (q9 : Addr) (u : SX) (t : State) (H1 : Heap) (locs1 : List Loc), t.heap = H1 → s.vm.Alike t.vm → px u → BX E u t → H.size ≤ H1.size → (∀ q : Nat, q < H.size → ¬ AX q → H1[q]? = H[q]?) → va_S A0 H0 H1 locs1 → H1[q9]? = some ce → ce.vm = .none → s.vm.findClass E = some ce.cls → vx_W p l e R s m args below meth c H1 locs1 (cells + mc) (slots + ms) Q (F0 m pc ls rest) q9)
    (kk : ∀ (r : Int32) (u : S) (t : State) (H1 : Heap) (locs1 : List Loc), t.heap = H1 → s.vm.Alike t.vm → post r u → B u t → H.size ≤ H1.size → (∀ q : Nat, q < H.size → ¬ A1 q → H1[q]? = H[q]?) → va_S A0 H0 H1 locs1 → W p l e R s m args below meth c H1 locs1 (cells + mc) (slots + ms) Q (F0 m (pc + 3) ls (.int r :: rest))) : W p l e R s m args below meth c H locs cells slots Q (F0 m pc ls st0) := by
  intro T hT X
  rcases hr T hT X with ⟨v, st₀, t, T', L, h0, X', hL, e1, e2, ⟨⟨r, u, hv, hp, hb⟩, hF⟩, st⟩ | ⟨q, st₀, t, T', L, E, ce, h0, X', hL, e1, e2, ⟨u, hp, hb, hF⟩, hce, hcv, hcl, st⟩
  · cases hv
    obtain ⟨k1, k2, k3⟩ := vx_keep h0 e1 hS hA hf hL hF
    obtain ⟨t2, a1, b1⟩ := kk r u t T'.heap (locs ++ L) e1.symm (by rw [← e2]; exact X'.warmed.alike) hp hb k1 k2 k3 T' rfl X'
    exact ⟨t2, st t2 a1, b1⟩
  · obtain ⟨k1, k2, k3⟩ := vx_keep h0 e1 hS hAX hf hL hF
    obtain ⟨t2, a1, b1⟩ := kx E ce q u t T'.heap (locs ++ L) e1.symm (by rw [← e2]; exact X'.warmed.alike) hp hb k1 k2 k3 (by rw [e1]; exact hce) hcv hcl T' rfl X'
    exact ⟨t2, st.trans a1, b1⟩
theorem vx_calll {S SX : Type} {post : Int64 → S → Prop} {px : SX → Prop} {B : S → State → Prop} {BX : String → SX → State → Prop} {AX : Nat → Prop} (hr : vx_Run p l e R s m args below meth c H locs cells slots mc ms (F0 m pc ls st0) rest (va_Ql post B A1 a) (vx_X px BX AX) free) (hS : va_S A0 H0 H locs) (hA : ∀ q, q < H.size → A1 q → A0 q) (hf : ∀ q, free q → A0 q) (hAX : ∀ q, q < H.size → AX q → A0 q)
    (kx : ∀ (E : String) (ce : Cell) (q9 : Addr) (u : SX) (t : State) (H1 : Heap) (locs1 : List Loc), t.heap = H1 → s.vm.Alike t.vm → px u → BX E u t → H.size ≤ H1.size → (∀ q : Nat, q < H.size → ¬ AX q → H1[q]? = H[q]?) → va_S A0 H0 H1 locs1 → H1[q9]? = some ce → ce.vm = .none → s.vm.findClass E = some ce.cls → vx_W p l e R s m args below meth c H1 locs1 (cells + mc) (slots + ms) Q (F0 m pc ls rest) q9)
    (kk : ∀ (r : Int64) (u : S) (t : State) (H1 : Heap) (locs1 : List Loc), t.heap = H1 → s.vm.Alike t.vm → post r u → B u t → H.size ≤ H1.size → (∀ q : Nat, q < H.size → ¬ A1 q → H1[q]? = H[q]?) → va_S A0 H0 H1 locs1 → W p l e R s m args below meth c H1 locs1 (cells + mc) (slots + ms) Q (F0 m (pc + 3) ls (.long r :: rest))) : W p l e R s m args below meth c H locs cells slots Q (F0 m pc ls st0) := by
  intro T hT X
  rcases hr T hT X with ⟨v, st₀, t, T', L, h0, X', hL, e1, e2, ⟨⟨r, u, hv, hp, hb⟩, hF⟩, st⟩ | ⟨q, st₀, t, T', L, E, ce, h0, X', hL, e1, e2, ⟨u, hp, hb, hF⟩, hce, hcv, hcl, st⟩
  · cases hv
    obtain ⟨k1, k2, k3⟩ := vx_keep h0 e1 hS hA hf hL hF
    obtain ⟨t2, a1, b1⟩ := kk r u t T'.heap (locs ++ L) e1.symm (by rw [← e2]; exact X'.warmed.alike) hp hb k1 k2 k3 T' rfl X'
    exact ⟨t2, st t2 a1, b1⟩
  · obtain ⟨k1, k2, k3⟩ := vx_keep h0 e1 hS hAX hf hL hF
    obtain ⟨t2, a1, b1⟩ := kx E ce q u t T'.heap (locs ++ L) e1.symm (by rw [← e2]; exact X'.warmed.alike) hp hb k1 k2 k3 (by rw [e1]; exact hce) hcv hcl T' rfl X'
    exact ⟨t2, st.trans a1, b1⟩
theorem vx_callf {S SX : Type} {post : UInt32 → S → Prop} {px : SX → Prop} {B : S → State → Prop} {BX : String → SX → State → Prop} {AX : Nat → Prop} (hr : vx_Run p l e R s m args below meth c H locs cells slots mc ms (F0 m pc ls st0) rest (va_Qf post B A1 a) (vx_X px BX AX) free) (hS : va_S A0 H0 H locs) (hA : ∀ q, q < H.size → A1 q → A0 q) (hf : ∀ q, free q → A0 q) (hAX : ∀ q, q < H.size → AX q → A0 q)
    (kx : ∀ (E : String) (ce : Cell) (q9 : Addr) (u : SX) (t : State) (H1 : Heap) (locs1 : List Loc), t.heap = H1 → s.vm.Alike t.vm → px u → BX E u t → H.size ≤ H1.size → (∀ q : Nat, q < H.size → ¬ AX q → H1[q]? = H[q]?) → va_S A0 H0 H1 locs1 → H1[q9]? = some ce → ce.vm = .none → s.vm.findClass E = some ce.cls → vx_W p l e R s m args below meth c H1 locs1 (cells + mc) (slots + ms) Q (F0 m pc ls rest) q9)
    (kk : ∀ (r : UInt32) (u : S) (t : State) (H1 : Heap) (locs1 : List Loc), t.heap = H1 → s.vm.Alike t.vm → post r u → B u t → H.size ≤ H1.size → (∀ q : Nat, q < H.size → ¬ A1 q → H1[q]? = H[q]?) → va_S A0 H0 H1 locs1 → W p l e R s m args below meth c H1 locs1 (cells + mc) (slots + ms) Q (F0 m (pc + 3) ls (.float r :: rest))) : W p l e R s m args below meth c H locs cells slots Q (F0 m pc ls st0) := by
  intro T hT X
  rcases hr T hT X with ⟨v, st₀, t, T', L, h0, X', hL, e1, e2, ⟨⟨r, u, hv, hp, hb⟩, hF⟩, st⟩ | ⟨q, st₀, t, T', L, E, ce, h0, X', hL, e1, e2, ⟨u, hp, hb, hF⟩, hce, hcv, hcl, st⟩
  · cases hv
    obtain ⟨k1, k2, k3⟩ := vx_keep h0 e1 hS hA hf hL hF
    obtain ⟨t2, a1, b1⟩ := kk r u t T'.heap (locs ++ L) e1.symm (by rw [← e2]; exact X'.warmed.alike) hp hb k1 k2 k3 T' rfl X'
    exact ⟨t2, st t2 a1, b1⟩
  · obtain ⟨k1, k2, k3⟩ := vx_keep h0 e1 hS hAX hf hL hF
    obtain ⟨t2, a1, b1⟩ := kx E ce q u t T'.heap (locs ++ L) e1.symm (by rw [← e2]; exact X'.warmed.alike) hp hb k1 k2 k3 (by rw [e1]; exact hce) hcv hcl T' rfl X'
    exact ⟨t2, st.trans a1, b1⟩
theorem vx_calld {S SX : Type} {post : UInt64 → S → Prop} {px : SX → Prop} {B : S → State → Prop} {BX : String → SX → State → Prop} {AX : Nat → Prop} (hr : vx_Run p l e R s m args below meth c H locs cells slots mc ms (F0 m pc ls st0) rest (va_Qd post B A1 a) (vx_X px BX AX) free) (hS : va_S A0 H0 H locs) (hA : ∀ q, q < H.size → A1 q → A0 q) (hf : ∀ q, free q → A0 q) (hAX : ∀ q, q < H.size → AX q → A0 q)
    (kx : ∀ (E : String) (ce : Cell) (q9 : Addr) (u : SX) (t : State) (H1 : Heap) (locs1 : List Loc), t.heap = H1 → s.vm.Alike t.vm → px u → BX E u t → H.size ≤ H1.size → (∀ q : Nat, q < H.size → ¬ AX q → H1[q]? = H[q]?) → va_S A0 H0 H1 locs1 → H1[q9]? = some ce → ce.vm = .none → s.vm.findClass E = some ce.cls → vx_W p l e R s m args below meth c H1 locs1 (cells + mc) (slots + ms) Q (F0 m pc ls rest) q9)
    (kk : ∀ (r : UInt64) (u : S) (t : State) (H1 : Heap) (locs1 : List Loc), t.heap = H1 → s.vm.Alike t.vm → post r u → B u t → H.size ≤ H1.size → (∀ q : Nat, q < H.size → ¬ A1 q → H1[q]? = H[q]?) → va_S A0 H0 H1 locs1 → W p l e R s m args below meth c H1 locs1 (cells + mc) (slots + ms) Q (F0 m (pc + 3) ls (.double r :: rest))) : W p l e R s m args below meth c H locs cells slots Q (F0 m pc ls st0) := by
  intro T hT X
  rcases hr T hT X with ⟨v, st₀, t, T', L, h0, X', hL, e1, e2, ⟨⟨r, u, hv, hp, hb⟩, hF⟩, st⟩ | ⟨q, st₀, t, T', L, E, ce, h0, X', hL, e1, e2, ⟨u, hp, hb, hF⟩, hce, hcv, hcl, st⟩
  · cases hv
    obtain ⟨k1, k2, k3⟩ := vx_keep h0 e1 hS hA hf hL hF
    obtain ⟨t2, a1, b1⟩ := kk r u t T'.heap (locs ++ L) e1.symm (by rw [← e2]; exact X'.warmed.alike) hp hb k1 k2 k3 T' rfl X'
    exact ⟨t2, st t2 a1, b1⟩
  · obtain ⟨k1, k2, k3⟩ := vx_keep h0 e1 hS hAX hf hL hF
    obtain ⟨t2, a1, b1⟩ := kx E ce q u t T'.heap (locs ++ L) e1.symm (by rw [← e2]; exact X'.warmed.alike) hp hb k1 k2 k3 (by rw [e1]; exact hce) hcv hcl T' rfl X'
    exact ⟨t2, st.trans a1, b1⟩
theorem vx_callv {S SX : Type} {post : S → Prop} {px : SX → Prop} {B : S → State → Prop} {BX : String → SX → State → Prop} {AX : Nat → Prop} (hr : vx_Run p l e R s m args below meth c H locs cells slots mc ms (F0 m pc ls st0) rest (va_Qv post B A1 a) (vx_X px BX AX) free) (hS : va_S A0 H0 H locs) (hA : ∀ q, q < H.size → A1 q → A0 q) (hf : ∀ q, free q → A0 q) (hAX : ∀ q, q < H.size → AX q → A0 q)
    (kx : ∀ (E : String) (ce : Cell) (q9 : Addr) (u : SX) (t : State) (H1 : Heap) (locs1 : List Loc), t.heap = H1 → s.vm.Alike t.vm → px u → BX E u t → H.size ≤ H1.size → (∀ q : Nat, q < H.size → ¬ AX q → H1[q]? = H[q]?) → va_S A0 H0 H1 locs1 → H1[q9]? = some ce → ce.vm = .none → s.vm.findClass E = some ce.cls → vx_W p l e R s m args below meth c H1 locs1 (cells + mc) (slots + ms) Q (F0 m pc ls rest) q9)
    (kk : ∀ (u : S) (t : State) (H1 : Heap) (locs1 : List Loc), t.heap = H1 → s.vm.Alike t.vm → post u → B u t → H.size ≤ H1.size → (∀ q : Nat, q < H.size → ¬ A1 q → H1[q]? = H[q]?) → va_S A0 H0 H1 locs1 → W p l e R s m args below meth c H1 locs1 (cells + mc) (slots + ms) Q (F0 m (pc + 3) ls (rest))) : W p l e R s m args below meth c H locs cells slots Q (F0 m pc ls st0) := by
  intro T hT X
  rcases hr T hT X with ⟨v, st₀, t, T', L, h0, X', hL, e1, e2, ⟨⟨u, hv, hp, hb⟩, hF⟩, st⟩ | ⟨q, st₀, t, T', L, E, ce, h0, X', hL, e1, e2, ⟨u, hp, hb, hF⟩, hce, hcv, hcl, st⟩
  · cases hv
    obtain ⟨k1, k2, k3⟩ := vx_keep h0 e1 hS hA hf hL hF
    obtain ⟨t2, a1, b1⟩ := kk u t T'.heap (locs ++ L) e1.symm (by rw [← e2]; exact X'.warmed.alike) hp hb k1 k2 k3 T' rfl X'
    exact ⟨t2, st t2 a1, b1⟩
  · obtain ⟨k1, k2, k3⟩ := vx_keep h0 e1 hS hAX hf hL hF
    obtain ⟨t2, a1, b1⟩ := kx E ce q u t T'.heap (locs ++ L) e1.symm (by rw [← e2]; exact X'.warmed.alike) hp hb k1 k2 k3 (by rw [e1]; exact hce) hcv hcl T' rfl X'
    exact ⟨t2, st.trans a1, b1⟩
/-- caught by the row x of this method's table; the rows ahead don't take it -/
theorem vx_catch {own name : String} {E : String} {ce : Cell} {q : Addr} (hown : s.vm.findClass own = some m.cls) (pre : List ExceptionTableEntry) (x : ExceptionTableEntry) (suf : List ExceptionTableEntry) (hsplit : c.exceptionTable.toList = pre ++ x :: suf)
    (hpass : ∀ z ∈ pre, covers z pc = false ∨ (z.catchType ≠ 0 ∧ ∃ nm : String, (Cond.classLink own z.catchType nm).before args s = true ∧ va_Nc E nm s)) (hx : covers x pc = true) (h0 : x.catchType ≠ 0)
    (hlink : (Cond.classLink own x.catchType name).before args s = true) (hcast : (Cond.castable E name).before args s = true) (hcell : H[q]? = some ce) (hv : ce.vm = .none) (hcl : s.vm.findClass E = some ce.cls)
    (kk : W p l e R s m args below meth c H locs cells slots Q (F0 m x.handlerPc ls [.ref q])) : vx_W p l e R s m args below meth c H locs cells slots Q (F0 m pc ls rest) q := by
  intro T hT X
  have hpl : e.platform.magicAccessors = ({} : Platform).magicAccessors := by rw [X.admits.platform]
  obtain ⟨c3, c4, hc3, hc4, hasg⟩ := Cond.castable_spec hcast
  cases Option.some.inj (hc3.symm.trans hcl)
  obtain ⟨c5, hc5, hcl5⟩ := Cond.classLink_spec hown hlink e.platform hpl
  cases Option.some.inj (hc4.symm.trans hc5)
  obtain ⟨vm', X', st⟩ := X.thenCaughtThrough q (g := F0 m pc ls rest) rfl (Steps.refl _) (by rw [hT]; exact hcell) (by rw [hv]; rfl) (by obtain ⟨k9, h9, -⟩ := Vm.findClass_spec hcl; exact ⟨k9, h9⟩) pre x suf hsplit
    (fun z hz => by
      rcases hpass z hz with h | ⟨hz0, nm, hl1, hn1⟩
      · exact Or.inl h
      · obtain ⟨c6, hc6, hcl6⟩ := Cond.classLink_spec hown hl1 e.platform hpl
        obtain ⟨a8, b8, h1, h2, h3⟩ := hn1
        cases Option.some.inj (h1.symm.trans hcl)
        cases Option.some.inj (h2.symm.trans hc6)
        exact Or.inr ⟨hz0, _, hcl6, h3⟩) hx (Or.inr ⟨h0, c4, hcl5, hasg⟩)
  obtain ⟨t, a1, b1⟩ := kk (T.setVm vm') hT X'
  exact ⟨t, st.trans a1, b1⟩
end Rows
section Ends
variable {p : Program} {l : Launch} {e : Env} {R : Room} {s : State} {m : MethodId} {args : Array Value} {below : List Frame} {meth : Method} {c : Code} {H : Heap} {locs : List Loc} {cells slots : Nat} {Q : State → Prop}
variable {mc ms : Nat} {free : Addr → Prop} {A0 A1 : Nat → Prop} {H0 : Heap} {a : Array Value} {ls : Array Slot} {st0 rest : List Value}
variable {Qc : Array Value → State → Outcome → State → Prop} {XC : String → State → State → Prop}
/-- what a body that may throw owes at its end -/
def vx_MQ (below : List Frame) (Qc : Array Value → State → Outcome → State → Prop) (XC : String → State → State → Prop) (a : Array Value) (s : State) (mc ms : Nat) (free : Addr → Prop) : State → Prop := fun t =>
  ∃ o, t.status = .running ∧ Ended t below o ∧ vx_Q Qc XC mc ms free a s o t
theorem vx_ret {g : JFrame} {mc ms : Nat} (k : W p l e R s m args below meth c H locs cells slots (MQ below Qc args s mc ms free) g) : W p l e R s m args below meth c H locs cells slots (vx_MQ below Qc XC args s mc ms free) g := by
  intro T hT X
  obtain ⟨t, a1, o, b1, b2, b3, b4⟩ := k T hT X
  exact ⟨t, a1, o, b1, b2, Or.inl ⟨b3, b4⟩⟩
/-- not caught here: it goes on to the caller -/
theorem vx_widen {g : JFrame} {q : Addr} {k n : Nat} (h1 : cells ≤ k) (h2 : slots ≤ n) (kk : vx_W p l e R s m args below meth c H locs k n Q g q) : vx_W p l e R s m args below meth c H locs cells slots Q g q := fun T hT X => kk T hT (stand_widen X h1 h2)
theorem vx_out {pc : Nat} {E : String} {ce : Cell} {q : Addr} {mc ms : Nat} (hout : ∀ x ∈ c.exceptionTable.toList, covers x pc = false) (hlocks : meth.locks = false) (hcell : H[q]? = some ce) (hv : ce.vm = .none) (hcl : s.vm.findClass E = some ce.cls)
    (hx : ∀ t : State, t.heap = H → s.vm.Alike t.vm → XC E s t) (hf : ∀ z ∈ locs, free z.base) (hc : cells ≤ mc) (hs : slots ≤ ms) :
    vx_W p l e R s m args below meth c H locs cells slots (vx_MQ below Qc XC args s mc ms free) (F0 m pc ls rest) q := by
  intro T hT X
  obtain ⟨st1, hrun, hend, hW, hsm⟩ := X.leaveThrown q (g := F0 m pc ls rest) rfl rfl rfl hout hlocks
  have hcell9 : (T.setFrames (.throwing q :: below)).heap[q]? = some ce := by
    show T.heap[q]? = some ce
    rw [hT]; exact hcell
  exact ⟨_, st1, .threw q, hrun, hend, Or.inr ⟨q, rfl, E, ce, locs, hx _ hT hW.alike, hcell9, hv, hcl, hW, hsm.mono hc hs, hf⟩⟩
theorem vx_frame {U : State} {k n : Nat} (h : s.sameButNew ({ U with vm := s.vm } : State) locs k n) : s.heap.size ≤ U.heap.size ∧ ∀ q : Nat, q < s.heap.size → (∀ z ∈ locs, z.base ≠ q) → U.heap[q]? = s.heap[q]? := by
  obtain ⟨-, h2, -, -, -, h6⟩ := h
  refine ⟨h2, fun q hq hz => ?_⟩
  obtain ⟨c9, e1, e2, e3, e4⟩ := h6 q _ (Array.getElem?_eq_getElem hq)
  have hs : c9.slots = (s.heap[q]).slots := Array.ext_getElem? fun i => e4 i fun hm => hz _ hm rfl
  have h9 : c9 = s.heap[q] := by
    rw [hs] at e2
    exact e2
  have e5 : U.heap[q]? = some c9 := e1
  rw [e5, h9, Array.getElem?_eq_getElem hq]
/-- the words of a throw but the four that speak of the heap -/
def vx_no (w : Cond) : Bool := decide (w ≠ .isRef (.static Bundle.tN "UNASSIGNED_STACK" Bundle.steD)) && decide (w ≠ .isRef (.static Bundle.tN "SUPPRESSED_SENTINEL" Bundle.listD)) && decide (w ≠ .laysStatic Bundle.tN "UNASSIGNED_STACK" Bundle.steD) && decide (w ≠ .laysStatic Bundle.tN "SUPPRESSED_SENTINEL" Bundle.listD)
def vx_at0 (own : String) (ic : Nat) (X : String) (names : List String) : List Cond := (Bundle.ownAtoms0 own ic X names).filter vx_no
def vx_atS (own : String) (ic : Nat) (X : String) (names : List String) : List Cond := (Bundle.ownAtoms own ic X names).filter vx_no
/-- a word that the tables alone decide, or a good one -/
def vx_ot (w : Cond) : Bool := w.onTables || goodWord w
theorem vx_ot_at {args a' : Array Value} {s U : State} {w : Cond} (hW : s.WarmedH U.vm) (hvm : s.vm = U.vm) (hg : vx_ot w = true) (h : w.before args s = true) : w.before a' U = true := by
  simp only [vx_ot, Bool.or_eq_true] at hg
  rcases hg with hg | hg
  · exact va_tabs hg hvm h
  · exact word_at hW (good_of_word hg) h
/-- a list's words: the good ones out of the method's own list, the others by premises of their own -/
theorem vx_hat {args : Array Value} {s : State} {L B : List Cond} (h1 : ∀ w ∈ L.filter goodWord, w.before args s = true) (h2 : ∀ w ∈ L.filter (fun w => !goodWord w), w ∈ B) (h3 : ∀ w ∈ B, w.before args s = true) : ∀ w ∈ L, w.before args s = true := by
  intro w hw
  by_cases g : goodWord w = true
  · exact h1 w (List.mem_filter.mpr ⟨hw, g⟩)
  · refine h3 w (h2 w (List.mem_filter.mpr ⟨hw, ?_⟩))
    show (!goodWord w) = true
    cases hgw : goodWord w
    · rfl
    · exact absurd hgw g
theorem vx_c {args : Array Value} {s : State} {w : Cond} {B : List Cond} (h : w.before args s = true) (t : ∀ w ∈ B, w.before args s = true) : ∀ w' ∈ w :: B, w'.before args s = true := fun w' h' => (List.mem_cons.mp h').elim (fun e => by rw [e]; exact h) (t w')
theorem vx_n {args : Array Value} {s : State} : ∀ w ∈ ([] : List Cond), w.before args s = true := fun _ h => nomatch h
theorem vx_own {args : Array Value} {s : State} {L : List Cond} (h1 : ∀ w ∈ L.filter vx_no, w.before args s = true)
    (hU : (Cond.isRef (.static Bundle.tN "UNASSIGNED_STACK" Bundle.steD)).before args s = true) (hN : (Cond.isRef (.static Bundle.tN "SUPPRESSED_SENTINEL" Bundle.listD)).before args s = true)
    (lU : (Cond.laysStatic Bundle.tN "UNASSIGNED_STACK" Bundle.steD).before args s = true) (lN : (Cond.laysStatic Bundle.tN "SUPPRESSED_SENTINEL" Bundle.listD).before args s = true) : ∀ w ∈ L, w.before args s = true := by
  intro w hw
  by_cases e1 : w = .isRef (.static Bundle.tN "UNASSIGNED_STACK" Bundle.steD)
  · rw [e1]; exact hU
  · by_cases e2 : w = .isRef (.static Bundle.tN "SUPPRESSED_SENTINEL" Bundle.listD)
    · rw [e2]; exact hN
    · by_cases e3 : w = .laysStatic Bundle.tN "UNASSIGNED_STACK" Bundle.steD
      · rw [e3]; exact lU
      · by_cases e4 : w = .laysStatic Bundle.tN "SUPPRESSED_SENTINEL" Bundle.listD
        · rw [e4]; exact lN
        · exact h1 w (List.mem_filter.mpr ⟨hw, by unfold vx_no; rw [decide_eq_true e1, decide_eq_true e2, decide_eq_true e3, decide_eq_true e4]; rfl⟩)
/-- where a static field lies, its class's statics cell in H -/
def vx_L (C n d : String) (A : Nat → Prop) (U : State) (H : Heap) : Prop := ∃ (c : ClassId) (k : Class) (i : Nat) (f : Field) (a : Nat) (cell : Cell), U.vm.findClass C = some c ∧ U.fieldFound? C n d = some (c, k, i, f) ∧ f.isStatic = true ∧ k.statics = some a ∧ H[a]? = some cell ∧ cell.vm.isStatics = true ∧ cell.cls = c ∧ f.slot < cell.slots.size ∧ k.staticTypes[f.slot]? = some f.type ∧ ¬ A a
theorem vx_L.moved {C n d : String} {A : Nat → Prop} {u U : State} {H : Heap} (hvm : u.vm.Alike U.vm) (h : vx_L C n d A u H) : vx_L C n d A U H := by
  obtain ⟨c, k, i, f, a, cell, h1, h2, h3, h4, h5, h6, h7, h8, h9, h10⟩ := h
  obtain ⟨k', hi', he⟩ := State.fieldFound?_setVm hvm h2
  exact ⟨c, k', i, f, a, cell, by rw [hvm.findClass]; exact h1, hi', h3, by rw [he]; exact h4, h5, h6, h7, h8, by rw [he]; exact h9, h10⟩
theorem vx_L.kept {C n d : String} {A : Nat → Prop} {U : State} {H H1 : Heap} (h : vx_L C n d A U H) (hq : ∀ a : Nat, a < H.size → ¬ A a → H1[a]? = H[a]?) : vx_L C n d A U H1 := by
  obtain ⟨c, k, i, f, a, cell, h1, h2, h3, h4, h5, h6, h7, h8, h9, h10⟩ := h
  exact ⟨c, k, i, f, a, cell, h1, h2, h3, h4, by rw [hq a (Array.getElem?_eq_some_iff.mp h5).1 h10]; exact h5, h6, h7, h8, h9, h10⟩
theorem vx_L.narrow {C n d : String} {A B : Nat → Prop} {U : State} {H : Heap} (h : vx_L C n d A U H) (hAB : ∀ q, B q → A q) : vx_L C n d B U H := by
  obtain ⟨c, k, i, f, a, cell, h1, h2, h3, h4, h5, h6, h7, h8, h9, h10⟩ := h
  exact ⟨c, k, i, f, a, cell, h1, h2, h3, h4, h5, h6, h7, h8, h9, fun z => h10 (hAB _ z)⟩
theorem vx_L.word {C n d : String} {A : Nat → Prop} {s : State} {args : Array Value} (h : vx_L C n d A s s.heap) : (Cond.laysStatic C n d).before args s = true := by
  obtain ⟨c, k, i, f, a, cell, h1, h2, h3, h4, h5, h6, h7, h8, h9, -⟩ := h
  show (Cond.laysStatic C n d).holds args s none s [] = true
  exact Cond.laysStatic_of h1 h2 h3 h4 h5 h6 h7 h8 h9
/-- .. and what it holds: null or some reference -/
def vx_Zq (C n d : String) (A : Nat → Prop) (U : State) (H : Heap) : Prop := va_Zq C n d A U H ∧ vx_L C n d A U H
theorem vx_Zq.moved {C n d : String} {A : Nat → Prop} {u U : State} {H : Heap} (hvm : u.vm.Alike U.vm) (h : vx_Zq C n d A u H) : vx_Zq C n d A U H := ⟨va_Zq.moved hvm h.1, vx_L.moved hvm h.2⟩
theorem vx_Zq.kept {C n d : String} {A : Nat → Prop} {U : State} {H H1 : Heap} (h : vx_Zq C n d A U H) (hq : ∀ a : Nat, a < H.size → ¬ A a → H1[a]? = H[a]?) : vx_Zq C n d A U H1 := ⟨va_Zq.kept h.1 hq, vx_L.kept h.2 hq⟩
theorem vx_Zq.narrow {C n d : String} {A B : Nat → Prop} {U : State} {H : Heap} (h : vx_Zq C n d A U H) (hAB : ∀ q, B q → A q) : vx_Zq C n d B U H := ⟨va_Zq.narrow h.1 hAB, vx_L.narrow h.2 hAB⟩
theorem vx_Zqof {args : Array Value} {s : State} {C n d : String} {A : Nat → Prop} (hl : (Cond.laysStatic C n d).before args s = true) (hini : (Cond.initialized C).before args s = true) (h : (Cond.isRef (.static C n d)).before args s = true) (hA : ∀ a : Nat, a < s.heap.size → ¬ A a) : vx_Zq C n d A s s.heap := by
  refine ⟨va_Zqof hl hini h hA, ?_⟩
  obtain ⟨c, k, i, f, a, cell, h1, h2, h3, h4, h5, h6, h7, h8, h9⟩ := Cond.laysStatic_spec hl
  exact ⟨c, k, i, f, a, cell, h1, h2, h3, h4, h5, h6, h7, h8, h9, hA a (Array.getElem?_eq_some_iff.mp h5).1⟩
theorem vx_isRef {C n d : String} {v : Value} {A : Nat → Prop} {s : State} {args : Array Value} (h : va_Z C n d v A s s.heap) (hv : v.isRef = true) : (Cond.isRef (.static C n d)).before args s = true := by
  obtain ⟨cf, kf, fi, f, a, cell, h1, h2, h3, h4, h5, h6, h7, -⟩ := h
  have he : (Term.static C n d).eval args s none [] s = some v := by
    simp [Term.eval, State.fieldNamed?, h1, h2, h4, h5, h6, h7]
  simp only [Cond.before, Cond.holds, Cond.value, he]
  cases v <;> simp_all [Value.isRef]
theorem vx_isRefq {C n d : String} {A : Nat → Prop} {s : State} {args : Array Value} (h : va_Zq C n d A s s.heap) : (Cond.isRef (.static C n d)).before args s = true := by
  rcases h with h | ⟨t, h⟩
  · exact vx_isRef h rfl
  · exact vx_isRef h rfl
/-- the same frame, seen from here: as if the method were called anew in this heap -/
theorem vx_rebase {T : State} (X : Stand p l e R s m args below meth c T locs cells slots) {R' : Room} (hf : R'.frames ≤ R.frames) (hl : R'.locals ≤ R.locals) (hc : cells + R'.cells ≤ R.cells) (hs : slots + R'.slots ≤ R.slots) :
    Stand p l e R' ((T.setVm s.vm).setFrames (.invoking m args :: below)) m args below meth c T [] 0 0 := by
  have htop : (T.setVm s.vm).topJava?.isSome := X.here.top
  have hF : ((T.setVm s.vm).setFrames (.invoking m args :: below)).frames = .invoking m args :: below := State.frames_setFrames _ (State.cur_lt_of_top htop)
  obtain ⟨g₀, hg0⟩ := Option.isSome_iff_exists.mp htop
  obtain ⟨r, hr⟩ := State.topJava?_eq_some.mp hg0
  have hl9 : e.platform.stackLimits (T.setVm s.vm).me = e.platform.stackLimits s.me := X.limits
  have hb9 : (T.setVm s.vm).me.stackBytes = s.me.stackBytes := X.bytes
  refine ⟨X.admits, X.cas, X.clock, hF, ?_, X.hears, X.method, X.code, X.here, X.tail, X.warmed, ?_, ?_, ?_⟩
  · have h := X.room
    have hU : ((T.setVm s.vm).setFrames (.invoking m args :: below)).localsInUse = s.localsInUse := by
      rw [State.localsInUse_invoking hF (meth := meth) (c := c) X.method X.code, State.localsInUse_invoking X.frames X.method X.code]
    simp only [State.hasRoom, Bool.and_eq_true, decide_eq_true_eq] at h ⊢
    obtain ⟨⟨⟨⟨h1, h2, h3, h4, h5, h6⟩, h7⟩, h8⟩, h9⟩ := h
    rw [X.frames, List.length_cons] at h2 h3
    have q1 := X.heapSize
    have q2 := X.used
    simp only [hF, hU, List.length_cons, State.stackLimits_setFrames, State.stackBytes_setFrames, hl9, hb9]
    refine ⟨⟨⟨⟨by omega, by omega, by omega, by omega, by omega, h6⟩, ?_⟩, ?_⟩, X.book⟩
    · show T.heap.size + R'.cells ≤ e.platform.maxCells
      omega
    · show T.slotsUsed + R'.slots ≤ e.platform.maxSlots
      omega
  · rw [State.stackLimits_setFrames]; rfl
  · rw [State.stackBytes_setFrames]; rfl
  · refine ⟨?_, Nat.le_refl _, Nat.le_refl _, ?_, ?_, fun a c9 h9 => ⟨c9, h9, rfl, rfl, fun _ _ => rfl⟩⟩
    · obtain ⟨t, ht, -⟩ := State.frames_cons hr
      show T.setVm s.vm = { ((T.setVm s.vm).setFrames (.invoking m args :: below)).setFrames (T.setVm s.vm).frames with heap := T.heap, slotsUsed := T.slotsUsed }
      rw [State.setFrames_setFrames, State.setFrames_self ht]
      rfl
    · show T.slotsUsed = T.slotsUsed + ((T.heap.toList.drop T.heap.size).map (·.slots.size)).sum
      rw [List.drop_eq_nil_of_le (Nat.le_of_eq Array.length_toList)]
      rfl
    · show ((T.heap.toList.drop T.heap.size).map (·.slots.size)).sum ≤ 0
      rw [List.drop_eq_nil_of_le (Nat.le_of_eq Array.length_toList)]
      exact Nat.le_refl _
/-- 'throw new E()': new; dup; invokespecial; athrow -/
theorem vx_throw0 {cc : ByteArray} {pc : Nat} (hexec : p.tables.exec = Jvm.exec) (hb : c.code = cc) (hl : l.stackTraces = false) {own cls : String} {names : List String} {ik ic mc ms : Nat} {A : Nat → Prop}
    (hown : s.vm.findClass own = some m.cls) (hcls : Bundle.fit cls = true) (hnames : ∀ n ∈ names, Bundle.fit n = true)
    (hk : (Cond.classLink own ik cls).before args s = true) (hini : (Cond.initialized cls).before args s = true) (hat : ∀ w ∈ vx_at0 own ic cls names, w.before args s = true)
    (hgood : ∀ w ∈ Cond.classLink own ik cls :: Cond.initialized cls :: vx_at0 own ic cls names, vx_ot w = true)
    (hU : vx_Zq Bundle.tN "UNASSIGNED_STACK" Bundle.steD A s s.heap) (hN : vx_Zq Bundle.tN "SUPPRESSED_SENTINEL" Bundle.listD A s s.heap) (hS : va_S A s.heap H locs) (hsize : ls.size = c.maxLocals)
    (d0 : decode cc pc = .ok (.new ik, 3)) (d3 : decode cc (pc + 3) = .ok (.dup, 1)) (d4 : decode cc (pc + 4) = .ok (.invokespecial ic, 3)) (d7 : decode cc (pc + 7) = .ok (.athrow, 1))
    (hout : ∀ x ∈ c.exceptionTable.toList, covers x (pc + 7) = false)
    (hRframes : names.length + 3 < R.frames) (hRlocals : (rest.map fun v => v.category).sum + (13 * (names.length + 1) + 42) ≤ R.locals) (hRcells : cells + 1 ≤ R.cells) (hRslots : slots + 6 ≤ R.slots) (hlocks : meth.locks = false)
    (hx : ∀ t : State, s.vm.Alike t.vm → H.size ≤ t.heap.size → (∀ q : Nat, q < H.size → t.heap[q]? = H[q]?) → XC cls s t)
    (hf : ∀ z ∈ locs, free z.base) (hc : cells + 1 ≤ mc) (hs : slots + 6 ≤ ms) :
    W p l e R s m args below meth c H locs cells slots (vx_MQ below Qc XC args s mc ms free) (F0 m pc ls rest) := by
  intro T hT X
  have htr : e.platform.stackTraces = false := (show e.platform.stackTraces = l.stackTraces by rw [X.admits.platform]).trans hl
  have Y := vx_rebase X (R' := { frames := R.frames, locals := R.locals, cells := 1, slots := 6 }) (Nat.le_refl _) (Nat.le_refl _) hRcells hRslots
  obtain ⟨s', hA⟩ : ∃ z, z = (T.setVm s.vm).setFrames (.invoking m args :: below) := ⟨_, rfl⟩
  rw [← hA] at Y
  have hvm : s'.vm = s.vm := by rw [hA]; rfl
  have hhp : s'.heap = H := by rw [hA]; exact hT
  have hW0 : s.WarmedH s'.vm := by rw [hvm]; exact State.WarmedH.refl s
  have hat' : ∀ w ∈ vx_at0 own ic cls names, w.before args s' = true := fun w hw => vx_ot_at hW0 hvm.symm (hgood w (List.mem_cons_of_mem _ (List.mem_cons_of_mem _ hw))) (hat w hw)
  have hk' : (Cond.classLink own ik cls).before args s' = true := vx_ot_at hW0 hvm.symm (hgood _ List.mem_cons_self) hk
  have hini' : (Cond.initialized cls).before args s' = true := vx_ot_at hW0 hvm.symm (hgood _ (List.mem_cons_of_mem _ List.mem_cons_self)) hini
  have hU' : vx_Zq Bundle.tN "UNASSIGNED_STACK" Bundle.steD A s' s'.heap := by rw [hhp]; exact vx_Zq.moved hW0.alike (hU.kept hS.2.1)
  have hN' : vx_Zq Bundle.tN "SUPPRESSED_SENTINEL" Bundle.listD A s' s'.heap := by rw [hhp]; exact vx_Zq.moved hW0.alike (hN.kept hS.2.1)
  have h : ∀ w ∈ Bundle.ownAtoms0 own ic cls names, w.before args s' = true := vx_own hat' (vx_isRefq hU'.1) (vx_isRefq hN'.1) hU'.2.word hN'.2.word
  have hown' : s'.vm.findClass own = some m.cls := by rw [hvm]; exact hown
  have hins : (Cond.instantiable cls 6).before args s' = true := h _ (by simp [Bundle.ownAtoms0])
  obtain ⟨vm₁, cX, kX, hfX, hkX, -, -, X₁, st1⟩ := Y.newCold hexec (own := own) (C := cls) (index := ik) (n := 6) hown' hk' hins hini'
    (g := F0 m pc ls rest) rfl (by rw [hb]; exact d0) (Nat.le_refl _) (Nat.le_refl _)
  generalize hT1 : (T.setVm vm₁).pushCell { cls := cX, slots := kX.instanceTypes.map defaultValue, vm := .none } = T1 at X₁ st1
  have hcat : (Value.ref T.heap.size).category = 1 := rfl
  have hcellA : T1.heap[T.heap.size]? = some (freshCell cX kX) := by rw [← hT1]; exact State.heap_pushCell_size _ _
  have d3' : decode c.code (pc + 3) = .ok (.dup, 1) := by rw [hb]; exact d3
  obtain ⟨U, hsteps, hrun, hend, hW, hsame, ce, hce, hO⟩ := X₁.ctorThrow0 hexec htr (own := own) (cls := cls) (names := names) (ic := ic) hown' hcls hnames h (fun x hx => nomatch hx) hfX hkX hcellA (by rw [hhp, hT]; exact Nat.le_refl _)
    (g := { method := m, pc := pc + 4, locals := ls, stack := .ref T.heap.size :: .ref T.heap.size :: rest, locked := none }) rfl hsize rfl rfl (rest := rest) rfl
    (by rw [hb]; exact d4) (by rw [hb]; exact d7) hout hRframes (by simp only [List.map_cons, List.sum_cons, hcat]; omega) hlocks
  obtain ⟨f1, f2⟩ := vx_frame hsame
  rw [hhp] at f1 f2
  have hWs : s.WarmedH U.vm := State.WarmedH.trans hW0 hW
  have hcl : s.vm.findClass cls = some ce.cls := by
    have h9 := hO.cls
    rw [hvm] at h9
    exact h9
  have hall : s.sameButNew ({ U with vm := s.vm } : State) locs mc ms := by
    subst hA
    obtain ⟨e1, e2⟩ := hsame
    rw [State.setFrames_setFrames] at e1
    have h2 : (T.setVm s.vm).sameButNew ({ U with vm := s.vm } : State) [] (0 + 1) (0 + 6) := ⟨e1, e2⟩
    have h3 := X.same.trans h2
    rw [List.append_nil] at h3
    exact h3.mono hc hs
  refine ⟨U, ?_, .threw T.heap.size, hrun, hend, Or.inr ⟨T.heap.size, rfl, cls, ce, locs, hx U hWs.alike f1 (fun q hq => f2 q hq (fun z hz => nomatch hz)), hce, hO.vm, hcl, hWs, hall, hf⟩⟩
  refine st1 _ ?_
  show Steps p.tables e below (T1.setTop { method := m, pc := pc + 3, locals := ls, stack := .ref T.heap.size :: rest, locked := none }) _
  jvm_step X₁.here [X₁.here.top, hexec, d3', Value.category]
  exact hsteps
/-- 'throw new E("text")': new; dup; ldc; invokespecial; athrow -/
theorem vx_throwS {cc : ByteArray} {pc : Nat} (hexec : p.tables.exec = Jvm.exec) (hb : c.code = cc) (hl : l.stackTraces = false) {own cls text : String} {names : List String} {ik is ic mc ms sa : Nat} {A : Nat → Prop}
    (hown : s.vm.findClass own = some m.cls) (hcls : Bundle.fit cls = true) (hnames : ∀ n ∈ names, Bundle.fit n = true)
    (hk : (Cond.classLink own ik cls).before args s = true) (hini : (Cond.initialized cls).before args s = true) (hstr : vk_R own is text sa s) (hat : ∀ w ∈ vx_atS own ic cls names, w.before args s = true)
    (hgood : ∀ w ∈ Cond.classLink own ik cls :: Cond.initialized cls :: vx_atS own ic cls names, vx_ot w = true)
    (hU : vx_Zq Bundle.tN "UNASSIGNED_STACK" Bundle.steD A s s.heap) (hN : vx_Zq Bundle.tN "SUPPRESSED_SENTINEL" Bundle.listD A s s.heap) (hS : va_S A s.heap H locs) (hsize : ls.size = c.maxLocals)
    (d0 : decode cc pc = .ok (.new ik, 3)) (d3 : decode cc (pc + 3) = .ok (.dup, 1)) (d4 : decode cc (pc + 4) = .ok (.ldc is, 2)) (d6 : decode cc (pc + 6) = .ok (.invokespecial ic, 3)) (d9 : decode cc (pc + 9) = .ok (.athrow, 1))
    (hout : ∀ x ∈ c.exceptionTable.toList, covers x (pc + 9) = false)
    (hRframes : names.length + 3 < R.frames) (hRlocals : (rest.map fun v => v.category).sum + (13 * (names.length + 1) + 43) ≤ R.locals) (hRcells : cells + 1 ≤ R.cells) (hRslots : slots + 6 ≤ R.slots) (hlocks : meth.locks = false)
    (hx : ∀ t : State, s.vm.Alike t.vm → H.size ≤ t.heap.size → (∀ q : Nat, q < H.size → t.heap[q]? = H[q]?) → XC cls s t)
    (hf : ∀ z ∈ locs, free z.base) (hc : cells + 1 ≤ mc) (hs : slots + 6 ≤ ms) :
    W p l e R s m args below meth c H locs cells slots (vx_MQ below Qc XC args s mc ms free) (F0 m pc ls rest) := by
  intro T hT X
  have htr : e.platform.stackTraces = false := (show e.platform.stackTraces = l.stackTraces by rw [X.admits.platform]).trans hl
  have Y := vx_rebase X (R' := { frames := R.frames, locals := R.locals, cells := 1, slots := 6 }) (Nat.le_refl _) (Nat.le_refl _) hRcells hRslots
  obtain ⟨s', hA⟩ : ∃ z, z = (T.setVm s.vm).setFrames (.invoking m args :: below) := ⟨_, rfl⟩
  rw [← hA] at Y
  have hvm : s'.vm = s.vm := by rw [hA]; rfl
  have hhp : s'.heap = H := by rw [hA]; exact hT
  have hW0 : s.WarmedH s'.vm := by rw [hvm]; exact State.WarmedH.refl s
  have hat' : ∀ w ∈ vx_atS own ic cls names, w.before args s' = true := fun w hw => vx_ot_at hW0 hvm.symm (hgood w (List.mem_cons_of_mem _ (List.mem_cons_of_mem _ hw))) (hat w hw)
  have hk' : (Cond.classLink own ik cls).before args s' = true := vx_ot_at hW0 hvm.symm (hgood _ List.mem_cons_self) hk
  have hini' : (Cond.initialized cls).before args s' = true := vx_ot_at hW0 hvm.symm (hgood _ (List.mem_cons_of_mem _ List.mem_cons_self)) hini
  have hU' : vx_Zq Bundle.tN "UNASSIGNED_STACK" Bundle.steD A s' s'.heap := by rw [hhp]; exact vx_Zq.moved hW0.alike (hU.kept hS.2.1)
  have hN' : vx_Zq Bundle.tN "SUPPRESSED_SENTINEL" Bundle.listD A s' s'.heap := by rw [hhp]; exact vx_Zq.moved hW0.alike (hN.kept hS.2.1)
  have h : ∀ w ∈ Bundle.ownAtoms own ic cls names, w.before args s' = true := vx_own hat' (vx_isRefq hU'.1) (vx_isRefq hN'.1) hU'.2.word hN'.2.word
  have hown' : s'.vm.findClass own = some m.cls := by rw [hvm]; exact hown
  have hins : (Cond.instantiable cls 6).before args s' = true := h _ (by simp [Bundle.ownAtoms])
  obtain ⟨vm₁, cX, kX, hfX, hkX, -, -, X₁, st1⟩ := Y.newCold hexec (own := own) (C := cls) (index := ik) (n := 6) hown' hk' hins hini'
    (g := F0 m pc ls rest) rfl (by rw [hb]; exact d0) (Nat.le_refl _) (Nat.le_refl _)
  generalize hT1 : (T.setVm vm₁).pushCell { cls := cX, slots := kX.instanceTypes.map defaultValue, vm := .none } = T1 at X₁ st1
  have hcat : (Value.ref T.heap.size).category = 1 := rfl
  have hcellA : T1.heap[T.heap.size]? = some (freshCell cX kX) := by rw [← hT1]; exact State.heap_pushCell_size _ _
  have d3' : decode c.code (pc + 3) = .ok (.dup, 1) := by rw [hb]; exact d3
  have d4' : decode c.code (pc + 4) = .ok (.ldc is, 2) := by rw [hb]; exact d4
  have hstr' : vk_R own is text sa s' := vk_R.warm hW0 hstr
  obtain ⟨U, hsteps, hrun, hend, hW, hsame, ce, hce, hO⟩ := X₁.ctorThrowS hexec htr (own := own) (cls := cls) (names := names) (ic := ic) hown' hcls hnames h (fun x hx => nomatch hx) hfX hkX hcellA (by rw [hhp, hT]; exact Nat.le_refl _) (msg := .ref sa) rfl
    (g := { method := m, pc := pc + 6, locals := ls, stack := .ref sa :: .ref T.heap.size :: .ref T.heap.size :: rest, locked := none }) rfl hsize rfl rfl (rest := rest) rfl
    (by rw [hb]; exact d6) (by rw [hb]; exact d9) hout hRframes (by simp only [List.map_cons, List.sum_cons, hcat]; omega) hlocks
  obtain ⟨f1, f2⟩ := vx_frame hsame
  rw [hhp] at f1 f2
  have hWs : s.WarmedH U.vm := State.WarmedH.trans hW0 hW
  have hcl : s.vm.findClass cls = some ce.cls := by
    have h9 := hO.cls
    rw [hvm] at h9
    exact h9
  have hall : s.sameButNew ({ U with vm := s.vm } : State) locs mc ms := by
    subst hA
    obtain ⟨e1, e2⟩ := hsame
    rw [State.setFrames_setFrames] at e1
    have h2 : (T.setVm s.vm).sameButNew ({ U with vm := s.vm } : State) [] (0 + 1) (0 + 6) := ⟨e1, e2⟩
    have h3 := X.same.trans h2
    rw [List.append_nil] at h3
    exact h3.mono hc hs
  refine ⟨U, ?_, .threw T.heap.size, hrun, hend, Or.inr ⟨T.heap.size, rfl, cls, ce, locs, hx U hWs.alike f1 (fun q hq => f2 q hq (fun z hz => nomatch hz)), hce, hO.vm, hcl, hWs, hall, hf⟩⟩
  refine st1 _ ?_
  show Steps p.tables e below (T1.setTop { method := m, pc := pc + 3, locals := ls, stack := .ref T.heap.size :: rest, locked := none }) _
  jvm_step X₁.here [X₁.here.top, hexec, d3', Value.category]
  exact X₁.ldcString hexec (own := own) (text := text) (index := is) (a := sa) hown' hstr'.1 hstr'.2
    (g := { method := m, pc := pc + 4, locals := ls, stack := .ref T.heap.size :: .ref T.heap.size :: rest, locked := none }) rfl d4' _ hsteps
/-- 'throw new E("text")', the text by a wide index -/
theorem vx_throwSW {cc : ByteArray} {pc : Nat} (hexec : p.tables.exec = Jvm.exec) (hb : c.code = cc) (hl : l.stackTraces = false) {own cls text : String} {names : List String} {ik is ic mc ms sa : Nat} {A : Nat → Prop}
    (hown : s.vm.findClass own = some m.cls) (hcls : Bundle.fit cls = true) (hnames : ∀ n ∈ names, Bundle.fit n = true)
    (hk : (Cond.classLink own ik cls).before args s = true) (hini : (Cond.initialized cls).before args s = true) (hstr : vk_R own is text sa s) (hat : ∀ w ∈ vx_atS own ic cls names, w.before args s = true)
    (hgood : ∀ w ∈ Cond.classLink own ik cls :: Cond.initialized cls :: vx_atS own ic cls names, vx_ot w = true)
    (hU : vx_Zq Bundle.tN "UNASSIGNED_STACK" Bundle.steD A s s.heap) (hN : vx_Zq Bundle.tN "SUPPRESSED_SENTINEL" Bundle.listD A s s.heap) (hS : va_S A s.heap H locs) (hsize : ls.size = c.maxLocals)
    (d0 : decode cc pc = .ok (.new ik, 3)) (d3 : decode cc (pc + 3) = .ok (.dup, 1)) (d4 : decode cc (pc + 4) = .ok (.ldc_w is, 3)) (d7 : decode cc (pc + 7) = .ok (.invokespecial ic, 3)) (d10 : decode cc (pc + 10) = .ok (.athrow, 1))
    (hout : ∀ x ∈ c.exceptionTable.toList, covers x (pc + 10) = false)
    (hRframes : names.length + 3 < R.frames) (hRlocals : (rest.map fun v => v.category).sum + (13 * (names.length + 1) + 43) ≤ R.locals) (hRcells : cells + 1 ≤ R.cells) (hRslots : slots + 6 ≤ R.slots) (hlocks : meth.locks = false)
    (hx : ∀ t : State, s.vm.Alike t.vm → H.size ≤ t.heap.size → (∀ q : Nat, q < H.size → t.heap[q]? = H[q]?) → XC cls s t)
    (hf : ∀ z ∈ locs, free z.base) (hc : cells + 1 ≤ mc) (hs : slots + 6 ≤ ms) :
    W p l e R s m args below meth c H locs cells slots (vx_MQ below Qc XC args s mc ms free) (F0 m pc ls rest) := by
  intro T hT X
  have htr : e.platform.stackTraces = false := (show e.platform.stackTraces = l.stackTraces by rw [X.admits.platform]).trans hl
  have Y := vx_rebase X (R' := { frames := R.frames, locals := R.locals, cells := 1, slots := 6 }) (Nat.le_refl _) (Nat.le_refl _) hRcells hRslots
  obtain ⟨s', hA⟩ : ∃ z, z = (T.setVm s.vm).setFrames (.invoking m args :: below) := ⟨_, rfl⟩
  rw [← hA] at Y
  have hvm : s'.vm = s.vm := by rw [hA]; rfl
  have hhp : s'.heap = H := by rw [hA]; exact hT
  have hW0 : s.WarmedH s'.vm := by rw [hvm]; exact State.WarmedH.refl s
  have hat' : ∀ w ∈ vx_atS own ic cls names, w.before args s' = true := fun w hw => vx_ot_at hW0 hvm.symm (hgood w (List.mem_cons_of_mem _ (List.mem_cons_of_mem _ hw))) (hat w hw)
  have hk' : (Cond.classLink own ik cls).before args s' = true := vx_ot_at hW0 hvm.symm (hgood _ List.mem_cons_self) hk
  have hini' : (Cond.initialized cls).before args s' = true := vx_ot_at hW0 hvm.symm (hgood _ (List.mem_cons_of_mem _ List.mem_cons_self)) hini
  have hU' : vx_Zq Bundle.tN "UNASSIGNED_STACK" Bundle.steD A s' s'.heap := by rw [hhp]; exact vx_Zq.moved hW0.alike (hU.kept hS.2.1)
  have hN' : vx_Zq Bundle.tN "SUPPRESSED_SENTINEL" Bundle.listD A s' s'.heap := by rw [hhp]; exact vx_Zq.moved hW0.alike (hN.kept hS.2.1)
  have h : ∀ w ∈ Bundle.ownAtoms own ic cls names, w.before args s' = true := vx_own hat' (vx_isRefq hU'.1) (vx_isRefq hN'.1) hU'.2.word hN'.2.word
  have hown' : s'.vm.findClass own = some m.cls := by rw [hvm]; exact hown
  have hins : (Cond.instantiable cls 6).before args s' = true := h _ (by simp [Bundle.ownAtoms])
  obtain ⟨vm₁, cX, kX, hfX, hkX, -, -, X₁, st1⟩ := Y.newCold hexec (own := own) (C := cls) (index := ik) (n := 6) hown' hk' hins hini'
    (g := F0 m pc ls rest) rfl (by rw [hb]; exact d0) (Nat.le_refl _) (Nat.le_refl _)
  generalize hT1 : (T.setVm vm₁).pushCell { cls := cX, slots := kX.instanceTypes.map defaultValue, vm := .none } = T1 at X₁ st1
  have hcat : (Value.ref T.heap.size).category = 1 := rfl
  have hcellA : T1.heap[T.heap.size]? = some (freshCell cX kX) := by rw [← hT1]; exact State.heap_pushCell_size _ _
  have d3' : decode c.code (pc + 3) = .ok (.dup, 1) := by rw [hb]; exact d3
  have d4' : decode c.code (pc + 4) = .ok (.ldc_w is, 3) := by rw [hb]; exact d4
  have hstr' : vk_R own is text sa s' := vk_R.warm hW0 hstr
  obtain ⟨U, hsteps, hrun, hend, hW, hsame, ce, hce, hO⟩ := X₁.ctorThrowS hexec htr (own := own) (cls := cls) (names := names) (ic := ic) hown' hcls hnames h (fun x hx => nomatch hx) hfX hkX hcellA (by rw [hhp, hT]; exact Nat.le_refl _) (msg := .ref sa) rfl
    (g := { method := m, pc := pc + 7, locals := ls, stack := .ref sa :: .ref T.heap.size :: .ref T.heap.size :: rest, locked := none }) rfl hsize rfl rfl (rest := rest) rfl
    (by rw [hb]; exact d7) (by rw [hb]; exact d10) hout hRframes (by simp only [List.map_cons, List.sum_cons, hcat]; omega) hlocks
  obtain ⟨f1, f2⟩ := vx_frame hsame
  rw [hhp] at f1 f2
  have hWs : s.WarmedH U.vm := State.WarmedH.trans hW0 hW
  have hcl : s.vm.findClass cls = some ce.cls := by
    have h9 := hO.cls
    rw [hvm] at h9
    exact h9
  have hall : s.sameButNew ({ U with vm := s.vm } : State) locs mc ms := by
    subst hA
    obtain ⟨e1, e2⟩ := hsame
    rw [State.setFrames_setFrames] at e1
    have h2 : (T.setVm s.vm).sameButNew ({ U with vm := s.vm } : State) [] (0 + 1) (0 + 6) := ⟨e1, e2⟩
    have h3 := X.same.trans h2
    rw [List.append_nil] at h3
    exact h3.mono hc hs
  refine ⟨U, ?_, .threw T.heap.size, hrun, hend, Or.inr ⟨T.heap.size, rfl, cls, ce, locs, hx U hWs.alike f1 (fun q hq => f2 q hq (fun z hz => nomatch hz)), hce, hO.vm, hcl, hWs, hall, hf⟩⟩
  refine st1 _ ?_
  show Steps p.tables e below (T1.setTop { method := m, pc := pc + 3, locals := ls, stack := .ref T.heap.size :: rest, locked := none }) _
  jvm_step X₁.here [X₁.here.top, hexec, d3', Value.category]
  exact X₁.ldcStringW hexec (own := own) (text := text) (index := is) (a := sa) hown' hstr'.1 hstr'.2
    (g := { method := m, pc := pc + 4, locals := ls, stack := .ref T.heap.size :: .ref T.heap.size :: rest, locked := none }) rfl d4' _ hsteps
end Ends
section Bodies
variable {l : Launch}
theorem vx_ofW {y : MethodName} {ws ws' : List Cond} {rm : Room} {Pc : Array Value → State → Prop} {Qc : Array Value → State → Outcome → State → Prop} {XC : String → State → State → Prop} {mc ms : Nat} {free : Addr → Prop} {cc : ByteArray} {maxL : Nat} {ret : Option FieldType}
    (hy : plainName y.cls = true) (hw : ws = Cond.code y cc maxL ret :: ws')
    (body : ∀ p e s m args below meth c s₁, BodyLoose p l y (headSpec ws rm) cc maxL ret e s m args below meth c s₁ → c.maxLocals = maxL → (∀ x ∈ c.exceptionTable.toList, False) → Pc args s →
      W p l e (headSpec ws rm).room s m args below meth c s.heap [] 0 0 (vx_MQ below Qc XC args s mc ms free) (entryFrame m args maxL)) : vx_Met l y ws rm Pc Qc XC mc ms free := by
  refine MetFree.of_bodyS (code := cc) (maxLocals := maxL) (ret := ret) hy ?_ ?_
  · intro args s m h hn
    obtain ⟨meth, c, h1, h2, h3, h4, h5, h6, -, -⟩ := Cond.code_spec hn (atoms_spec (ws := ws) h _ (by rw [hw]; exact List.mem_cons_self))
    exact ⟨meth, c, h1, h2, h3, h4, h5, h6⟩
  · intro p e s m args below meth c s₁ B hml hP _
    have hh0 : s₁.heap = s.heap := by rw [B.state]; rfl
    have ht : ∀ x ∈ c.exceptionTable.toList, False := by
      obtain ⟨meth9, c9, h1, h2, -, -, -, -, h7, -⟩ := Cond.code_spec B.named (atoms_spec (ws := ws) B.pre _ (by rw [hw]; exact List.mem_cons_self))
      cases Option.some.inj (h1.symm.trans B.method)
      cases Option.some.inj (h2.symm.trans (Stand.of_body B).code)
      intro x hx
      rw [Array.isEmpty_iff.mp h7] at hx
      cases hx
    obtain ⟨t, a1, o, b1, b2, b3⟩ := body p e s m args below meth c s₁ B hml ht hP s₁ hh0 (Stand.of_body B)
    exact ⟨t, o, a1, b1, b2, b3⟩
/-- the table of a body with handlers -/
theorem vx_table {p : Program} {x y : MethodName} {S : Spec} {cc bytes : ByteArray} {maxL maxL' : Nat} {ret ret' : Option FieldType} {e : Env} {s s₁ : State} {m : MethodId} {args : Array Value} {below : List Frame} {meth : Method} {c : Code} {hh : List (Nat × Nat × Nat × Nat)}
    (B : BodyLoose p l y S cc maxL ret e s m args below meth c s₁) (h : (Cond.codeWith y bytes maxL' ret' hh).before args s = true) : c.exceptionTable.toList = tableOf hh := by
  obtain ⟨m9, meth9, c9, hn9, h1, h2, -, -, h6, -⟩ := Cond.codeWith_spec h
  cases Option.some.inj (hn9.symm.trans B.named)
  cases Option.some.inj (h1.symm.trans B.method)
  cases Option.some.inj (h2.symm.trans (Stand.of_body B).code)
  rw [← h6, table_eq]
end Bodies
end VXA
/-! ===== END ===== -/
/-! ===== BEGIN a static call of a method with an exception table ===== -/
section VXS
variable {p : Program} {l : Launch} {e : Env} {R : Room} {s : State} {m : MethodId} {args : Array Value} {below : List Frame} {meth : Method} {c : Code} {T : State} {H : Heap} {locs : List Loc} {cells slots : Nat}
abbrev vx_CSW (R : Room) (s : State) (args : Array Value) (own : String) (index : Nat) (y : MethodName) (bytes : ByteArray) (maxL : Nat) (ret : Option FieldType) (hh : List (Nat × Nat × Nat × Nat)) (ws : List Cond) (rm : Room) (mc ms n : Nat) : Prop :=
  (rm.cells = mc ∧ rm.slots = ms ∧ rm.frames + 1 ≤ R.frames ∧ 8 + (maxL + 11) + rm.locals ≤ R.locals ∧ (∀ w ∈ ws, ∀ (a' : Array Value) (U : State), s.WarmedH U.vm → w.before a' U = true) ∧ Cond.codeWith y bytes maxL ret hh ∈ ws) ∧
  (Cond.codeWith y bytes maxL ret hh).before args s = true ∧ (Cond.initialized y.cls).before args s = true ∧ (y.cls ≠ "java/lang/invoke/MethodHandle" ∧ y.cls ≠ "java/lang/invoke/VarHandle") ∧
  (∀ sig, parseMethodDescriptor y.desc = some sig → n = sig.parameters.length) ∧ (Cond.methodLink own index y).before args s = true ∧ (Cond.static y).before args s = true
theorem vx_cwSW {own : String} {index maxL mc ms : Nat} {y : MethodName} {bytes : ByteArray} {ret : Option FieldType} {hh : List (Nat × Nat × Nat × Nat)} {Ts ws ws' : List Cond} {rm : Room} (n : Nat) (ht : ∀ w ∈ Ts, w.before args s = true) (hT : GoodIn Ts (va_wsS own index y ws)) (hw : ws = Cond.codeWith y bytes maxL ret hh :: ws') (hrc : rm.cells = mc) (hrs : rm.slots = ms)
    (hd : y.cls ≠ "java/lang/invoke/MethodHandle" ∧ y.cls ≠ "java/lang/invoke/VarHandle" ∧ (parseMethodDescriptor y.desc).map (fun d => d.parameters.length) = some n) (hR : rm.frames + 1 ≤ R.frames ∧ 8 + (maxL + 11) + rm.locals ≤ R.locals) :
    vx_CSW R s args own index y bytes maxL ret hh ws rm mc ms n := by
  have ok : ∀ w ∈ va_wsS own index y ws, w.before args s = true := fun w h => ht w (hT w h).1
  have hG : GoodIn Ts ws := fun w h => hT w (by unfold va_wsS; exact List.mem_append_right _ h)
  have hc : Cond.codeWith y bytes maxL ret hh ∈ ws := by rw [hw]; exact List.mem_cons_self
  refine ⟨⟨hrc, hrs, hR.1, hR.2, pay_in ht hG, hc⟩, ht _ (hG _ hc).1, ok _ (by simp [va_wsS]), ⟨hd.1, hd.2.1⟩, fun sig h => ?_, ok _ (by simp [va_wsS]), ok _ (by simp [va_wsS])⟩
  have h2 := hd.2.2
  rw [h] at h2
  exact (Option.some.inj h2).symm
theorem vx_callSW (X : Stand p l e R s m args below meth c T locs cells slots) (hexec : p.tables.exec = Jvm.exec) {own : String} {index : Nat} {y : MethodName} {bytes : ByteArray} {maxL : Nat} {ret : Option FieldType} {hh : List (Nat × Nat × Nat × Nat)}
    (hown : s.vm.findClass own = some m.cls) (hlink : (Cond.methodLink own index y).before args s = true) (hstat : (Cond.static y).before args s = true) (hinit : (Cond.initialized y.cls).before args s = true)
    (hcode : (Cond.codeWith y bytes maxL ret hh).before args s = true) (hy : y.cls ≠ "java/lang/invoke/MethodHandle" ∧ y.cls ≠ "java/lang/invoke/VarHandle")
    {W9 : Nat} {Pre : Pt → Array Value → Prop} {Post : Pt → Array Value → Option Value → Pt → Prop} (hK : Back l R p e below s args y 3 W9 Pre Post)
    {g : JFrame} (hg : g.method = m) (hsize : g.locals.size = c.maxLocals) {argsL rest : List Value} (hlen : ∀ sig, parseMethodDescriptor y.desc = some sig → argsL.length = sig.parameters.length)
    (hstack : g.stack = argsL.reverse ++ rest) (hW : 2 * g.monitorRoom + (rest.map fun v => v.category).sum ≤ W9) (hdg : decode c.code g.pc = .ok (.invokestatic index, 3))
    (hpre : ∀ vm₁, s.WarmedH vm₁ → Pre ⟨T.setVm vm₁, locs, cells, slots⟩ argsL.toArray) :
    ∃ (v : Option Value) (vm₁ : Vm) (B : Pt), s.WarmedH vm₁ ∧ Stand p l e R s m args below meth c B.U B.locs B.cells B.slots ∧ Post ⟨T.setVm vm₁, locs, cells, slots⟩ argsL.toArray v B ∧
      ∀ target, Steps p.tables e below (B.U.setTop { g with pc := g.pc + 3, stack := v.toList ++ rest }) target → Steps p.tables e below (T.setTop g) target := by
  obtain ⟨mk, methM, cM, hnamed, hmethM, -, -, -, -, -, -, hsigM⟩ := Cond.codeWith_spec hcode
  have hstatic : methM.isStatic = true := Cond.static_spec hnamed hmethM hstat
  obtain ⟨kP, hkP, -⟩ := className_of_methodNamed hnamed
  have hinitP : kP.init = .initialized := Cond.initialized_spec (findClass_of_methodNamed hnamed) hkP hinit
  obtain ⟨vm₁, X₁, hstep₁⟩ := X.invokestatic hexec hown hlink hnamed hmethM hstatic hkP hinitP hy (g := g) hg (argsL := argsL) (rest := rest) (hlen _ hsigM) hstack hdg
  obtain ⟨v, B, X', hpost, hsteps⟩ := hK m meth c ⟨T.setVm vm₁, locs, cells, slots⟩ { g with stack := rest } (.invokestatic index) mk argsL.toArray X₁ hg hsize hdg hW (X₁.named hnamed) (hpre vm₁ X₁.warmed)
  exact ⟨v, vm₁, B, X₁.warmed, X', hpost, fun target h => hstep₁ _ fun acts => by rw [doInvoke_state]; exact hsteps.trans h⟩
theorem vx_runSW {y : MethodName} {bytes cc : ByteArray} {maxL nL mc ms n index : Nat} {ret : Option FieldType} {hh : List (Nat × Nat × Nat × Nat)} {ws : List Cond} {rm : Room} {Pc : Array Value → State → Prop} {Qc : Array Value → State → Outcome → State → Prop} {free : Addr → Prop} {Ts : List Cond} {own : String} {As rest : List Value} {g : JFrame}
    (S : CallFix p m c cc nL s args Ts own) (hM : Met l y ws rm Pc Qc mc ms free) (cw : vx_CSW R s args own index y bytes maxL ret hh ws rm mc ms n) (hp : PreS s H Pc As)
    (hg : g.method = m) (hn : As.length = n) (hsize : g.locals.size = nL) (hstack : g.stack = As.reverse ++ rest) (hW : 2 * g.monitorRoom + (rest.map fun v => v.category).sum ≤ 8) (hdg : decode cc g.pc = .ok (.invokestatic index, 3)) (hf : cells + mc ≤ R.cells ∧ slots + ms ≤ R.slots) :
    va_Run p l e R s m args below meth c H locs cells slots mc ms g rest (Qc As.toArray) (free) := by
  obtain ⟨⟨hrc, hrs, hfr, hlo, hws, hcw⟩, hcode, hini, hy, hlen, hl, hstt⟩ := cw
  have hK : Back l R p e below s args y 3 8 (PreOf R mc ms Pc) (PostOf Qc mc ms free) := va_backW (hh := hh) (bytes := bytes) (maxL := maxL) (ret := ret) hM hp.1 hrc hrs hfr hlo hws hcw (fun a' U hW => word_at hW (Or.inl (by first | rfl | simp [Cond.onTables, Cond.keeps, Cond.steady])) hini)
  obtain ⟨hx, hb, hml, ho, -⟩ := S
  intro T hT X
  obtain ⟨v, vm₁, ⟨U', l2, c2, s2⟩, hW₁, X', ⟨g', mk, t, L, e1, e2, hq, h1, hL, h2, h3⟩, st⟩ := vx_callSW X hx (hh := hh) (bytes := bytes) (maxL := maxL) (ret := ret) ho hl hstt hini hcode hy hK hg (hsize.trans hml.symm) (argsL := As) (rest := rest) (fun sig h => hn.trans (hlen sig h)) hstack hW (by rw [hb]; exact hdg)
    (fun vm₁ hW₁ => ⟨hf.1, hf.2, hp.2 (T.setVm vm₁) hT hW₁⟩)
  dsimp only [Pt.U, Pt.locs, Pt.cells, Pt.slots] at X' e1 e2 h1 h2 h3 st
  subst h1; subst h2; subst h3
  exact ⟨v, (T.setVm vm₁).calling g' mk As.toArray, t, U', L, hT, X', hL, e1, e2, hq, st⟩
/-- not caught here, past rows that name other classes: it goes on to the caller -/
theorem vx_outP {p : Program} {l : Launch} {e : Env} {R : Room} {s : State} {m : MethodId} {args : Array Value} {below : List Frame} {meth : Method} {c : Code} {H : Heap} {locs : List Loc} {cells slots : Nat} {free : Addr → Prop} {ls : Array Slot} {rest : List Value} {Qc : Array Value → State → Outcome → State → Prop} {XC : String → State → State → Prop}
    {pc : Nat} {own E : String} {ce : Cell} {q : Addr} {mc ms : Nat} (hown : s.vm.findClass own = some m.cls) (hlocks : meth.locks = false)
    (hpass : ∀ z ∈ c.exceptionTable.toList, covers z pc = false ∨ (z.catchType ≠ 0 ∧ ∃ nm : String, (Cond.classLink own z.catchType nm).before args s = true ∧ va_Nc E nm s)) (hcell : H[q]? = some ce) (hv : ce.vm = .none) (hcl : s.vm.findClass E = some ce.cls)
    (hx : ∀ t : State, t.heap = H → s.vm.Alike t.vm → XC E s t) (hf : ∀ z ∈ locs, free z.base) (hc : cells ≤ mc) (hs : slots ≤ ms) :
    vx_W p l e R s m args below meth c H locs cells slots (vx_MQ below Qc XC args s mc ms free) (F0 m pc ls rest) q := by
  intro T hT X
  have hpl : e.platform.magicAccessors = ({} : Platform).magicAccessors := by rw [X.admits.platform]
  obtain ⟨vm', hW', X', st⟩ := X.outThrough hlocks q (g := F0 m pc ls rest) rfl rfl rfl (cell := ce) (by rw [hT]; exact hcell) (by rw [hv]; rfl)
    (by obtain ⟨k9, h9, -⟩ := Vm.findClass_spec hcl; exact ⟨k9, h9⟩) (fun z hz => by
      rcases hpass z hz with h | ⟨hz0, nm, hl1, hn1⟩
      · exact Or.inl h
      · obtain ⟨c6, hc6, hcl6⟩ := Cond.classLink_spec hown hl1 e.platform hpl
        obtain ⟨a8, b8, h1, h2, h3⟩ := hn1
        cases Option.some.inj (h1.symm.trans hcl)
        cases Option.some.inj (h2.symm.trans hc6)
        exact Or.inr ⟨hz0, _, hcl6, h3⟩)
  obtain ⟨g₀, hfr⟩ := X'.frames_eq
  have hcell9 : ((T.setVm vm').setFrames (.throwing q :: below)).heap[q]? = some ce := by
    show T.heap[q]? = some ce
    rw [hT]; exact hcell
  have hend : Ended ((T.setVm vm').setFrames (.throwing q :: below)) below (.threw q) := State.frames_setFrames _ (State.cur_lt_of_frames hfr)
  refine ⟨(T.setVm vm').setFrames (.throwing q :: below), ?_, .threw q, X'.here.running, hend, Or.inr ⟨q, rfl, E, ce, locs, hx _ hT (X'.ends _).1.alike, hcell9, hv, hcl, (X'.ends _).1, (X'.ends _).2.mono hc hs, hf⟩⟩
  rw [X.pushThrowing_eq]
  exact st
/-- a thing of a world lies in the heap -/
theorem vx_lt {D : va_G} {cl : List vw_C} {ws : va_W} {H1 : Heap} (h : va_P D cl ws H1) {k : Nat} {q : Nat × va_E} (hk : ws[k]? = some q) : q.1 < H1.size := (h k q hk).lt
end VXS
/-! ===== END ===== -/
/-! ===== BEGIN methods with a table of their own: called by a name, returning or throwing ===== -/
section VXH
/-! vx_backW, vx_callVX, vx_callSX, vx_callVW, vx_runVW, vx_runVX, vx_runSX, vx_ofWH follow the same proofs as their sisters above (Free/Laws.lean, Shelf42/LK1.lean); vx_outP calls Shelf42/NT130.lean (outThrough). -/
section
variable {l : Launch} {R : Room} {p : Program} {e : Env} {below : List Frame} {s : State} {sargs : Array Value} {y : MethodName} {len W9 : Nat}
theorem vx_backW {ws : List Cond} {rm : Room} {Pc : Array Value → State → Prop} {Qc : Array Value → State → Outcome → State → Prop} {XC : String → State → State → Prop} {mc ms : Nat} {free : Addr → Prop} {bytes : ByteArray} {maxL : Nat} {ret : Option FieldType} {hh : List (Nat × Nat × Nat × Nat)}
    (hM : vx_Met l y ws rm Pc Qc XC mc ms free) (hblind : FrameBlind Pc) (hrc : rm.cells = mc) (hrs : rm.slots = ms)
    (hframes : rm.frames + 1 ≤ R.frames) (hlocals : W9 + (maxL + 11) + rm.locals ≤ R.locals)
    (hws : ∀ w ∈ ws, ∀ a' U, s.WarmedH U.vm → w.before a' U = true) (hcode : Cond.codeWith y bytes maxL ret hh ∈ ws) (hinit : ∀ a' U, s.WarmedH U.vm → (Cond.initialized y.cls).before a' U = true) :
    vx_Back l R p e below s sargs y len W9 (PreOf R mc ms Pc) (PostOf Qc mc ms free) (vx_Post XC mc ms free) := by
  intro m meth c A g ig mk a X hg hsize hdg hW hn hp
  have h1 : (headSpec ws rm).pre.before a A.U = true := atoms_intro fun w hw => hws w hw _ _ X.warmed
  have h2 : (Cond.codeWith y bytes maxL ret hh).before a A.U = true := hws _ hcode _ _ X.warmed
  have h3 : (Cond.initialized y.cls).before a A.U = true := hinit _ _ X.warmed
  have h4 : A.cells + (headSpec ws rm).room.cells ≤ R.cells := by rw [show (headSpec ws rm).room.cells = mc from hrc]; exact hp.1
  have h5 : A.slots + (headSpec ws rm).room.slots ≤ R.slots := by rw [show (headSpec ws rm).room.slots = ms from hrs]; exact hp.2.1
  have hPc : Pc a (A.U.calling g mk a) := hblind _ _ _ _ hp.2.2
  obtain ⟨U, Ls, c0, s0⟩ := A
  dsimp only [Pt.U, Pt.locs, Pt.cells, Pt.slots] at h1 h2 h3 h4 h5 X hn hPc ⊢
  obtain ⟨m9, methY, cY, hn9, hmY, hcY, -, hlY, -⟩ := Cond.codeWith_spec h2
  cases Option.some.inj (hn9.symm.trans hn)
  obtain ⟨kY, hkY, -⟩ := className_of_methodNamed hn
  have hinitY : kY.init = .initialized := Cond.initialized_spec (findClass_of_methodNamed hn) hkY h3
  have h : At U g.method c below := by rw [hg]; exact X.here
  have hlocals9 : W9 + (maxL + 11) + (headSpec ws rm).room.locals ≤ R.locals := hlocals
  have happ : (headSpec ws rm).appliesLoose y e.platform (U.calling g mk a) = true :=
    Spec.appliesLoose_calling (g := g) h hdg hn hkY hinitY
      (X.room_calling (g := g) (R' := (headSpec ws rm).room) hsize hmY hcY hframes (by rw [hlY]; omega) h4 h5) h1
  obtain ⟨mid, hmid⟩ := h.above
  have hfr : (U.setTop g).frames = (.java g :: mid) ++ below := by rw [State.frames_setTop' g h.top, hmid]; rfl
  obtain ⟨o, s₂, hsteps, -, hend, hq⟩ := Steps.callFree hM p X.admits X.cas X.clock (acts := []) hfr happ hPc trivial
  have hq' : vx_Q Qc XC mc ms free a (U.calling g mk a) o s₂ := hq
  rw [State.frames_setTop' g h.top] at hend
  obtain ⟨g₀, hg0⟩ := Option.isSome_iff_exists.mp h.top
  obtain ⟨r, hr⟩ := State.topJava?_eq_some.mp hg0
  have hr' : (({ U with heap := s₂.heap, slotsUsed := s₂.slotsUsed } : State).setVm s₂.vm).frames = .java g₀ :: r := hr
  rcases hq' with ⟨hqc, L, hfe, hL⟩ | ⟨q, rfl, E, ce, L, hx, hce, hcv, hcl, hW₂, hsm, hL⟩
  · obtain ⟨⟨v, rfl⟩, hW₂, e2, q2, q3, q4, q5, q6⟩ := id hfe
    have e3 : s₂ = ({ (U.calling g mk a).setFrames s₂.frames with heap := s₂.heap, slotsUsed := s₂.slotsUsed } : State).setVm s₂.vm := by
      have : s₂ = ({ s₂ with vm := (U.calling g mk a).vm } : State).setVm s₂.vm := rfl
      rw [e2] at this
      exact this
    obtain ⟨c₂, i₂, len₂, hc₂, hd₂, hf₂⟩ := hend
    have hW' : U.WarmedH s₂.vm := hW₂
    have hcc : c₂ = c := by
      have h1 : s₂.code? g.method = U.code? g.method := by
        rw [State.code?_eq, State.code?_eq, hW'.alike.method?]
      exact Option.some.inj (hc₂.symm.trans (h1.trans h.code))
    subst hcc
    have hlen : len₂ = len := by rw [hdg] at hd₂; cases hd₂; rfl
    subst hlen
    have hs₂ : s₂ = (({ U with heap := s₂.heap, slotsUsed := s₂.slotsUsed } : State).setVm s₂.vm).setTop { g with pc := g.pc + len₂, stack := v.toList ++ g.stack } := by
      refine e3.trans ?_
      rw [hf₂, State.calling_eq h.top, State.setFrames_setFrames, State.setTop_of_frames _ hr', hr]
      rfl
    have hsame : U.sameButNew ({ U with heap := s₂.heap, slotsUsed := s₂.slotsUsed } : State) L mc ms := by
      refine ⟨?_, q2, q3, q4, q5, q6⟩
      obtain ⟨t, ht, -⟩ := State.frames_cons hr
      show ({ U with heap := s₂.heap, slotsUsed := s₂.slotsUsed } : State) = { U.setFrames U.frames with heap := s₂.heap, slotsUsed := s₂.slotsUsed }
      rw [State.setFrames_self ht]
    subst hg
    refine Or.inl ⟨v, ⟨(({ U with heap := s₂.heap, slotsUsed := s₂.slotsUsed } : State).setVm s₂.vm), Ls ++ L, c0 + mc, s0 + ms⟩,
      ⟨X.admits, X.cas, X.clock, X.frames, X.room, X.hears, X.method, X.code, (X.here.setHeapUsed s₂.heap s₂.slotsUsed).setVm hW'.alike, X.tail, State.WarmedH.trans X.warmed hW', X.limits, X.bytes, X.same.trans (hsame.setVm s.vm)⟩,
      ⟨g, mk, s₂, L, rfl, rfl, hqc, rfl, hL, rfl, rfl⟩, ?_⟩
    show Steps p.tables e below _ ((({ U with heap := s₂.heap, slotsUsed := s₂.slotsUsed } : State).setVm s₂.vm).setTop { g with pc := g.pc + len₂, stack := v.toList ++ g.stack })
    rw [← hs₂]
    exact hsteps
  · obtain ⟨e2, q2, q3, q4, q5, q6⟩ := id hsm
    have e3 : s₂ = ({ (U.calling g mk a).setFrames s₂.frames with heap := s₂.heap, slotsUsed := s₂.slotsUsed } : State).setVm s₂.vm := by
      have : s₂ = ({ s₂ with vm := (U.calling g mk a).vm } : State).setVm s₂.vm := rfl
      rw [e2] at this
      exact this
    have hf₂ : s₂.frames = .throwing q :: .java g :: U.frames.tail := hend
    have hW' : U.WarmedH s₂.vm := hW₂
    have hs₂ : s₂ = ((({ U with heap := s₂.heap, slotsUsed := s₂.slotsUsed } : State).setVm s₂.vm).setTop g).pushFrame (.throwing q) := by
      refine e3.trans ?_
      rw [hf₂, State.calling_eq h.top, State.setFrames_setFrames, State.pushFrame, State.frames_setTop _ hr', State.setTop_of_frames _ hr', State.setFrames_setFrames, hr]
      rfl
    have hsame : U.sameButNew ({ U with heap := s₂.heap, slotsUsed := s₂.slotsUsed } : State) L mc ms := by
      refine ⟨?_, q2, q3, q4, q5, q6⟩
      obtain ⟨t, ht, -⟩ := State.frames_cons hr
      show ({ U with heap := s₂.heap, slotsUsed := s₂.slotsUsed } : State) = { U.setFrames U.frames with heap := s₂.heap, slotsUsed := s₂.slotsUsed }
      rw [State.setFrames_self ht]
    subst hg
    refine Or.inr ⟨q, ⟨(({ U with heap := s₂.heap, slotsUsed := s₂.slotsUsed } : State).setVm s₂.vm), Ls ++ L, c0 + mc, s0 + ms⟩,
      ⟨X.admits, X.cas, X.clock, X.frames, X.room, X.hears, X.method, X.code, (X.here.setHeapUsed s₂.heap s₂.slotsUsed).setVm hW'.alike, X.tail, State.WarmedH.trans X.warmed hW', X.limits, X.bytes, X.same.trans (hsame.setVm s.vm)⟩,
      ⟨g, mk, s₂, L, E, ce, rfl, rfl, hx, hce, hcv, hcl, rfl, hL, rfl, rfl⟩, ?_⟩
    show Steps p.tables e below _ (((({ U with heap := s₂.heap, slotsUsed := s₂.slotsUsed } : State).setVm s₂.vm).setTop g).pushFrame (.throwing q))
    rw [← hs₂]
    exact hsteps
end
variable {p : Program} {l : Launch} {e : Env} {R : Room} {s : State} {m : MethodId} {args : Array Value} {below : List Frame} {meth : Method} {c : Code} {T : State} {H : Heap} {locs : List Loc} {cells slots : Nat}
theorem vx_callVX (X : Stand p l e R s m args below meth c T locs cells slots) (hexec : p.tables.exec = Jvm.exec) {own C : String} {index : Nat} {y : MethodName} {bytes : ByteArray} {maxL : Nat} {ret : Option FieldType} {hh : List (Nat × Nat × Nat × Nat)}
    (hown : s.vm.findClass own = some m.cls) (hlink : (Cond.methodLink own index y).before args s = true) (hinst : (Cond.instanceMethod y).before args s = true) (hsel : (Cond.selects C y y).before args s = true)
    (hcode : (Cond.codeWith y bytes maxL ret hh).before args s = true) (hy : y.cls ≠ "java/lang/invoke/MethodHandle" ∧ y.cls ≠ "java/lang/invoke/VarHandle")
    {W9 : Nat} {Pre : Pt → Array Value → Prop} {Post : Pt → Array Value → Option Value → Pt → Prop} {PostX : Pt → Array Value → Addr → Pt → Prop} (hK : vx_Back l R p e below s args y 3 W9 Pre Post PostX)
    {b : Addr} {cellB : Cell} (hcell : T.heap[b]? = some cellB) (hobj : cellB.vm.isStatics = false) (hcls : s.vm.findClass C = some cellB.cls)
    {g : JFrame} (hg : g.method = m) (hsize : g.locals.size = c.maxLocals) {argsL rest : List Value} (hlen : ∀ sig, parseMethodDescriptor y.desc = some sig → argsL.length = sig.parameters.length)
    (hstack : g.stack = argsL.reverse ++ .ref b :: rest) (hW : 2 * g.monitorRoom + (rest.map fun v => v.category).sum ≤ W9) (hdg : decode c.code g.pc = .ok (.invokevirtual index, 3))
    (hpre : ∀ vm₁, s.WarmedH vm₁ → Pre ⟨T.setVm vm₁, locs, cells, slots⟩ (Value.ref b :: argsL).toArray) :
    (∃ (v : Option Value) (vm₁ : Vm) (B : Pt), s.WarmedH vm₁ ∧ Stand p l e R s m args below meth c B.U B.locs B.cells B.slots ∧ Post ⟨T.setVm vm₁, locs, cells, slots⟩ (Value.ref b :: argsL).toArray v B ∧
      ∀ target, Steps p.tables e below (B.U.setTop { g with pc := g.pc + 3, stack := v.toList ++ rest }) target → Steps p.tables e below (T.setTop g) target) ∨
    (∃ (q : Addr) (vm₁ : Vm) (B : Pt), s.WarmedH vm₁ ∧ Stand p l e R s m args below meth c B.U B.locs B.cells B.slots ∧ PostX ⟨T.setVm vm₁, locs, cells, slots⟩ (Value.ref b :: argsL).toArray q B ∧
      Steps p.tables e below (T.setTop g) ((B.U.setTop { g with stack := rest }).pushFrame (.throwing q))) := by
  obtain ⟨mk, methM, hnamed, hmethM, hstM, habM⟩ := Cond.instanceMethod_spec hinst
  obtain ⟨m8, methM', cM, hn8, hmethM', -, -, -, -, -, -, hsigM⟩ := Cond.codeWith_spec hcode
  cases Option.some.inj (hn8.symm.trans hnamed)
  cases hmethM.symm.trans hmethM'
  obtain ⟨c2, r2, m2, q1, q2, q3, q4, kP, hkP, hkPi⟩ := Cond.selects_spec hsel
  cases hcls.symm.trans q1
  cases (State.methodFound?_of_named hnamed hy).symm.trans q2
  cases hnamed.symm.trans q3
  have hselP : selectMethod e.platform s.vm cellB.cls mk = .method mk := by rw [Launch.admits_selectMethod X.admits]; exact q4
  obtain ⟨vm₁, X₁, hstep₁⟩ := X.invokevirtual hexec hown hlink hnamed hmethM hstM hkP hkPi hy (a := b) (cell := cellB) hcell
    (fun z h => by rw [h] at hobj; cases hobj) hselP hmethM habM hkP hkPi (g := g) hg (argsL := argsL) (rest := rest) (hlen _ hsigM) hstack hdg
  rcases hK m meth c ⟨T.setVm vm₁, locs, cells, slots⟩ { g with stack := rest } (.invokevirtual index) mk (Value.ref b :: argsL).toArray X₁ hg hsize hdg hW (X₁.named hnamed) (hpre vm₁ X₁.warmed) with ⟨v, B, X', hpost, hsteps⟩ | ⟨q, B, X', hpost, hsteps⟩
  · exact Or.inl ⟨v, vm₁, B, X₁.warmed, X', hpost, fun target h => hstep₁ _ fun acts => by rw [doInvoke_state]; exact hsteps.trans h⟩
  · exact Or.inr ⟨q, vm₁, B, X₁.warmed, X', hpost, hstep₁ _ fun acts => by rw [doInvoke_state]; exact hsteps⟩
theorem vx_callSX (X : Stand p l e R s m args below meth c T locs cells slots) (hexec : p.tables.exec = Jvm.exec) {own : String} {index : Nat} {y : MethodName} {bytes : ByteArray} {maxL : Nat} {ret : Option FieldType} {hh : List (Nat × Nat × Nat × Nat)}
    (hown : s.vm.findClass own = some m.cls) (hlink : (Cond.methodLink own index y).before args s = true) (hstat : (Cond.static y).before args s = true) (hinit : (Cond.initialized y.cls).before args s = true)
    (hcode : (Cond.codeWith y bytes maxL ret hh).before args s = true) (hy : y.cls ≠ "java/lang/invoke/MethodHandle" ∧ y.cls ≠ "java/lang/invoke/VarHandle")
    {W9 : Nat} {Pre : Pt → Array Value → Prop} {Post : Pt → Array Value → Option Value → Pt → Prop} {PostX : Pt → Array Value → Addr → Pt → Prop} (hK : vx_Back l R p e below s args y 3 W9 Pre Post PostX)
    {g : JFrame} (hg : g.method = m) (hsize : g.locals.size = c.maxLocals) {argsL rest : List Value} (hlen : ∀ sig, parseMethodDescriptor y.desc = some sig → argsL.length = sig.parameters.length)
    (hstack : g.stack = argsL.reverse ++ rest) (hW : 2 * g.monitorRoom + (rest.map fun v => v.category).sum ≤ W9) (hdg : decode c.code g.pc = .ok (.invokestatic index, 3))
    (hpre : ∀ vm₁, s.WarmedH vm₁ → Pre ⟨T.setVm vm₁, locs, cells, slots⟩ argsL.toArray) :
    (∃ (v : Option Value) (vm₁ : Vm) (B : Pt), s.WarmedH vm₁ ∧ Stand p l e R s m args below meth c B.U B.locs B.cells B.slots ∧ Post ⟨T.setVm vm₁, locs, cells, slots⟩ argsL.toArray v B ∧
      ∀ target, Steps p.tables e below (B.U.setTop { g with pc := g.pc + 3, stack := v.toList ++ rest }) target → Steps p.tables e below (T.setTop g) target) ∨
    (∃ (q : Addr) (vm₁ : Vm) (B : Pt), s.WarmedH vm₁ ∧ Stand p l e R s m args below meth c B.U B.locs B.cells B.slots ∧ PostX ⟨T.setVm vm₁, locs, cells, slots⟩ argsL.toArray q B ∧
      Steps p.tables e below (T.setTop g) ((B.U.setTop { g with stack := rest }).pushFrame (.throwing q))) := by
  obtain ⟨mk, methM, cM, hnamed, hmethM, -, -, -, -, -, -, hsigM⟩ := Cond.codeWith_spec hcode
  have hstatic : methM.isStatic = true := Cond.static_spec hnamed hmethM hstat
  obtain ⟨kP, hkP, -⟩ := className_of_methodNamed hnamed
  have hinitP : kP.init = .initialized := Cond.initialized_spec (findClass_of_methodNamed hnamed) hkP hinit
  obtain ⟨vm₁, X₁, hstep₁⟩ := X.invokestatic hexec hown hlink hnamed hmethM hstatic hkP hinitP hy (g := g) hg (argsL := argsL) (rest := rest) (hlen _ hsigM) hstack hdg
  rcases hK m meth c ⟨T.setVm vm₁, locs, cells, slots⟩ { g with stack := rest } (.invokestatic index) mk argsL.toArray X₁ hg hsize hdg hW (X₁.named hnamed) (hpre vm₁ X₁.warmed) with ⟨v, B, X', hpost, hsteps⟩ | ⟨q, B, X', hpost, hsteps⟩
  · exact Or.inl ⟨v, vm₁, B, X₁.warmed, X', hpost, fun target h => hstep₁ _ fun acts => by rw [doInvoke_state]; exact hsteps.trans h⟩
  · exact Or.inr ⟨q, vm₁, B, X₁.warmed, X', hpost, hstep₁ _ fun acts => by rw [doInvoke_state]; exact hsteps⟩
theorem vx_callVW (X : Stand p l e R s m args below meth c T locs cells slots) (hexec : p.tables.exec = Jvm.exec) {own C : String} {index : Nat} {y : MethodName} {bytes : ByteArray} {maxL : Nat} {ret : Option FieldType} {hh : List (Nat × Nat × Nat × Nat)}
    (hown : s.vm.findClass own = some m.cls) (hlink : (Cond.methodLink own index y).before args s = true) (hinst : (Cond.instanceMethod y).before args s = true) (hsel : (Cond.selects C y y).before args s = true)
    (hcode : (Cond.codeWith y bytes maxL ret hh).before args s = true) (hy : y.cls ≠ "java/lang/invoke/MethodHandle" ∧ y.cls ≠ "java/lang/invoke/VarHandle")
    {W9 : Nat} {Pre : Pt → Array Value → Prop} {Post : Pt → Array Value → Option Value → Pt → Prop} (hK : Back l R p e below s args y 3 W9 Pre Post)
    {b : Addr} {cellB : Cell} (hcell : T.heap[b]? = some cellB) (hobj : cellB.vm.isStatics = false) (hcls : s.vm.findClass C = some cellB.cls)
    {g : JFrame} (hg : g.method = m) (hsize : g.locals.size = c.maxLocals) {argsL rest : List Value} (hlen : ∀ sig, parseMethodDescriptor y.desc = some sig → argsL.length = sig.parameters.length)
    (hstack : g.stack = argsL.reverse ++ .ref b :: rest) (hW : 2 * g.monitorRoom + (rest.map fun v => v.category).sum ≤ W9) (hdg : decode c.code g.pc = .ok (.invokevirtual index, 3))
    (hpre : ∀ vm₁, s.WarmedH vm₁ → Pre ⟨T.setVm vm₁, locs, cells, slots⟩ (Value.ref b :: argsL).toArray) :
    ∃ (v : Option Value) (vm₁ : Vm) (B : Pt), s.WarmedH vm₁ ∧ Stand p l e R s m args below meth c B.U B.locs B.cells B.slots ∧ Post ⟨T.setVm vm₁, locs, cells, slots⟩ (Value.ref b :: argsL).toArray v B ∧
      ∀ target, Steps p.tables e below (B.U.setTop { g with pc := g.pc + 3, stack := v.toList ++ rest }) target → Steps p.tables e below (T.setTop g) target := by
  obtain ⟨mk, methM, hnamed, hmethM, hstM, habM⟩ := Cond.instanceMethod_spec hinst
  obtain ⟨m8, methM', cM, hn8, hmethM', -, -, -, -, -, -, hsigM⟩ := Cond.codeWith_spec hcode
  cases Option.some.inj (hn8.symm.trans hnamed)
  cases hmethM.symm.trans hmethM'
  obtain ⟨c2, r2, m2, q1, q2, q3, q4, kP, hkP, hkPi⟩ := Cond.selects_spec hsel
  cases hcls.symm.trans q1
  cases (State.methodFound?_of_named hnamed hy).symm.trans q2
  cases hnamed.symm.trans q3
  have hselP : selectMethod e.platform s.vm cellB.cls mk = .method mk := by rw [Launch.admits_selectMethod X.admits]; exact q4
  obtain ⟨vm₁, X₁, hstep₁⟩ := X.invokevirtual hexec hown hlink hnamed hmethM hstM hkP hkPi hy (a := b) (cell := cellB) hcell
    (fun z h => by rw [h] at hobj; cases hobj) hselP hmethM habM hkP hkPi (g := g) hg (argsL := argsL) (rest := rest) (hlen _ hsigM) hstack hdg
  obtain ⟨v, B, X', hpost, hsteps⟩ := hK m meth c ⟨T.setVm vm₁, locs, cells, slots⟩ { g with stack := rest } (.invokevirtual index) mk (Value.ref b :: argsL).toArray X₁ hg hsize hdg hW (X₁.named hnamed) (hpre vm₁ X₁.warmed)
  exact ⟨v, vm₁, B, X₁.warmed, X', hpost, fun target h => hstep₁ _ fun acts => by rw [doInvoke_state]; exact hsteps.trans h⟩
abbrev vx_CVW (R : Room) (s : State) (args : Array Value) (own C : String) (index : Nat) (y : MethodName) (bytes : ByteArray) (maxL : Nat) (ret : Option FieldType) (hh : List (Nat × Nat × Nat × Nat)) (ws : List Cond) (rm : Room) (mc ms n : Nat) : Prop :=
  (rm.cells = mc ∧ rm.slots = ms ∧ rm.frames + 1 ≤ R.frames ∧ 8 + (maxL + 11) + rm.locals ≤ R.locals ∧ (∀ w ∈ ws, ∀ (a' : Array Value) (U : State), s.WarmedH U.vm → w.before a' U = true) ∧ Cond.codeWith y bytes maxL ret hh ∈ ws) ∧
  (Cond.codeWith y bytes maxL ret hh).before args s = true ∧ (Cond.initialized y.cls).before args s = true ∧ (y.cls ≠ "java/lang/invoke/MethodHandle" ∧ y.cls ≠ "java/lang/invoke/VarHandle") ∧
  (∀ sig, parseMethodDescriptor y.desc = some sig → n = sig.parameters.length) ∧ (Cond.methodLink own index y).before args s = true ∧ (Cond.instanceMethod y).before args s = true ∧ (Cond.selects C y y).before args s = true
theorem vx_cwVW {own C : String} {index maxL mc ms : Nat} {y : MethodName} {bytes : ByteArray} {ret : Option FieldType} {hh : List (Nat × Nat × Nat × Nat)} {Ts ws ws' : List Cond} {rm : Room} (n : Nat) (ht : ∀ w ∈ Ts, w.before args s = true) (hT : GoodIn Ts (wsV own index C y ws)) (hw : ws = Cond.codeWith y bytes maxL ret hh :: ws') (hrc : rm.cells = mc) (hrs : rm.slots = ms)
    (hd : y.cls = C ∧ y.cls ≠ "java/lang/invoke/MethodHandle" ∧ y.cls ≠ "java/lang/invoke/VarHandle" ∧ (parseMethodDescriptor y.desc).map (fun d => d.parameters.length) = some n) (hR : rm.frames + 1 ≤ R.frames ∧ 8 + (maxL + 11) + rm.locals ≤ R.locals) :
    vx_CVW R s args own C index y bytes maxL ret hh ws rm mc ms n := by
  obtain ⟨hC, hd⟩ := hd
  subst hC
  have ok : ∀ w ∈ wsV own index y.cls y ws, w.before args s = true := fun w h => ht w (hT w h).1
  have hG : GoodIn Ts ws := fun w h => hT w (by unfold wsV; exact List.mem_append_right _ h)
  have hc : Cond.codeWith y bytes maxL ret hh ∈ ws := by rw [hw]; exact List.mem_cons_self
  refine ⟨⟨hrc, hrs, hR.1, hR.2, pay_in ht hG, hc⟩, ht _ (hG _ hc).1, ok _ (by simp [wsV]), ⟨hd.1, hd.2.1⟩, fun sig h => ?_, ok _ (by simp [wsV]), ok _ (by simp [wsV]), ok _ (by simp [wsV])⟩
  have h2 := hd.2.2
  rw [h] at h2
  exact (Option.some.inj h2).symm
theorem vx_runVW {y : MethodName} {bytes cc : ByteArray} {maxL nL mc ms n index : Nat} {ret : Option FieldType} {hh : List (Nat × Nat × Nat × Nat)} {ws : List Cond} {rm : Room} {Pc : Array Value → State → Prop} {Qc : Array Value → State → Outcome → State → Prop} {free : Addr → Prop} {Ts : List Cond} {own C : String} {b : Addr} {As rest : List Value} {g : JFrame}
    (S : CallFix p m c cc nL s args Ts own) (hM : Met l y ws rm Pc Qc mc ms free) (cw : vx_CVW R s args own C index y bytes maxL ret hh ws rm mc ms n) (hp : PreV s H C b Pc As)
    (hg : g.method = m) (hn : As.length = n) (hsize : g.locals.size = nL) (hstack : g.stack = As.reverse ++ .ref b :: rest) (hW : 2 * g.monitorRoom + (rest.map fun v => v.category).sum ≤ 8) (hdg : decode cc g.pc = .ok (.invokevirtual index, 3)) (hf : cells + mc ≤ R.cells ∧ slots + ms ≤ R.slots) :
    va_Run p l e R s m args below meth c H locs cells slots mc ms g rest (Qc (Value.ref b :: As).toArray) free := by
  obtain ⟨⟨hrc, hrs, hfr, hlo, hws, hcw⟩, hcode, hini, hy, hlen, hl, hin, hse⟩ := cw
  have hK : Back l R p e below s args y 3 8 (PreOf R mc ms Pc) (PostOf Qc mc ms free) := va_backW (hh := hh) (bytes := bytes) (maxL := maxL) (ret := ret) hM hp.1 hrc hrs hfr hlo hws hcw (fun a' U hW => word_at hW (Or.inl (by first | rfl | simp [Cond.onTables, Cond.keeps, Cond.steady])) hini)
  obtain ⟨hx, hb, hml, ho, -⟩ := S
  obtain ⟨-, ⟨cellB, hcB, hoB, hclB⟩, hPc⟩ := hp
  intro T hT X
  obtain ⟨v, vm₁, ⟨U', l2, c2, s2⟩, hW₁, X', ⟨g', mk, t, L, e1, e2, hq, h1, hL, h2, h3⟩, st⟩ := vx_callVW X hx (C := C) (hh := hh) (bytes := bytes) (maxL := maxL) (ret := ret) ho hl hin hse hcode hy hK (by rw [hT]; exact hcB) hoB hclB hg (hsize.trans hml.symm) (argsL := As) (rest := rest) (fun sig h => hn.trans (hlen sig h)) hstack hW (by rw [hb]; exact hdg)
    (fun vm₁ hW₁ => ⟨hf.1, hf.2, hPc (T.setVm vm₁) hT hW₁⟩)
  dsimp only [Pt.U, Pt.locs, Pt.cells, Pt.slots] at X' e1 e2 h1 h2 h3 st
  subst h1; subst h2; subst h3
  exact ⟨v, (T.setVm vm₁).calling g' mk (Value.ref b :: As).toArray, t, U', L, hT, X', hL, e1, e2, hq, st⟩
section
variable {y : MethodName} {bytes cc : ByteArray} {maxL nL mc ms n index : Nat} {ret : Option FieldType} {ws : List Cond} {rm : Room} {Pc : Array Value → State → Prop} {Qc : Array Value → State → Outcome → State → Prop} {XC : String → State → State → Prop} {free : Addr → Prop} {Ts : List Cond} {own C : String} {b : Addr} {As rest : List Value} {g : JFrame}
theorem vx_runVX {hh : List (Nat × Nat × Nat × Nat)} (S : CallFix p m c cc nL s args Ts own) (hM : vx_Met l y ws rm Pc Qc XC mc ms free) (cw : vx_CVW R s args own C index y bytes maxL ret hh ws rm mc ms n) (hp : PreV s H C b Pc As)
    (hg : g.method = m) (hn : As.length = n) (hsize : g.locals.size = nL) (hstack : g.stack = As.reverse ++ .ref b :: rest) (hW : 2 * g.monitorRoom + (rest.map fun v => v.category).sum ≤ 8) (hdg : decode cc g.pc = .ok (.invokevirtual index, 3)) (hf : cells + mc ≤ R.cells ∧ slots + ms ≤ R.slots) :
    vx_Run p l e R s m args below meth c H locs cells slots mc ms g rest (Qc (Value.ref b :: As).toArray) XC free := by
  obtain ⟨⟨hrc, hrs, hfr, hlo, hws, hcw⟩, hcode, hini, hy, hlen, hl, hin, hse⟩ := cw
  have hK : vx_Back l R p e below s args y 3 8 (PreOf R mc ms Pc) (PostOf Qc mc ms free) (vx_Post XC mc ms free) := vx_backW (hh := hh) (bytes := bytes) (maxL := maxL) (ret := ret) hM hp.1 hrc hrs hfr hlo hws hcw (fun a' U hW => word_at hW (Or.inl (by first | rfl | simp [Cond.onTables, Cond.keeps, Cond.steady])) hini)
  obtain ⟨hx, hb, hml, ho, -⟩ := S
  obtain ⟨-, ⟨cellB, hcB, hoB, hclB⟩, hPc⟩ := hp
  intro T hT X
  rcases vx_callVX X hx (C := C) (hh := hh) (bytes := bytes) (maxL := maxL) (ret := ret) ho hl hin hse hcode hy hK (by rw [hT]; exact hcB) hoB hclB hg (hsize.trans hml.symm) (argsL := As) (rest := rest) (fun sig h => hn.trans (hlen sig h)) hstack hW (by rw [hb]; exact hdg)
    (fun vm₁ hW₁ => ⟨hf.1, hf.2, hPc (T.setVm vm₁) hT hW₁⟩) with ⟨v, vm₁, ⟨U', l2, c2, s2⟩, hW₁, X', ⟨g', mk, t, L, e1, e2, hq, h1, hL, h2, h3⟩, st⟩ | ⟨q, vm₁, ⟨U', l2, c2, s2⟩, hW₁, X', ⟨g', mk, t, L, E, ce, e1, e2, hq, hce, hcv, hcl, h1, hL, h2, h3⟩, st⟩
  · dsimp only [Pt.U, Pt.locs, Pt.cells, Pt.slots] at X' e1 e2 h1 h2 h3 st
    subst h1; subst h2; subst h3
    exact Or.inl ⟨v, (T.setVm vm₁).calling g' mk (Value.ref b :: As).toArray, t, U', L, hT, X', hL, e1, e2, hq, st⟩
  · dsimp only [Pt.U, Pt.locs, Pt.cells, Pt.slots] at X' e1 e2 h1 h2 h3 st hcl
    subst h1; subst h2; subst h3
    exact Or.inr ⟨q, (T.setVm vm₁).calling g' mk (Value.ref b :: As).toArray, t, U', L, E, ce, hT, X', hL, e1, e2, hq, hce, hcv, vx_cls hW₁ hcl, st⟩
theorem vx_runSX {hh : List (Nat × Nat × Nat × Nat)} (S : CallFix p m c cc nL s args Ts own) (hM : vx_Met l y ws rm Pc Qc XC mc ms free) (cw : vx_CSW R s args own index y bytes maxL ret hh ws rm mc ms n) (hp : PreS s H Pc As)
    (hg : g.method = m) (hn : As.length = n) (hsize : g.locals.size = nL) (hstack : g.stack = As.reverse ++ rest) (hW : 2 * g.monitorRoom + (rest.map fun v => v.category).sum ≤ 8) (hdg : decode cc g.pc = .ok (.invokestatic index, 3)) (hf : cells + mc ≤ R.cells ∧ slots + ms ≤ R.slots) :
    vx_Run p l e R s m args below meth c H locs cells slots mc ms g rest (Qc As.toArray) XC free := by
  obtain ⟨⟨hrc, hrs, hfr, hlo, hws, hcw⟩, hcode, hini, hy, hlen, hl, hstt⟩ := cw
  have hK : vx_Back l R p e below s args y 3 8 (PreOf R mc ms Pc) (PostOf Qc mc ms free) (vx_Post XC mc ms free) := vx_backW (hh := hh) (bytes := bytes) (maxL := maxL) (ret := ret) hM hp.1 hrc hrs hfr hlo hws hcw (fun a' U hW => word_at hW (Or.inl (by first | rfl | simp [Cond.onTables, Cond.keeps, Cond.steady])) hini)
  obtain ⟨hx, hb, hml, ho, -⟩ := S
  intro T hT X
  rcases vx_callSX X hx (hh := hh) (bytes := bytes) (maxL := maxL) (ret := ret) ho hl hstt hini hcode hy hK hg (hsize.trans hml.symm) (argsL := As) (rest := rest) (fun sig h => hn.trans (hlen sig h)) hstack hW (by rw [hb]; exact hdg)
    (fun vm₁ hW₁ => ⟨hf.1, hf.2, hp.2 (T.setVm vm₁) hT hW₁⟩) with ⟨v, vm₁, ⟨U', l2, c2, s2⟩, hW₁, X', ⟨g', mk, t, L, e1, e2, hq, h1, hL, h2, h3⟩, st⟩ | ⟨q, vm₁, ⟨U', l2, c2, s2⟩, hW₁, X', ⟨g', mk, t, L, E, ce, e1, e2, hq, hce, hcv, hcl, h1, hL, h2, h3⟩, st⟩
  · dsimp only [Pt.U, Pt.locs, Pt.cells, Pt.slots] at X' e1 e2 h1 h2 h3 st
    subst h1; subst h2; subst h3
    exact Or.inl ⟨v, (T.setVm vm₁).calling g' mk As.toArray, t, U', L, hT, X', hL, e1, e2, hq, st⟩
  · dsimp only [Pt.U, Pt.locs, Pt.cells, Pt.slots] at X' e1 e2 h1 h2 h3 st hcl
    subst h1; subst h2; subst h3
    exact Or.inr ⟨q, (T.setVm vm₁).calling g' mk As.toArray, t, U', L, E, ce, hT, X', hL, e1, e2, hq, hce, hcv, vx_cls hW₁ hcl, st⟩
end
end VXH
theorem vx_ofWH {l : Launch} {y : MethodName} {ws ws' : List Cond} {rm : Room} {Pc : Array Value → State → Prop} {Qc : Array Value → State → Outcome → State → Prop} {XC : String → State → State → Prop} {mc ms : Nat} {free : Addr → Prop} {cc : ByteArray} {maxL : Nat} {ret : Option FieldType} {hh : List (Nat × Nat × Nat × Nat)}
    (hy : plainName y.cls = true) (hw : ws = Cond.codeWith y cc maxL ret hh :: ws')
    (body : ∀ p e s m args below meth c s₁, BodyLoose p l y (headSpec ws rm) cc maxL ret e s m args below meth c s₁ → c.maxLocals = maxL → Pc args s →
      W p l e (headSpec ws rm).room s m args below meth c s.heap [] 0 0 (vx_MQ below Qc XC args s mc ms free) (entryFrame m args maxL)) : vx_Met l y ws rm Pc Qc XC mc ms free := by
  refine MetFree.of_bodyS (code := cc) (maxLocals := maxL) (ret := ret) hy ?_ ?_
  · intro args s m h hn
    obtain ⟨m9, meth, c, hn9, h1, h2, h3, h4, -, h5, h6, -⟩ := Cond.codeWith_spec (atoms_spec (ws := ws) h _ (by rw [hw]; exact List.mem_cons_self))
    cases hn.symm.trans hn9
    exact ⟨meth, c, h1, h2, h3, h4, h5, h6⟩
  · intro p e s m args below meth c s₁ B hml hP _
    have hh0 : s₁.heap = s.heap := by rw [B.state]; rfl
    obtain ⟨t, a1, o, b1, b2, b3⟩ := body p e s m args below meth c s₁ B hml hP s₁ hh0 (Stand.of_body B)
    exact ⟨t, o, a1, b1, b2, b3⟩
/-! ===== END ===== -/

/-! ===== BEGIN what the machine throws by itself, no traces kept ===== -/
section VXM
set_option maxHeartbeats 1000000 in
/-- the machine throws cls with the message text, no traces kept: from its note over the frame g to 'throwing' over the same frame (follows the proofs of Stand.vmThrowsMessage, Shelf/KitTracedVmS.lean, and Stand.throwsMessageColdBareV, StandMessageColdV.lean, without the step out of the frame) -/
theorem vx_vmAt {p : Program} {l : Launch} {e : Env} {R : Room} {s : State} {m₀ : MethodId} {args : Array Value} {below : List Frame} {meth : Method} {c : Code} {W : State} {locs : List Loc} {cells slots : Nat}
    (X : Stand p l e R s m₀ args below meth c W locs cells slots) (hexec : p.tables.exec = Jvm.exec) (htr : e.platform.stackTraces = false) {cls : String} {names : List String} {text : String}
    (hcls : Bundle.fit cls = true) (hnames : ∀ n ∈ names, Bundle.fit n = true) (hsoe : (cls == "java/lang/StackOverflowError") = false) (hoom : (cls == "java/lang/OutOfMemoryError") = false)
    (h : ∀ a ∈ Bundle.messageArmAtoms cls names, a.before args s = true)
    (hlocs : ∀ x ∈ locs, ∀ cell, s.heap[x.base]? = some cell → cell.vm.isStatics = false)
    (htext : (text == notModelled) = false) (hlimit : ¬ (stringBytes (stringToUtf16 text)).size > e.platform.arrayLengthLimit) (hheap : ¬ (stringBytes (stringToUtf16 text)).size * componentBytes .byte > e.platform.maxHeapBytes)
    {g : JFrame} (hg : g.method = m₀) (hsize : g.locals.size = c.maxLocals)
    (hRframes : names.length + 4 < R.frames) (hRlocals : 2 * g.monitorRoom + (g.stack.map fun v => v.category).sum + 10240 ≤ R.locals) (hshort : 13 * names.length + 55 ≤ 10240)
    (hRcells : cells + 3 ≤ R.cells) (hRslots : slots + ((stringBytes (stringToUtf16 text)).size + 4 + 6) ≤ R.slots) (hlocks : meth.locks = false) :
    ∃ (S : State) (q : Addr) (ce : Cell), (∀ target, Steps p.tables e below ((S.setTop g).pushFrame (.throwing q)) target → Steps p.tables e below ((W.setTop g).pushFrame (.throwNew cls (some text) none)) target) ∧
      Stand p l e R s m₀ args below meth c S locs (cells + 3) (slots + ((stringBytes (stringToUtf16 text)).size + 4 + 6)) ∧ S.heap[q]? = some ce ∧ s.vm.findClass cls = some ce.cls ∧ ce.vm = .none := by
  have howns : e.platform.frameOwnsMonitors = true := by rw [X.admits.platform]
  have hfin : e.platform.finalization = false := by rw [X.admits.platform]
  have hpl : e.platform.magicAccessors = ({} : Platform).magicAccessors := by rw [X.admits.platform]
  have a : ∀ x, x ∈ Bundle.messageArmAtoms cls names → x.holds args s none s [] = true := fun x hx => h x hx
  obtain ⟨T, Z0, L, -, Y⟩ := ThrowableC.of_atoms (args := args) howns hfin hpl (fun x hx => h x (by simp [Bundle.messageArmAtoms, hx]))
  obtain ⟨Z, M, LZ, LM, hnZ⟩ := Init0T.ofS_atoms (args := args) hpl L Y (fun x hx => h x (by simp [Bundle.messageArmAtoms, hx]))
  obtain ⟨P1, Ps, hlen, L1, hL, hP1m, hlink1, hlink⟩ := Bundle.chainS (args := args) hpl hnZ names cls hcls hnames (fun x hx => h x (by simp [Bundle.messageArmAtoms, hx]))
  obtain ⟨Zs, LZs, hn4, hfitv, hfitc⟩ := StringT.of_atoms (args := args) (fun x hx => h x (by simp [Bundle.messageArmAtoms, hx]))
  have hfound : s.vm.findClass cls = some P1.m.cls := findClass_of_methodNamed hP1m
  obtain ⟨c1, kX, hc1, hk, hord, -, -, hn6⟩ := Cond.instantiable_spec (a (.instantiable cls 6) (by simp [Bundle.messageArmAtoms]))
  cases Option.some.inj (hc1.symm.trans hfound)
  have hinit := Cond.initialized_spec hfound hk (a (.initialized cls) (by simp [Bundle.messageArmAtoms]))
  have hctor : kX.findMethod "<init>" "(Ljava/lang/String;)V" = some P1.m.idx := findMethod_of_methodNamed hP1m hk
  have hsel0 : selectMethod e.platform s.vm P1.m.cls T.fill0 = .method T.fill0 := by
    obtain ⟨c2, r2, m2, q1, q2, q3, q4, -⟩ := Cond.selects_spec (a (.selects cls Bundle.tFill0 Bundle.tFill0) (by simp [Bundle.messageArmAtoms]))
    cases Option.some.inj (q1.symm.trans hfound)
    cases Option.some.inj (q2.symm.trans (State.methodFound?_of_named Y.fill0 (by decide)))
    cases Option.some.inj (q3.symm.trans Y.fill0)
    rw [Launch.admits_selectMethod X.admits]; exact q4
  have hselF : selectMethod e.platform s.vm P1.m.cls T.fill = .method T.fill := by
    obtain ⟨c2, r2, m2, q1, q2, q3, q4, -⟩ := Cond.selects_spec (a (.selects cls Bundle.tFill Bundle.tFill) (by simp [Bundle.messageArmAtoms]))
    cases Option.some.inj (q1.symm.trans hfound)
    cases Option.some.inj (q2.symm.trans (State.methodFound?_of_named Y.fill (by decide)))
    cases Option.some.inj (q3.symm.trans Y.fill)
    rw [Launch.admits_selectMethod X.admits]; exact q4
  obtain ⟨cellS0, hcS0, hiss⟩ := Y.statics
  obtain ⟨u0, hu0⟩ := Cond.staticRefV Y.unassigned L.unassignedStatic L.statics hcS0 hiss (a (.isRef (.static Bundle.tN "UNASSIGNED_STACK" Bundle.steD)) (by simp [Bundle.messageArmAtoms]))
  obtain ⟨sen, hsen⟩ := Cond.staticRefV Y.sentinel L.sentinelStatic L.statics hcS0 hiss (a (.isRef (.static Bundle.tN "SUPPRESSED_SENTINEL" Bundle.listD)) (by simp [Bundle.messageArmAtoms]))
  obtain ⟨ci198, i198, fB, hk198, hg198, ha198, hsB, -, hnB, htB, hffB⟩ := Cond.ownField (t := .object "java/lang/Object") Y.found L.cls (by decide +kernel) (a (.fieldLink Bundle.tN 198 Bundle.tN "backtrace" "Ljava/lang/Object;") (by simp [Bundle.messageArmAtoms])) (a (.lays Bundle.tN Bundle.tN "backtrace" "Ljava/lang/Object;") (by simp [Bundle.messageArmAtoms])) e.platform hpl
  obtain ⟨cellS, hcS', heS, -, hkeep⟩ := X.same.2.2.2.2.2 T.aS cellS0 hcS0
  have hcellS : W.heap[T.aS]? = some cellS := hcS'
  have hout' : ∀ i, (⟨T.aS, i⟩ : Loc) ∉ locs := fun i hmem => by
    have := hlocs _ hmem cellS0 hcS0
    rw [hiss] at this; cases this
  have hknownS : cellS.vm ≠ .unknown := by
    rw [heS]; intro hu
    rw [show cellS0.vm = .unknown from hu] at hiss
    cases hiss
  have hvU : cellS.slots[T.fUnassigned.slot]? = some u0.v := by rw [hkeep _ (hout' _)]; exact hu0
  have hvSen : cellS.slots[T.fSentinel.slot]? = some sen.v := by rw [hkeep _ (hout' _)]; exact hsen
  obtain ⟨iM, hffM⟩ := Y.msg
  obtain ⟨tyC, dC, hdC, hdnC⟩ := Cond.laysAt hfound hk Y.cause (a (.lays cls Bundle.tN "cause" "Ljava/lang/Throwable;") (by simp [Bundle.messageArmAtoms]))
  obtain ⟨tyS, dS, hdS, hdnS⟩ := Cond.laysAt hfound hk Y.stack (a (.lays cls Bundle.tN "stackTrace" Bundle.steD) (by simp [Bundle.messageArmAtoms]))
  obtain ⟨tyP, dP, hdP, hdnP⟩ := Cond.laysAt hfound hk Y.supp (a (.lays cls Bundle.tN "suppressedExceptions" Bundle.listD) (by simp [Bundle.messageArmAtoms]))
  obtain ⟨tyM, dM, hdM, hdnM⟩ := Cond.laysAt hfound hk hffM (a (.lays cls Bundle.tN "detailMessage" "Ljava/lang/String;") (by simp [Bundle.messageArmAtoms]))
  obtain ⟨tyB, dB, hdB, hdnB⟩ := Cond.laysAt hfound hk hffB (a (.lays cls Bundle.tN "backtrace" "Ljava/lang/Object;") (by simp [Bundle.messageArmAtoms]))
  have bC := Cond.laysApart hdB hdC hdnB hdnC (by rw [hnB, Y.causeName]; decide)
  have bS := Cond.laysApart hdB hdS hdnB hdnS (by rw [hnB, Y.stackName]; decide)
  have bP := Cond.laysApart hdB hdP hdnB hdnP (by rw [hnB, Y.suppName]; decide)
  have hbk : ((preparedCellV T.toThrowableT (freshCell P1.m.cls kX) (W.heap.size + 2) u0 sen).withEntry W.cur).slots[fB.slot]? = some .null := by
    have := fresh_default (c := P1.m.cls) tyB
    rw [htB] at this
    simpa [preparedCellV, Cell.setSlot, Cell.withEntry, Array.getElem?_setIfInBounds, bC, bS, bP, bC.symm, bS.symm, bP.symm, defaultValue] using this
  have tkC := Takes.of_laid (v := .ref (W.heap.size + 2)) hk hord tyC (by rw [Y.causeType]; rfl)
  have tkS := Takes.of_laid (v := u0.v) hk hord tyS (by rw [Y.stackType]; exact fits_refV_array _ u0)
  have tkP := Takes.of_laid (v := sen.v) hk hord tyP (by rw [Y.suppType]; exact fits_refV_object _ sen)
  have tkM := Takes.of_laid (v := .ref (W.heap.size + 1)) hk hord tyM (by rw [Y.msgType]; rfl)
  have hskip : SkipFacts T e.platform s (fun u => u) u0 ((preparedCellV T.toThrowableT (freshCell P1.m.cls kX) (W.heap.size + 2) u0 sen).withEntry W.cur) := ⟨{ ci198 := ci198, i198 := i198, fBack := fB }, ⟨hk198, hg198, ha198, hsB⟩, hbk, fun _ _ => rfl⟩
  have h0 : At W g.method c below := by rw [hg]; exact X.here
  obtain ⟨hbeyond, hfreeW⟩ := X.vmMayThrow hsize (.throwNew cls (some text) none) (fun f hf => by cases hf) rfl hRlocals
  have hfr' : W.frames.length + Ps.length + 4 < (e.platform.stackLimits W.me).1 := by have := X.framesAbove hRframes; omega
  have hwd' : (stackUse (.java g :: W.frames.tail)).2 + 13 * Ps.length + 55 ≤ (e.platform.stackLimits W.me).2 := by have := X.stackAbove hsize (K := 13 * Ps.length + 55) (by omega); omega
  have hslots : W.slotsUsed + (stringBytes (stringToUtf16 text)).size + Zs.kS.instanceTypes.size + kX.instanceTypes.size ≤ e.platform.maxSlots := by
    have := X.slotsAbove hRslots
    rw [hn4, hn6]
    omega
  obtain ⟨vm', hW', st⟩ := Steps.vmThrowsMessageColdByV p (s₀ := s) (S := W) (g := g) h0 hexec T L Z LZ M LM X.warmed (t := W.cur) rfl Zs LZs P1 L1 Ps hL hlink1 hlink hsoe hoom hfound hk hinit hord hctor
    (Launch.admits_hotImplicitExceptions X.admits) hbeyond hfreeW htext hlimit hheap (X.cellsAbove hRcells) hslots (hfitv _) (hfitc _)
    (Nn := fun u => u) heapOnly_id (fun _ _ => rfl) (fun _ => rfl) (fun u x y => setCell_twice _ _ _ _) (fun _ => Nat.le_refl _) (cN := ((preparedCellV T.toThrowableT (freshCell P1.m.cls kX) (W.heap.size + 2) u0 sen).withEntry W.cur))
    hsel0 hcellS hknownS hvU tkS (fun _ hu => hu) (fun _ hu => hu) rfl rfl rfl (by simp [preparedCellV, Cell.setSlot, Cell.withEntry]) hskip (fun _ _ hA hW _ hroom _ hrest => L.nativeOff p htr hA hW hroom hrest) hselF hvSen tkC tkP tkM Y.objLocals rfl hfr' hwd'
  rw [plainBareV_eq T.toThrowableT (W.heap.size + 2) u0 sen (.ref (W.heap.size + 1)) W.cur rfl rfl] at st
  obtain ⟨-, -, w3, w4, -, -, -⟩ := withThrown_facts e.platform W Zs text P1.m.cls kX
  have X3 := ((X.pushed (bytesOf Zs.cB (stringToUtf16 text))).pushed (stringAt Zs.cS Zs.kS Zs.fv Zs.fc (stringToUtf16 text) W.heap.size)).pushed (freshCell P1.m.cls kX)
  rw [← withString_eq] at X3
  have X4 := X3.noted hW'
  have ha : (W.heap.size + 2) < ((withThrown W Zs text P1.m.cls kX).setVm vm').heap.size := by show _ < (withThrown W Zs text P1.m.cls kX).heap.size; rw [w3]; omega
  have hcell : ((withThrown W Zs text P1.m.cls kX).setVm vm').heap[(W.heap.size + 2)]? = some (freshCell P1.m.cls kX) := w4
  have X5 := ((((X4.stored hcell T.fCause.slot (.ref (W.heap.size + 2))).storedAgain ha T.fStack.slot u0.v).storedAgain ha T.fSupp.slot sen.v).storedAgain ha T.fStack.slot u0.v).storedAgain ha T.fMsg.slot (.ref (W.heap.size + 1))
  obtain ⟨g₁, hfrM⟩ := X5.frames_eq
  have hU : ((((withThrown W Zs text P1.m.cls kX).setVm vm').setCell (W.heap.size + 2) (plainBareV T.toThrowableT (freshCell P1.m.cls kX) (W.heap.size + 2) u0 sen (.ref (W.heap.size + 1)))).setTop g).pushFrame (.throwing (W.heap.size + 2)) = (((withThrown W Zs text P1.m.cls kX).setVm vm').setCell (W.heap.size + 2) (plainBareV T.toThrowableT (freshCell P1.m.cls kX) (W.heap.size + 2) u0 sen (.ref (W.heap.size + 1)))).setFrames (.throwing (W.heap.size + 2) :: .java g :: below) := by
    rw [State.pushFrame, State.frames_setTop _ hfrM, State.setTop_of_frames _ hfrM, State.setFrames_setFrames]
  have b1 : (bytesOf Zs.cB (stringToUtf16 text)).slots.size = (stringBytes (stringToUtf16 text)).size := by
    rw [(Cell.writeAll_facts _ _).2.2]; simp [bytes0]
  have b2 : (stringAt Zs.cS Zs.kS Zs.fv Zs.fc (stringToUtf16 text) W.heap.size).slots.size = 4 := by simp [string0, Cell.setSlot, hn4]
  have b3 : (freshCell P1.m.cls kX).slots.size = 6 := by simp [hn6]
  rw [b1, b2, b3] at X5
  have e9 : slots + (stringBytes (stringToUtf16 text)).size + 4 + 6 = slots + ((stringBytes (stringToUtf16 text)).size + 4 + 6) := by omega
  rw [e9] at X5
  simp only [List.append_assoc, List.cons_append, List.nil_append] at X5
  refine ⟨((withThrown W Zs text P1.m.cls kX).setVm vm').setCell (W.heap.size + 2) (plainBareV T.toThrowableT (freshCell P1.m.cls kX) (W.heap.size + 2) u0 sen (.ref (W.heap.size + 1))), W.heap.size + 2, _, fun target ht => st _ (by rw [X.tail, ← hU]; exact ht),
    X5.forget (fun y hy => ?_), heapAt_setCell_self _ ha, hfound, rfl⟩
  simp only [List.mem_cons, List.not_mem_nil, or_false] at hy
  have hge : s.heap.size ≤ W.heap.size := X.same.2.1
  rcases hy with rfl | rfl | rfl | rfl | rfl <;> exact Nat.le_trans hge (Nat.le_add_right _ 2)
set_option maxHeartbeats 1000000 in
/-- the machine throws NullPointerException, no traces kept: from its note over the frame g to 'throwing' over the same frame (follows the proof of Stand.vmThrowsNpe, Shelf42/KT2.lean; throwsNpeColdBareVAt, Shelf42/NT91.lean, called) -/
theorem vx_npeAt {p : Program} {l : Launch} {e : Env} {R : Room} {s : State} {m₀ : MethodId} {args : Array Value} {below : List Frame} {meth : Method} {c : Code} {W : State} {locs : List Loc} {cells slots : Nat}
    (X : Stand p l e R s m₀ args below meth c W locs cells slots) (hexec : p.tables.exec = Jvm.exec) (htr : e.platform.stackTraces = false) {n : Nat}
    (h : ∀ a ∈ Bundle.npeArmAtoms n, a.before args s = true)
    (hlocs : ∀ x ∈ locs, ∀ cell, s.heap[x.base]? = some cell → cell.vm.isStatics = false)
    {g : JFrame} (hg : g.method = m₀) (hsize : g.locals.size = c.maxLocals)
    (hRframes : 7 < R.frames) (hRlocals : 2 * g.monitorRoom + (g.stack.map fun v => v.category).sum + 10240 ≤ R.locals)
    (hRcells : cells + 1 ≤ R.cells) (hRslots : slots + n ≤ R.slots) (hlocks : meth.locks = false) :
    ∃ (S : State) (q : Addr) (ce : Cell), (∀ target, Steps p.tables e below ((S.setTop g).pushFrame (.throwing q)) target → Steps p.tables e below ((W.setTop g).pushFrame (.throwNew "java/lang/NullPointerException" none none)) target) ∧
      Stand p l e R s m₀ args below meth c S locs (cells + 1) (slots + n) ∧ S.heap[q]? = some ce ∧ s.vm.findClass "java/lang/NullPointerException" = some ce.cls ∧ ce.vm = .none := by
  have howns : e.platform.frameOwnsMonitors = true := by rw [X.admits.platform]
  have hfin : e.platform.finalization = false := by rw [X.admits.platform]
  have hpl : e.platform.magicAccessors = ({} : Platform).magicAccessors := by rw [X.admits.platform]
  have hpl2 : e.platform.arrayCloneIsPublic = true := by rw [X.admits.platform]
  have a' : ∀ x, x ∈ Bundle.npeArmAtoms n → x.holds args s none s [] = true := fun x hx => h x hx
  obtain ⟨T, Z, L, LZ, Y⟩ := ThrowableC.of_atoms (args := args) howns hfin hpl (fun x hx => h x (by simp [Bundle.npeArmAtoms, hx]))
  obtain ⟨N, LN, hcN, hnNF, hordN, hffS⟩ := NpeC.of_atoms (args := args) hpl hpl2 L Y (fun x hx => h x (by simp [Bundle.npeArmAtoms, hx]))
  obtain ⟨P1, L1, hP1m, hP1s⟩ := PassC.of_atoms (args := args) (s := s) hpl (X := Bundle.nN) (Y := Bundle.rN) (by decide) (by decide) LibCode.NullPointerException.Init0.at_0 LibCode.NullPointerException.Init0.at_1 LibCode.NullPointerException.Init0.at_4 (fun x hx => h x (by simp [Bundle.npeArmAtoms, hx]))
  obtain ⟨PR, LR, hPRm, hPRs⟩ := PassC.of_atoms (args := args) (s := s) hpl (X := Bundle.rN) (Y := Bundle.eN) (by decide) (by decide) LibCode.RuntimeException.Init0.at_0 LibCode.RuntimeException.Init0.at_1 LibCode.RuntimeException.Init0.at_4 (fun x hx => h x (by simp [Bundle.npeArmAtoms, hx]))
  obtain ⟨PE, LEx, hPEm, hPEs⟩ := PassC.of_atoms (args := args) (s := s) hpl (X := Bundle.eN) (Y := Bundle.tN) (by decide) (by decide) LibCode.Exception.Init0.at_0 LibCode.Exception.Init0.at_1 LibCode.Exception.Init0.at_4 (fun x hx => h x (by simp [Bundle.npeArmAtoms, hx]))
  have hfound : s.vm.findClass Bundle.nN = some P1.m.cls := findClass_of_methodNamed hP1m
  have ecls : N.cN = P1.m.cls := Option.some.inj (hcN.symm.trans hfound)
  have hk : s.vm.classes[P1.m.cls]? = some N.kN := by rw [← ecls]; exact LN.cls
  have hinit := Cond.initialized_spec hfound hk (a' (.initialized Bundle.nN) (by simp [Bundle.npeArmAtoms]))
  have hctor : N.kN.findMethod "<init>" "()V" = some P1.m.idx := findMethod_of_methodNamed hP1m hk
  obtain ⟨c1, k1, hc1, hk1, -, -, -, hn⟩ := Cond.instantiable_spec (a' (.instantiable Bundle.nN n) (by simp [Bundle.npeArmAtoms]))
  cases Option.some.inj (hc1.symm.trans hfound)
  cases Option.some.inj (hk1.symm.trans hk)
  have hfsz : (freshCell P1.m.cls N.kN).slots.size = n := by simp [hn]
  have hlink1 : P1.sup = PR.m := Option.some.inj (hP1s.symm.trans hPRm)
  have hlinkR : PR.sup = PE.m := Option.some.inj (hPRs.symm.trans hPEm)
  have hlinkE : PE.sup = Z.m T.toThrowableT := Option.some.inj (hPEs.symm.trans Y.init0)
  have hLs : ∀ P, P ∈ [PR, PE] → P.Links0 e.platform s := fun P hP => by
    simp only [List.mem_cons, List.not_mem_nil, or_false] at hP
    rcases hP with rfl | rfl
    · exact LR
    · exact LEx
  have hsel0 : selectMethod e.platform s.vm P1.m.cls T.fill0 = .method T.fill0 := by
    obtain ⟨c2, r2, m2, q1, q2, q3, q4, -⟩ := Cond.selects_spec (a' (.selects Bundle.nN Bundle.tFill0 Bundle.tFill0) (by simp [Bundle.npeArmAtoms]))
    cases Option.some.inj (q1.symm.trans hfound)
    cases Option.some.inj (q2.symm.trans (State.methodFound?_of_named Y.fill0 (by decide)))
    cases Option.some.inj (q3.symm.trans Y.fill0)
    rw [Launch.admits_selectMethod X.admits]; exact q4
  have hselF : selectMethod e.platform s.vm P1.m.cls T.fill = .method N.fill := by
    obtain ⟨c2, r2, m2, q1, q2, q3, q4, -⟩ := Cond.selects_spec (a' (.selects Bundle.nN Bundle.tFill Bundle.nFill) (by simp [Bundle.npeArmAtoms]))
    cases Option.some.inj (q1.symm.trans hfound)
    cases Option.some.inj (q2.symm.trans (State.methodFound?_of_named Y.fill (by decide)))
    cases Option.some.inj (q3.symm.trans hnNF)
    rw [Launch.admits_selectMethod X.admits]; exact q4
  obtain ⟨cellS0, hcS0, hiss⟩ := Y.statics
  obtain ⟨u0, hu0⟩ := Cond.staticRefV Y.unassigned L.unassignedStatic L.statics hcS0 hiss (a' (.isRef (.static Bundle.tN "UNASSIGNED_STACK" Bundle.steD)) (by simp [Bundle.npeArmAtoms]))
  obtain ⟨sen, hsen⟩ := Cond.staticRefV Y.sentinel L.sentinelStatic L.statics hcS0 hiss (a' (.isRef (.static Bundle.tN "SUPPRESSED_SENTINEL" Bundle.listD)) (by simp [Bundle.npeArmAtoms]))
  obtain ⟨ci198, i198, fB, hk198, hg198, ha198, hsB, -, hnB, htB, hffB⟩ := Cond.ownField (t := .object "java/lang/Object") Y.found L.cls (by decide +kernel) (a' (.fieldLink Bundle.tN 198 Bundle.tN "backtrace" Bundle.objD) (by simp [Bundle.npeArmAtoms])) (a' (.lays Bundle.tN Bundle.tN "backtrace" Bundle.objD) (by simp [Bundle.npeArmAtoms])) e.platform hpl
  obtain ⟨cellS, hcS', heS, -, hkeep⟩ := X.same.2.2.2.2.2 T.aS cellS0 hcS0
  have hcellS : W.heap[T.aS]? = some cellS := hcS'
  have hout' : ∀ i, (⟨T.aS, i⟩ : Loc) ∉ locs := fun i hmem => by
    have := hlocs _ hmem cellS0 hcS0
    rw [hiss] at this; cases this
  have hknownS : cellS.vm ≠ .unknown := by
    rw [heS]; intro hu
    rw [show cellS0.vm = .unknown from hu] at hiss
    cases hiss
  have hvU : cellS.slots[T.fUnassigned.slot]? = some u0.v := by rw [hkeep _ (hout' _)]; exact hu0
  have hvSen : cellS.slots[T.fSentinel.slot]? = some sen.v := by rw [hkeep _ (hout' _)]; exact hsen
  obtain ⟨tyC, dC, hdC, hdnC⟩ := Cond.laysAt hfound hk Y.cause (a' (.lays Bundle.nN Bundle.tN "cause" "Ljava/lang/Throwable;") (by simp [Bundle.npeArmAtoms]))
  obtain ⟨tyS, dS, hdS, hdnS⟩ := Cond.laysAt hfound hk Y.stack (a' (.lays Bundle.nN Bundle.tN "stackTrace" Bundle.steD) (by simp [Bundle.npeArmAtoms]))
  obtain ⟨tyP, dP, hdP, hdnP⟩ := Cond.laysAt hfound hk Y.supp (a' (.lays Bundle.nN Bundle.tN "suppressedExceptions" Bundle.listD) (by simp [Bundle.npeArmAtoms]))
  obtain ⟨tyX, dX, hdX, hdnX⟩ := Cond.laysAt hfound hk hffS (a' (.lays Bundle.nN Bundle.nN "extendedMessageState" "I") (by simp [Bundle.npeArmAtoms, Bundle.npeAtoms]))
  obtain ⟨hnX, htX⟩ := State.fieldFound?_type hffS (t := .int) (by decide +kernel)
  have xC := Cond.laysApart hdC hdX hdnC hdnX (by rw [hnX, Y.causeName]; decide)
  have xS := Cond.laysApart hdS hdX hdnS hdnX (by rw [hnX, Y.stackName]; decide)
  have xP := Cond.laysApart hdP hdX hdnP hdnX (by rw [hnX, Y.suppName]; decide)
  have hv0 : (freshCell P1.m.cls N.kN).slots[N.fState.slot]? = some (.int 0) := by
    have := fresh_default (c := P1.m.cls) tyX
    rw [htX] at this; exact this
  obtain ⟨tyB, dB, hdB, hdnB⟩ := Cond.laysAt hfound hk hffB (a' (.lays Bundle.nN Bundle.tN "backtrace" Bundle.objD) (by simp [Bundle.npeArmAtoms]))
  have bC := Cond.laysApart hdB hdC hdnB hdnC (by rw [hnB, Y.causeName]; decide)
  have bS := Cond.laysApart hdB hdS hdnB hdnS (by rw [hnB, Y.stackName]; decide)
  have bP := Cond.laysApart hdB hdP hdnB hdnP (by rw [hnB, Y.suppName]; decide)
  have bX := Cond.laysApart hdB hdX hdnB hdnX (by rw [hnB, hnX]; decide)
  have hbk : ((npeCell N.toNpeT (preparedCellV T.toThrowableT (freshCell P1.m.cls N.kN) W.heap.size u0 sen) W.cur).withEntry W.cur).slots[fB.slot]? = some .null := by
    have := fresh_default (c := P1.m.cls) tyB
    rw [htB] at this
    simpa [npeCell, preparedCellV, Cell.setSlot, Cell.withEntry, Array.getElem?_setIfInBounds, bC, bS, bP, bX, bC.symm, bS.symm, bP.symm, bX.symm, defaultValue] using this
  have tkC := Takes.of_laid (v := .ref W.heap.size) hk hordN tyC (by rw [Y.causeType]; rfl)
  have tkS := Takes.of_laid (v := u0.v) hk hordN tyS (by rw [Y.stackType]; exact fits_refV_array _ u0)
  have tkP := Takes.of_laid (v := sen.v) hk hordN tyP (by rw [Y.suppType]; exact fits_refV_object _ sen)
  have tkX := Takes.of_laid (v := .int 1) hk hordN tyX (by rw [htX]; rfl)
  have hskip : SkipFacts T e.platform s (fun u => u) u0 ((npeCell N.toNpeT (preparedCellV T.toThrowableT (freshCell P1.m.cls N.kN) W.heap.size u0 sen) W.cur).withEntry W.cur) := ⟨{ ci198 := ci198, i198 := i198, fBack := fB }, ⟨hk198, hg198, ha198, hsB⟩, hbk, fun _ _ => rfl⟩
  obtain ⟨vm', X3, st, -⟩ := X.throwsNpeColdBareVAt hexec hg hsize T L Z LZ N LN P1 L1 [PR, PE] hLs hlink1 ⟨hlinkR, hlinkE, trivial⟩ hfound hk hinit hordN hctor hsel0 hselF hcellS hknownS hvU hvSen
    hv0 xC xS xP tkC tkS tkP tkX Y.objLocals hskip (fun _ _ hA hW _ hroom _ hrest => L.nativeOff p htr hA hW hroom hrest) (by simpa using hRframes) hRlocals (by simp) hRcells (by rw [hn]; exact hRslots)
  have hlt : W.heap.size < ((W.pushCell (freshCell P1.m.cls N.kN)).setVm vm').heap.size := by
    show W.heap.size < (W.pushCell (freshCell P1.m.cls N.kN)).heap.size
    rw [State.heap_size_pushCell]; omega
  rw [hfsz] at X3
  obtain ⟨g₁, hfrM⟩ := X3.frames_eq
  have hU : ((((W.pushCell (freshCell P1.m.cls N.kN)).setVm vm').setCell W.heap.size (npeBareV T.toThrowableT N.toNpeT (freshCell P1.m.cls N.kN) W.heap.size u0 sen)).setTop g).pushFrame (.throwing W.heap.size) = (((W.pushCell (freshCell P1.m.cls N.kN)).setVm vm').setCell W.heap.size (npeBareV T.toThrowableT N.toNpeT (freshCell P1.m.cls N.kN) W.heap.size u0 sen)).setFrames (.throwing W.heap.size :: .java g :: below) := by
    rw [State.pushFrame, State.frames_setTop _ hfrM, State.setTop_of_frames _ hfrM, State.setFrames_setFrames]
  refine ⟨_, W.heap.size, _, fun target ht => st.trans (by rw [← hU]; exact ht), X3.forget (fun y hy => ?_), heapAt_setCell_self _ hlt, hfound, rfl⟩
  simp only [List.mem_cons, List.not_mem_nil, or_false] at hy
  have hge : s.heap.size ≤ W.heap.size := X.same.2.1
  rcases hy with rfl | rfl | rfl | rfl | rfl <;> exact hge
/-- the words of a machine's NullPointerException, but the four that speak of the heap -/
def vx_atN (n : Nat) : List Cond := (Bundle.npeArmAtoms n).filter vx_no
/-- the words of a machine's throw with a message, but the four that speak of the heap -/
def vx_atM (X : String) (names : List String) : List Cond := (Bundle.messageArmAtoms X names).filter vx_no
section
variable {p : Program} {l : Launch} {e : Env} {R : Room} {s : State} {m : MethodId} {args : Array Value} {below : List Frame} {meth : Method} {c : Code} {H : Heap} {locs : List Loc} {cells slots : Nat}
/-- a frame seen from a rebased start, seen from the first start again -/
theorem vx_back9 {T S : State} {R' : Room} {k n : Nat} (X : Stand p l e R s m args below meth c T locs cells slots) (Y : Stand p l e R' ((T.setVm s.vm).setFrames (.invoking m args :: below)) m args below meth c T [] 0 0) (Z : Stand p l e R' ((T.setVm s.vm).setFrames (.invoking m args :: below)) m args below meth c S [] k n) :
    Stand p l e R s m args below meth c S locs (cells + k) (slots + n) := by
  have hW0 : s.WarmedH ((T.setVm s.vm).setFrames (.invoking m args :: below)).vm := State.WarmedH.refl s
  refine { admits := X.admits, cas := X.cas, clock := X.clock, frames := X.frames, room := X.room, hears := X.hears, method := X.method, code := X.code, here := Z.here, tail := Z.tail, warmed := State.WarmedH.trans hW0 Z.warmed, limits := Z.limits.trans (Y.limits.symm.trans X.limits), bytes := Z.bytes.trans (Y.bytes.symm.trans X.bytes), same := ?_ }
  obtain ⟨e1, e2⟩ := Z.same
  rw [State.setFrames_setFrames] at e1
  have h2 : (T.setVm s.vm).sameButNew (S.setVm s.vm) [] k n := ⟨e1, e2⟩
  have h3 := X.same.trans h2
  rw [List.append_nil] at h3
  exact h3
/-- from the machine's note that E is thrown here with this text -/
def vx_Note (p : Program) (l : Launch) (e : Env) (R : Room) (s : State) (m : MethodId) (args : Array Value) (below : List Frame) (meth : Method) (c : Code) (H : Heap) (locs : List Loc) (cells slots : Nat) (Q : State → Prop) (g : JFrame) (E text : String) : Prop :=
  ∀ T : State, T.heap = H → Stand p l e R s m args below meth c T locs cells slots → ∃ t, Steps p.tables e below ((T.setTop g).pushFrame (.throwNew E (some text) none)) t ∧ Q t
theorem vx_vm {pc : Nat} {ls : Array Slot} {rest : List Value} {Q : State → Prop} (hexec : p.tables.exec = Jvm.exec) (hl : l.stackTraces = false) {cls text : String} {names : List String} {nb : Nat} {A : Nat → Prop}
    (hcls : Bundle.fit cls = true) (hnames : ∀ n ∈ names, Bundle.fit n = true) (hsoe : (cls == "java/lang/StackOverflowError") = false) (hoom : (cls == "java/lang/OutOfMemoryError") = false)
    (hat : ∀ w ∈ vx_atM cls names, w.before args s = true) (hgood : ∀ w ∈ vx_atM cls names, vx_ot w = true)
    (hU : vx_Zq Bundle.tN "UNASSIGNED_STACK" Bundle.steD A s s.heap) (hN : vx_Zq Bundle.tN "SUPPRESSED_SENTINEL" Bundle.listD A s s.heap) (hS : va_S A s.heap H locs) (hsize : ls.size = c.maxLocals)
    (htext : (text == notModelled) = false) (hnb : (stringBytes (stringToUtf16 text)).size ≤ nb) (hnb1 : nb ≤ 1000)
    (hRframes : names.length + 4 < R.frames) (hRlocals : (rest.map fun v => v.category).sum + 10240 ≤ R.locals) (hshort : 13 * names.length + 55 ≤ 10240) (hRcells : cells + 3 ≤ R.cells) (hRslots : slots + (nb + 10) ≤ R.slots) (hlocks : meth.locks = false)
    (k : ∀ (H1 : Heap) (q9 : Addr) (ce : Cell), H.size ≤ H1.size → (∀ q : Nat, q < H.size → H1[q]? = H[q]?) → va_S A s.heap H1 locs → H1[q9]? = some ce → ce.vm = .none → s.vm.findClass cls = some ce.cls → vx_W p l e R s m args below meth c H1 locs (cells + 3) (slots + (nb + 10)) Q (F0 m pc ls rest) q9) :
    vx_Note p l e R s m args below meth c H locs cells slots Q (F0 m pc ls rest) cls text := by
  intro T hT X
  have htr : e.platform.stackTraces = false := (show e.platform.stackTraces = l.stackTraces by rw [X.admits.platform]).trans hl
  have Y := vx_rebase X (R' := { frames := R.frames, locals := R.locals, cells := 3, slots := nb + 10 }) (Nat.le_refl _) (Nat.le_refl _) hRcells hRslots
  have hhp : ((T.setVm s.vm).setFrames (.invoking m args :: below)).heap = H := hT
  have hW0 : s.WarmedH ((T.setVm s.vm).setFrames (.invoking m args :: below)).vm := State.WarmedH.refl s
  have hat' : ∀ w ∈ vx_atM cls names, w.before args ((T.setVm s.vm).setFrames (.invoking m args :: below)) = true := fun w hw => vx_ot_at hW0 rfl (hgood w hw) (hat w hw)
  have hU' : vx_Zq Bundle.tN "UNASSIGNED_STACK" Bundle.steD A ((T.setVm s.vm).setFrames (.invoking m args :: below)) ((T.setVm s.vm).setFrames (.invoking m args :: below)).heap := by rw [hhp]; exact vx_Zq.moved hW0.alike (hU.kept hS.2.1)
  have hN' : vx_Zq Bundle.tN "SUPPRESSED_SENTINEL" Bundle.listD A ((T.setVm s.vm).setFrames (.invoking m args :: below)) ((T.setVm s.vm).setFrames (.invoking m args :: below)).heap := by rw [hhp]; exact vx_Zq.moved hW0.alike (hN.kept hS.2.1)
  obtain ⟨S, q, ce, st, Z, hce, hcl', hv⟩ := vx_vmAt Y hexec htr (cls := cls) (names := names) (text := text) hcls hnames hsoe hoom (vx_own hat' (vx_isRefq hU'.1) (vx_isRefq hN'.1) hU'.2.word hN'.2.word) (fun x hx => nomatch hx) htext
    (by rw [Launch.admits_arrayLengthLimit X.admits]; omega) (by rw [Launch.admits_maxHeapBytes X.admits]; simp only [componentBytes]; omega)
    (g := F0 m pc ls rest) rfl hsize hRframes (by show 2 * 0 + (rest.map fun v => v.category).sum + 10240 ≤ R.locals; omega) hshort (by show 0 + 3 ≤ 3; omega) (by show 0 + (_ + 4 + 6) ≤ nb + 10; omega) hlocks
  obtain ⟨f1, f2⟩ := vx_frame Z.same
  have f1' : H.size ≤ S.heap.size := by rw [← hT]; exact f1
  have f2' : ∀ q : Nat, q < H.size → S.heap[q]? = H[q]? := fun q hq => by
    rw [← hT]
    exact f2 q (by rw [← hT] at hq; exact hq) (fun z hz => nomatch hz)
  have X5 := vx_back9 X Y Z
  have X6 : Stand p l e R s m args below meth c S locs (cells + 3) (slots + (nb + 10)) := { X5 with same := X5.same.mono (by omega) (by omega) }
  obtain ⟨t, a1, b1⟩ := k S.heap q ce f1' f2' ⟨Nat.le_trans hS.1 f1', fun q h1 h2 => (f2' q (Nat.lt_of_lt_of_le h1 hS.1)).trans (hS.2.1 q h1 h2), hS.2.2⟩ hce hv hcl' S rfl X6
  exact ⟨t, st t a1, b1⟩
/-- from the machine's note that NullPointerException is thrown here -/
def vx_NoteN (p : Program) (l : Launch) (e : Env) (R : Room) (s : State) (m : MethodId) (args : Array Value) (below : List Frame) (meth : Method) (c : Code) (H : Heap) (locs : List Loc) (cells slots : Nat) (Q : State → Prop) (g : JFrame) : Prop :=
  ∀ T : State, T.heap = H → Stand p l e R s m args below meth c T locs cells slots → ∃ t, Steps p.tables e below ((T.setTop g).pushFrame (.throwNew "java/lang/NullPointerException" none none)) t ∧ Q t
theorem vx_npe {pc : Nat} {ls : Array Slot} {rest : List Value} {Q : State → Prop} (hexec : p.tables.exec = Jvm.exec) (hl : l.stackTraces = false) {nb : Nat} {A : Nat → Prop}
    (hat : ∀ w ∈ vx_atN nb, w.before args s = true) (hgood : ∀ w ∈ vx_atN nb, vx_ot w = true)
    (hU : vx_Zq Bundle.tN "UNASSIGNED_STACK" Bundle.steD A s s.heap) (hN : vx_Zq Bundle.tN "SUPPRESSED_SENTINEL" Bundle.listD A s s.heap) (hS : va_S A s.heap H locs) (hsize : ls.size = c.maxLocals)
    (hRframes : 7 < R.frames) (hRlocals : (rest.map fun v => v.category).sum + 10240 ≤ R.locals) (hRcells : cells + 1 ≤ R.cells) (hRslots : slots + nb ≤ R.slots) (hlocks : meth.locks = false)
    (k : ∀ (H1 : Heap) (q9 : Addr) (ce : Cell), H.size ≤ H1.size → (∀ q : Nat, q < H.size → H1[q]? = H[q]?) → va_S A s.heap H1 locs → H1[q9]? = some ce → ce.vm = .none → s.vm.findClass "java/lang/NullPointerException" = some ce.cls → vx_W p l e R s m args below meth c H1 locs (cells + 1) (slots + nb) Q (F0 m pc ls rest) q9) :
    vx_NoteN p l e R s m args below meth c H locs cells slots Q (F0 m pc ls rest) := by
  intro T hT X
  have htr : e.platform.stackTraces = false := (show e.platform.stackTraces = l.stackTraces by rw [X.admits.platform]).trans hl
  have Y := vx_rebase X (R' := { frames := R.frames, locals := R.locals, cells := 1, slots := nb }) (Nat.le_refl _) (Nat.le_refl _) hRcells hRslots
  have hhp : ((T.setVm s.vm).setFrames (.invoking m args :: below)).heap = H := hT
  have hW0 : s.WarmedH ((T.setVm s.vm).setFrames (.invoking m args :: below)).vm := State.WarmedH.refl s
  have hat' : ∀ w ∈ vx_atN nb, w.before args ((T.setVm s.vm).setFrames (.invoking m args :: below)) = true := fun w hw => vx_ot_at hW0 rfl (hgood w hw) (hat w hw)
  have hU' : vx_Zq Bundle.tN "UNASSIGNED_STACK" Bundle.steD A ((T.setVm s.vm).setFrames (.invoking m args :: below)) ((T.setVm s.vm).setFrames (.invoking m args :: below)).heap := by rw [hhp]; exact vx_Zq.moved hW0.alike (hU.kept hS.2.1)
  have hN' : vx_Zq Bundle.tN "SUPPRESSED_SENTINEL" Bundle.listD A ((T.setVm s.vm).setFrames (.invoking m args :: below)) ((T.setVm s.vm).setFrames (.invoking m args :: below)).heap := by rw [hhp]; exact vx_Zq.moved hW0.alike (hN.kept hS.2.1)
  obtain ⟨S, q, ce, st, Z, hce, hcl', hv⟩ := vx_npeAt Y hexec htr (n := nb) (vx_own hat' (vx_isRefq hU'.1) (vx_isRefq hN'.1) hU'.2.word hN'.2.word) (fun x hx => nomatch hx)
    (g := F0 m pc ls rest) rfl hsize hRframes (by show 2 * 0 + (rest.map fun v => v.category).sum + 10240 ≤ R.locals; omega) (by show 0 + 1 ≤ 1; omega) (by show 0 + nb ≤ nb; omega) hlocks
  obtain ⟨f1, f2⟩ := vx_frame Z.same
  have f1' : H.size ≤ S.heap.size := by rw [← hT]; exact f1
  have f2' : ∀ q : Nat, q < H.size → S.heap[q]? = H[q]? := fun q hq => by
    rw [← hT]
    exact f2 q (by rw [← hT] at hq; exact hq) (fun z hz => nomatch hz)
  have X5 := vx_back9 X Y Z
  have X6 : Stand p l e R s m args below meth c S locs (cells + 1) (slots + nb) := { X5 with same := X5.same.mono (by omega) (by omega) }
  obtain ⟨t, a1, b1⟩ := k S.heap q ce f1' f2' ⟨Nat.le_trans hS.1 f1', fun q h1 h2 => (f2' q (Nat.lt_of_lt_of_le h1 hS.1)).trans (hS.2.1 q h1 h2), hS.2.2⟩ hce hv hcl' S rfl X6
  exact ⟨t, st t a1, b1⟩
variable {Q : State → Prop} {cc : ByteArray} {pc : Nat} {ls : Array Slot} {rest : List Value}
theorem vx_idivZ (hexec : p.tables.exec = Jvm.exec) (hb : c.code = cc) {a b : Int32} (h0 : b = 0) (d : decode cc pc = .ok (.idiv, 1)) (k : vx_Note p l e R s m args below meth c H locs cells slots Q (F0 m pc ls rest) "java/lang/ArithmeticException" "/ by zero") :
    W p l e R s m args below meth c H locs cells slots Q (F0 m pc ls (.int b :: .int a :: rest)) := by
  intro T hT X
  obtain ⟨t, st, q⟩ := k T hT X
  exact ⟨t, X.idivZero hexec (g := F0 m pc ls (.int b :: .int a :: rest)) rfl (a := a) (rest := rest) (by rw [h0]) (by rw [hb]; exact d) t st, q⟩
theorem vx_iremZ (hexec : p.tables.exec = Jvm.exec) (hb : c.code = cc) {a b : Int32} (h0 : b = 0) (d : decode cc pc = .ok (.irem, 1)) (k : vx_Note p l e R s m args below meth c H locs cells slots Q (F0 m pc ls rest) "java/lang/ArithmeticException" "/ by zero") :
    W p l e R s m args below meth c H locs cells slots Q (F0 m pc ls (.int b :: .int a :: rest)) := by
  intro T hT X
  obtain ⟨t, st, q⟩ := k T hT X
  exact ⟨t, X.iremZero hexec (g := F0 m pc ls (.int b :: .int a :: rest)) rfl (a := a) (rest := rest) (by rw [h0]) (by rw [hb]; exact d) t st, q⟩
theorem vx_ldivZ (hexec : p.tables.exec = Jvm.exec) (hb : c.code = cc) {a b : Int64} (h0 : b = 0) (d : decode cc pc = .ok (.ldiv, 1)) (k : vx_Note p l e R s m args below meth c H locs cells slots Q (F0 m pc ls rest) "java/lang/ArithmeticException" "/ by zero") :
    W p l e R s m args below meth c H locs cells slots Q (F0 m pc ls (.long b :: .long a :: rest)) := by
  intro T hT X
  obtain ⟨t, st, q⟩ := k T hT X
  exact ⟨t, X.ldivZero hexec (g := F0 m pc ls (.long b :: .long a :: rest)) rfl (a := a) (rest := rest) (by rw [h0]) (by rw [hb]; exact d) t st, q⟩
theorem vx_lremZ (hexec : p.tables.exec = Jvm.exec) (hb : c.code = cc) {a b : Int64} (h0 : b = 0) (d : decode cc pc = .ok (.lrem, 1)) (k : vx_Note p l e R s m args below meth c H locs cells slots Q (F0 m pc ls rest) "java/lang/ArithmeticException" "/ by zero") :
    W p l e R s m args below meth c H locs cells slots Q (F0 m pc ls (.long b :: .long a :: rest)) := by
  intro T hT X
  obtain ⟨t, st, q⟩ := k T hT X
  exact ⟨t, X.lremZero hexec (g := F0 m pc ls (.long b :: .long a :: rest)) rfl (a := a) (rest := rest) (by rw [h0]) (by rw [hb]; exact d) t st, q⟩
theorem vx_ialdZ {D : va_G} {cl : List vw_C} {ws : va_W} {tys : List (ClassId × FieldType)} {a : Nat} (hexec : p.tables.exec = Jvm.exec) (hb : c.code = cc) (hK : va_K D cl tys s) (hP : va_P D cl ws H) (q0 t0 : Nat) {cA : ClassId} {n : Nat} {f : Nat → Int32} (ha : ws[q0]? = some (a, .inl (cA, n, .inl f))) (ht : tys[t0]? = some (cA, .int)) {i : Int32} (hout : ¬ vp_in i n) (hdg : decode cc pc = .ok (.iaload, 1))
    (k : ∀ tx : String, tx = (toString "Index " ++ toString i ++ toString " out of bounds for length " ++ toString n : String) → vx_Note p l e R s m args below meth c H locs cells slots Q (F0 m pc ls rest) "java/lang/ArrayIndexOutOfBoundsException" tx) : W p l e R s m args below meth c H locs cells slots Q (F0 m pc ls (.int i :: .ref a :: rest)) := by
  intro T hT X
  obtain ⟨t, st, q⟩ := k _ rfl T hT X
  refine ⟨t, ?_, q⟩
  have h1 := X.ialoadOut hexec (by rw [hT]; exact hP q0 _ ha) ((hK.2 t0 _ ht).1 n (fun j => .int (f j))) (j := i) (by show (i < 0 ∨ (arrV _ _ _).slots.size ≤ _); rw [arrV_size]; exact Classical.byContradiction hout) (g := F0 m pc ls (.int i :: .ref a :: rest)) rfl (rest := rest) rfl (by rw [hb]; exact hdg) t
  simp only [arrV_size] at h1
  exact h1 st
theorem vx_iastZ {D : va_G} {cl : List vw_C} {ws : va_W} {tys : List (ClassId × FieldType)} {a : Nat} (hexec : p.tables.exec = Jvm.exec) (hb : c.code = cc) (hK : va_K D cl tys s) (hP : va_P D cl ws H) (q0 t0 : Nat) {cA : ClassId} {n : Nat} {f : Nat → Int32} (ha : ws[q0]? = some (a, .inl (cA, n, .inl f))) (ht : tys[t0]? = some (cA, .int)) {i : Int32} {x : Int32} (hout : ¬ vp_in i n) (hdg : decode cc pc = .ok (.iastore, 1))
    (k : ∀ tx : String, tx = (toString "Index " ++ toString i ++ toString " out of bounds for length " ++ toString n : String) → vx_Note p l e R s m args below meth c H locs cells slots Q (F0 m pc ls rest) "java/lang/ArrayIndexOutOfBoundsException" tx) : W p l e R s m args below meth c H locs cells slots Q (F0 m pc ls (.int x :: .int i :: .ref a :: rest)) := by
  intro T hT X
  obtain ⟨t, st, q⟩ := k _ rfl T hT X
  refine ⟨t, ?_, q⟩
  have h1 := X.iastoreOut hexec (by rw [hT]; exact hP q0 _ ha) ((hK.2 t0 _ ht).1 n (fun j => .int (f j))) (j := i) (by show (i < 0 ∨ (arrV _ _ _).slots.size ≤ _); rw [arrV_size]; exact Classical.byContradiction hout) (g := F0 m pc ls (.int x :: .int i :: .ref a :: rest)) rfl (rest := rest) rfl (by rw [hb]; exact hdg) t
  simp only [arrV_size] at h1
  exact h1 st
theorem vx_baldZ {D : va_G} {cl : List vw_C} {ws : va_W} {tys : List (ClassId × FieldType)} {a : Nat} (hexec : p.tables.exec = Jvm.exec) (hb : c.code = cc) (hK : va_K D cl tys s) (hP : va_P D cl ws H) (q0 t0 : Nat) {cA : ClassId} {n : Nat} {f : Nat → Int32} (ha : ws[q0]? = some (a, .inl (cA, n, .inl f))) (ht : tys[t0]? = some (cA, .byte)) {i : Int32} (hout : ¬ vp_in i n) (hdg : decode cc pc = .ok (.baload, 1))
    (k : ∀ tx : String, tx = (toString "Index " ++ toString i ++ toString " out of bounds for length " ++ toString n : String) → vx_Note p l e R s m args below meth c H locs cells slots Q (F0 m pc ls rest) "java/lang/ArrayIndexOutOfBoundsException" tx) : W p l e R s m args below meth c H locs cells slots Q (F0 m pc ls (.int i :: .ref a :: rest)) := by
  intro T hT X
  obtain ⟨t, st, q⟩ := k _ rfl T hT X
  refine ⟨t, ?_, q⟩
  have h1 := X.baloadOut hexec (by rw [hT]; exact hP q0 _ ha) ((hK.2 t0 _ ht).1 n (fun j => .int (f j))) (j := i) (by show (i < 0 ∨ (arrV _ _ _).slots.size ≤ _); rw [arrV_size]; exact Classical.byContradiction hout) (g := F0 m pc ls (.int i :: .ref a :: rest)) rfl (rest := rest) rfl (by rw [hb]; exact hdg) t
  simp only [arrV_size] at h1
  exact h1 st
theorem vx_bastZ {D : va_G} {cl : List vw_C} {ws : va_W} {tys : List (ClassId × FieldType)} {a : Nat} (hexec : p.tables.exec = Jvm.exec) (hb : c.code = cc) (hK : va_K D cl tys s) (hP : va_P D cl ws H) (q0 t0 : Nat) {cA : ClassId} {n : Nat} {f : Nat → Int32} (ha : ws[q0]? = some (a, .inl (cA, n, .inl f))) (ht : tys[t0]? = some (cA, .byte)) {i : Int32} {x : Int32} (hout : ¬ vp_in i n) (hdg : decode cc pc = .ok (.bastore, 1))
    (k : ∀ tx : String, tx = (toString "Index " ++ toString i ++ toString " out of bounds for length " ++ toString n : String) → vx_Note p l e R s m args below meth c H locs cells slots Q (F0 m pc ls rest) "java/lang/ArrayIndexOutOfBoundsException" tx) : W p l e R s m args below meth c H locs cells slots Q (F0 m pc ls (.int x :: .int i :: .ref a :: rest)) := by
  intro T hT X
  obtain ⟨t, st, q⟩ := k _ rfl T hT X
  refine ⟨t, ?_, q⟩
  have h1 := X.bastoreOut hexec (by rw [hT]; exact hP q0 _ ha) ((hK.2 t0 _ ht).1 n (fun j => .int (f j))) (j := i) (by show (i < 0 ∨ (arrV _ _ _).slots.size ≤ _); rw [arrV_size]; exact Classical.byContradiction hout) (g := F0 m pc ls (.int x :: .int i :: .ref a :: rest)) rfl (rest := rest) rfl (by rw [hb]; exact hdg) t
  simp only [arrV_size] at h1
  exact h1 st
theorem vx_zaldZ {D : va_G} {cl : List vw_C} {ws : va_W} {tys : List (ClassId × FieldType)} {a : Nat} (hexec : p.tables.exec = Jvm.exec) (hb : c.code = cc) (hK : va_K D cl tys s) (hP : va_P D cl ws H) (q0 t0 : Nat) {cA : ClassId} {n : Nat} {f : Nat → Int32} (ha : ws[q0]? = some (a, .inl (cA, n, .inl f))) (ht : tys[t0]? = some (cA, .boolean)) {i : Int32} (hout : ¬ vp_in i n) (hdg : decode cc pc = .ok (.baload, 1))
    (k : ∀ tx : String, tx = (toString "Index " ++ toString i ++ toString " out of bounds for length " ++ toString n : String) → vx_Note p l e R s m args below meth c H locs cells slots Q (F0 m pc ls rest) "java/lang/ArrayIndexOutOfBoundsException" tx) : W p l e R s m args below meth c H locs cells slots Q (F0 m pc ls (.int i :: .ref a :: rest)) := by
  intro T hT X
  obtain ⟨t, st, q⟩ := k _ rfl T hT X
  refine ⟨t, ?_, q⟩
  have h1 := X.baloadOut hexec (by rw [hT]; exact hP q0 _ ha) ((hK.2 t0 _ ht).1 n (fun j => .int (f j))) (j := i) (by show (i < 0 ∨ (arrV _ _ _).slots.size ≤ _); rw [arrV_size]; exact Classical.byContradiction hout) (g := F0 m pc ls (.int i :: .ref a :: rest)) rfl (rest := rest) rfl (by rw [hb]; exact hdg) t
  simp only [arrV_size] at h1
  exact h1 st
theorem vx_zastZ {D : va_G} {cl : List vw_C} {ws : va_W} {tys : List (ClassId × FieldType)} {a : Nat} (hexec : p.tables.exec = Jvm.exec) (hb : c.code = cc) (hK : va_K D cl tys s) (hP : va_P D cl ws H) (q0 t0 : Nat) {cA : ClassId} {n : Nat} {f : Nat → Int32} (ha : ws[q0]? = some (a, .inl (cA, n, .inl f))) (ht : tys[t0]? = some (cA, .boolean)) {i : Int32} {x : Int32} (hout : ¬ vp_in i n) (hdg : decode cc pc = .ok (.bastore, 1))
    (k : ∀ tx : String, tx = (toString "Index " ++ toString i ++ toString " out of bounds for length " ++ toString n : String) → vx_Note p l e R s m args below meth c H locs cells slots Q (F0 m pc ls rest) "java/lang/ArrayIndexOutOfBoundsException" tx) : W p l e R s m args below meth c H locs cells slots Q (F0 m pc ls (.int x :: .int i :: .ref a :: rest)) := by
  intro T hT X
  obtain ⟨t, st, q⟩ := k _ rfl T hT X
  refine ⟨t, ?_, q⟩
  have h1 := X.bastoreOut hexec (by rw [hT]; exact hP q0 _ ha) ((hK.2 t0 _ ht).1 n (fun j => .int (f j))) (j := i) (by show (i < 0 ∨ (arrV _ _ _).slots.size ≤ _); rw [arrV_size]; exact Classical.byContradiction hout) (g := F0 m pc ls (.int x :: .int i :: .ref a :: rest)) rfl (rest := rest) rfl (by rw [hb]; exact hdg) t
  simp only [arrV_size] at h1
  exact h1 st
theorem vx_caldZ {D : va_G} {cl : List vw_C} {ws : va_W} {tys : List (ClassId × FieldType)} {a : Nat} (hexec : p.tables.exec = Jvm.exec) (hb : c.code = cc) (hK : va_K D cl tys s) (hP : va_P D cl ws H) (q0 t0 : Nat) {cA : ClassId} {n : Nat} {f : Nat → Int32} (ha : ws[q0]? = some (a, .inl (cA, n, .inl f))) (ht : tys[t0]? = some (cA, .char)) {i : Int32} (hout : ¬ vp_in i n) (hdg : decode cc pc = .ok (.caload, 1))
    (k : ∀ tx : String, tx = (toString "Index " ++ toString i ++ toString " out of bounds for length " ++ toString n : String) → vx_Note p l e R s m args below meth c H locs cells slots Q (F0 m pc ls rest) "java/lang/ArrayIndexOutOfBoundsException" tx) : W p l e R s m args below meth c H locs cells slots Q (F0 m pc ls (.int i :: .ref a :: rest)) := by
  intro T hT X
  obtain ⟨t, st, q⟩ := k _ rfl T hT X
  refine ⟨t, ?_, q⟩
  have h1 := X.caloadOut hexec (by rw [hT]; exact hP q0 _ ha) ((hK.2 t0 _ ht).1 n (fun j => .int (f j))) (j := i) (by show (i < 0 ∨ (arrV _ _ _).slots.size ≤ _); rw [arrV_size]; exact Classical.byContradiction hout) (g := F0 m pc ls (.int i :: .ref a :: rest)) rfl (rest := rest) rfl (by rw [hb]; exact hdg) t
  simp only [arrV_size] at h1
  exact h1 st
theorem vx_castZ {D : va_G} {cl : List vw_C} {ws : va_W} {tys : List (ClassId × FieldType)} {a : Nat} (hexec : p.tables.exec = Jvm.exec) (hb : c.code = cc) (hK : va_K D cl tys s) (hP : va_P D cl ws H) (q0 t0 : Nat) {cA : ClassId} {n : Nat} {f : Nat → Int32} (ha : ws[q0]? = some (a, .inl (cA, n, .inl f))) (ht : tys[t0]? = some (cA, .char)) {i : Int32} {x : Int32} (hout : ¬ vp_in i n) (hdg : decode cc pc = .ok (.castore, 1))
    (k : ∀ tx : String, tx = (toString "Index " ++ toString i ++ toString " out of bounds for length " ++ toString n : String) → vx_Note p l e R s m args below meth c H locs cells slots Q (F0 m pc ls rest) "java/lang/ArrayIndexOutOfBoundsException" tx) : W p l e R s m args below meth c H locs cells slots Q (F0 m pc ls (.int x :: .int i :: .ref a :: rest)) := by
  intro T hT X
  obtain ⟨t, st, q⟩ := k _ rfl T hT X
  refine ⟨t, ?_, q⟩
  have h1 := X.castoreOut hexec (by rw [hT]; exact hP q0 _ ha) ((hK.2 t0 _ ht).1 n (fun j => .int (f j))) (j := i) (by show (i < 0 ∨ (arrV _ _ _).slots.size ≤ _); rw [arrV_size]; exact Classical.byContradiction hout) (g := F0 m pc ls (.int x :: .int i :: .ref a :: rest)) rfl (rest := rest) rfl (by rw [hb]; exact hdg) t
  simp only [arrV_size] at h1
  exact h1 st
theorem vx_saldZ {D : va_G} {cl : List vw_C} {ws : va_W} {tys : List (ClassId × FieldType)} {a : Nat} (hexec : p.tables.exec = Jvm.exec) (hb : c.code = cc) (hK : va_K D cl tys s) (hP : va_P D cl ws H) (q0 t0 : Nat) {cA : ClassId} {n : Nat} {f : Nat → Int32} (ha : ws[q0]? = some (a, .inl (cA, n, .inl f))) (ht : tys[t0]? = some (cA, .short)) {i : Int32} (hout : ¬ vp_in i n) (hdg : decode cc pc = .ok (.saload, 1))
    (k : ∀ tx : String, tx = (toString "Index " ++ toString i ++ toString " out of bounds for length " ++ toString n : String) → vx_Note p l e R s m args below meth c H locs cells slots Q (F0 m pc ls rest) "java/lang/ArrayIndexOutOfBoundsException" tx) : W p l e R s m args below meth c H locs cells slots Q (F0 m pc ls (.int i :: .ref a :: rest)) := by
  intro T hT X
  obtain ⟨t, st, q⟩ := k _ rfl T hT X
  refine ⟨t, ?_, q⟩
  have h1 := X.saloadOut hexec (by rw [hT]; exact hP q0 _ ha) ((hK.2 t0 _ ht).1 n (fun j => .int (f j))) (j := i) (by show (i < 0 ∨ (arrV _ _ _).slots.size ≤ _); rw [arrV_size]; exact Classical.byContradiction hout) (g := F0 m pc ls (.int i :: .ref a :: rest)) rfl (rest := rest) rfl (by rw [hb]; exact hdg) t
  simp only [arrV_size] at h1
  exact h1 st
theorem vx_sastZ {D : va_G} {cl : List vw_C} {ws : va_W} {tys : List (ClassId × FieldType)} {a : Nat} (hexec : p.tables.exec = Jvm.exec) (hb : c.code = cc) (hK : va_K D cl tys s) (hP : va_P D cl ws H) (q0 t0 : Nat) {cA : ClassId} {n : Nat} {f : Nat → Int32} (ha : ws[q0]? = some (a, .inl (cA, n, .inl f))) (ht : tys[t0]? = some (cA, .short)) {i : Int32} {x : Int32} (hout : ¬ vp_in i n) (hdg : decode cc pc = .ok (.sastore, 1))
    (k : ∀ tx : String, tx = (toString "Index " ++ toString i ++ toString " out of bounds for length " ++ toString n : String) → vx_Note p l e R s m args below meth c H locs cells slots Q (F0 m pc ls rest) "java/lang/ArrayIndexOutOfBoundsException" tx) : W p l e R s m args below meth c H locs cells slots Q (F0 m pc ls (.int x :: .int i :: .ref a :: rest)) := by
  intro T hT X
  obtain ⟨t, st, q⟩ := k _ rfl T hT X
  refine ⟨t, ?_, q⟩
  have h1 := X.sastoreOut hexec (by rw [hT]; exact hP q0 _ ha) ((hK.2 t0 _ ht).1 n (fun j => .int (f j))) (j := i) (by show (i < 0 ∨ (arrV _ _ _).slots.size ≤ _); rw [arrV_size]; exact Classical.byContradiction hout) (g := F0 m pc ls (.int x :: .int i :: .ref a :: rest)) rfl (rest := rest) rfl (by rw [hb]; exact hdg) t
  simp only [arrV_size] at h1
  exact h1 st
theorem vx_laldZ {D : va_G} {cl : List vw_C} {ws : va_W} {tys : List (ClassId × FieldType)} {a : Nat} (hexec : p.tables.exec = Jvm.exec) (hb : c.code = cc) (hK : va_K D cl tys s) (hP : va_P D cl ws H) (q0 t0 : Nat) {cA : ClassId} {n : Nat} {f : Nat → Int64} (ha : ws[q0]? = some (a, .inl (cA, n, .inr (.inl f)))) (ht : tys[t0]? = some (cA, .long)) {i : Int32} (hout : ¬ vp_in i n) (hdg : decode cc pc = .ok (.laload, 1))
    (k : ∀ tx : String, tx = (toString "Index " ++ toString i ++ toString " out of bounds for length " ++ toString n : String) → vx_Note p l e R s m args below meth c H locs cells slots Q (F0 m pc ls rest) "java/lang/ArrayIndexOutOfBoundsException" tx) : W p l e R s m args below meth c H locs cells slots Q (F0 m pc ls (.int i :: .ref a :: rest)) := by
  intro T hT X
  obtain ⟨t, st, q⟩ := k _ rfl T hT X
  refine ⟨t, ?_, q⟩
  have h1 := X.laloadOut hexec (by rw [hT]; exact hP q0 _ ha) ((hK.2 t0 _ ht).1 n (fun j => .long (f j))) (j := i) (by show (i < 0 ∨ (arrV _ _ _).slots.size ≤ _); rw [arrV_size]; exact Classical.byContradiction hout) (g := F0 m pc ls (.int i :: .ref a :: rest)) rfl (rest := rest) rfl (by rw [hb]; exact hdg) t
  simp only [arrV_size] at h1
  exact h1 st
theorem vx_lastZ {D : va_G} {cl : List vw_C} {ws : va_W} {tys : List (ClassId × FieldType)} {a : Nat} (hexec : p.tables.exec = Jvm.exec) (hb : c.code = cc) (hK : va_K D cl tys s) (hP : va_P D cl ws H) (q0 t0 : Nat) {cA : ClassId} {n : Nat} {f : Nat → Int64} (ha : ws[q0]? = some (a, .inl (cA, n, .inr (.inl f)))) (ht : tys[t0]? = some (cA, .long)) {i : Int32} {x : Int64} (hout : ¬ vp_in i n) (hdg : decode cc pc = .ok (.lastore, 1))
    (k : ∀ tx : String, tx = (toString "Index " ++ toString i ++ toString " out of bounds for length " ++ toString n : String) → vx_Note p l e R s m args below meth c H locs cells slots Q (F0 m pc ls rest) "java/lang/ArrayIndexOutOfBoundsException" tx) : W p l e R s m args below meth c H locs cells slots Q (F0 m pc ls (.long x :: .int i :: .ref a :: rest)) := by
  intro T hT X
  obtain ⟨t, st, q⟩ := k _ rfl T hT X
  refine ⟨t, ?_, q⟩
  have h1 := X.lastoreOut hexec (by rw [hT]; exact hP q0 _ ha) ((hK.2 t0 _ ht).1 n (fun j => .long (f j))) (j := i) (by show (i < 0 ∨ (arrV _ _ _).slots.size ≤ _); rw [arrV_size]; exact Classical.byContradiction hout) (g := F0 m pc ls (.long x :: .int i :: .ref a :: rest)) rfl (rest := rest) rfl (by rw [hb]; exact hdg) t
  simp only [arrV_size] at h1
  exact h1 st
theorem vx_faldZ {D : va_G} {cl : List vw_C} {ws : va_W} {tys : List (ClassId × FieldType)} {a : Nat} (hexec : p.tables.exec = Jvm.exec) (hb : c.code = cc) (hK : va_K D cl tys s) (hP : va_P D cl ws H) (q0 t0 : Nat) {cA : ClassId} {n : Nat} {f : Nat → UInt32} (ha : ws[q0]? = some (a, .inl (cA, n, .inr (.inr (.inl f))))) (ht : tys[t0]? = some (cA, .float)) {i : Int32} (hout : ¬ vp_in i n) (hdg : decode cc pc = .ok (.faload, 1))
    (k : ∀ tx : String, tx = (toString "Index " ++ toString i ++ toString " out of bounds for length " ++ toString n : String) → vx_Note p l e R s m args below meth c H locs cells slots Q (F0 m pc ls rest) "java/lang/ArrayIndexOutOfBoundsException" tx) : W p l e R s m args below meth c H locs cells slots Q (F0 m pc ls (.int i :: .ref a :: rest)) := by
  intro T hT X
  obtain ⟨t, st, q⟩ := k _ rfl T hT X
  refine ⟨t, ?_, q⟩
  have h1 := X.faloadOut hexec (by rw [hT]; exact hP q0 _ ha) ((hK.2 t0 _ ht).1 n (fun j => .float (f j))) (j := i) (by show (i < 0 ∨ (arrV _ _ _).slots.size ≤ _); rw [arrV_size]; exact Classical.byContradiction hout) (g := F0 m pc ls (.int i :: .ref a :: rest)) rfl (rest := rest) rfl (by rw [hb]; exact hdg) t
  simp only [arrV_size] at h1
  exact h1 st
theorem vx_fastZ {D : va_G} {cl : List vw_C} {ws : va_W} {tys : List (ClassId × FieldType)} {a : Nat} (hexec : p.tables.exec = Jvm.exec) (hb : c.code = cc) (hK : va_K D cl tys s) (hP : va_P D cl ws H) (q0 t0 : Nat) {cA : ClassId} {n : Nat} {f : Nat → UInt32} (ha : ws[q0]? = some (a, .inl (cA, n, .inr (.inr (.inl f))))) (ht : tys[t0]? = some (cA, .float)) {i : Int32} {x : UInt32} (hout : ¬ vp_in i n) (hdg : decode cc pc = .ok (.fastore, 1))
    (k : ∀ tx : String, tx = (toString "Index " ++ toString i ++ toString " out of bounds for length " ++ toString n : String) → vx_Note p l e R s m args below meth c H locs cells slots Q (F0 m pc ls rest) "java/lang/ArrayIndexOutOfBoundsException" tx) : W p l e R s m args below meth c H locs cells slots Q (F0 m pc ls (.float x :: .int i :: .ref a :: rest)) := by
  intro T hT X
  obtain ⟨t, st, q⟩ := k _ rfl T hT X
  refine ⟨t, ?_, q⟩
  have h1 := X.fastoreOut hexec (by rw [hT]; exact hP q0 _ ha) ((hK.2 t0 _ ht).1 n (fun j => .float (f j))) (j := i) (by show (i < 0 ∨ (arrV _ _ _).slots.size ≤ _); rw [arrV_size]; exact Classical.byContradiction hout) (g := F0 m pc ls (.float x :: .int i :: .ref a :: rest)) rfl (rest := rest) rfl (by rw [hb]; exact hdg) t
  simp only [arrV_size] at h1
  exact h1 st
theorem vx_daldZ {D : va_G} {cl : List vw_C} {ws : va_W} {tys : List (ClassId × FieldType)} {a : Nat} (hexec : p.tables.exec = Jvm.exec) (hb : c.code = cc) (hK : va_K D cl tys s) (hP : va_P D cl ws H) (q0 t0 : Nat) {cA : ClassId} {n : Nat} {f : Nat → UInt64} (ha : ws[q0]? = some (a, .inl (cA, n, .inr (.inr (.inr (.inl f)))))) (ht : tys[t0]? = some (cA, .double)) {i : Int32} (hout : ¬ vp_in i n) (hdg : decode cc pc = .ok (.daload, 1))
    (k : ∀ tx : String, tx = (toString "Index " ++ toString i ++ toString " out of bounds for length " ++ toString n : String) → vx_Note p l e R s m args below meth c H locs cells slots Q (F0 m pc ls rest) "java/lang/ArrayIndexOutOfBoundsException" tx) : W p l e R s m args below meth c H locs cells slots Q (F0 m pc ls (.int i :: .ref a :: rest)) := by
  intro T hT X
  obtain ⟨t, st, q⟩ := k _ rfl T hT X
  refine ⟨t, ?_, q⟩
  have h1 := X.daloadOut hexec (by rw [hT]; exact hP q0 _ ha) ((hK.2 t0 _ ht).1 n (fun j => .double (f j))) (j := i) (by show (i < 0 ∨ (arrV _ _ _).slots.size ≤ _); rw [arrV_size]; exact Classical.byContradiction hout) (g := F0 m pc ls (.int i :: .ref a :: rest)) rfl (rest := rest) rfl (by rw [hb]; exact hdg) t
  simp only [arrV_size] at h1
  exact h1 st
theorem vx_dastZ {D : va_G} {cl : List vw_C} {ws : va_W} {tys : List (ClassId × FieldType)} {a : Nat} (hexec : p.tables.exec = Jvm.exec) (hb : c.code = cc) (hK : va_K D cl tys s) (hP : va_P D cl ws H) (q0 t0 : Nat) {cA : ClassId} {n : Nat} {f : Nat → UInt64} (ha : ws[q0]? = some (a, .inl (cA, n, .inr (.inr (.inr (.inl f)))))) (ht : tys[t0]? = some (cA, .double)) {i : Int32} {x : UInt64} (hout : ¬ vp_in i n) (hdg : decode cc pc = .ok (.dastore, 1))
    (k : ∀ tx : String, tx = (toString "Index " ++ toString i ++ toString " out of bounds for length " ++ toString n : String) → vx_Note p l e R s m args below meth c H locs cells slots Q (F0 m pc ls rest) "java/lang/ArrayIndexOutOfBoundsException" tx) : W p l e R s m args below meth c H locs cells slots Q (F0 m pc ls (.double x :: .int i :: .ref a :: rest)) := by
  intro T hT X
  obtain ⟨t, st, q⟩ := k _ rfl T hT X
  refine ⟨t, ?_, q⟩
  have h1 := X.dastoreOut hexec (by rw [hT]; exact hP q0 _ ha) ((hK.2 t0 _ ht).1 n (fun j => .double (f j))) (j := i) (by show (i < 0 ∨ (arrV _ _ _).slots.size ≤ _); rw [arrV_size]; exact Classical.byContradiction hout) (g := F0 m pc ls (.double x :: .int i :: .ref a :: rest)) rfl (rest := rest) rfl (by rw [hb]; exact hdg) t
  simp only [arrV_size] at h1
  exact h1 st
theorem vx_arraylengthN (hexec : p.tables.exec = Jvm.exec) (hb : c.code = cc) (hdg : decode cc pc = .ok (.arraylength, 1)) (k : vx_NoteN p l e R s m args below meth c H locs cells slots Q (F0 m pc ls rest)) : W p l e R s m args below meth c H locs cells slots Q (F0 m pc ls (.null :: rest)) := by
  intro T hT X
  obtain ⟨t, st, q⟩ := k T hT X
  exact ⟨t, X.arraylengthNull hexec (g := F0 m pc ls (.null :: rest)) rfl (rest := rest) rfl (by rw [hb]; exact hdg) t st, q⟩
theorem vx_ialoadN (hexec : p.tables.exec = Jvm.exec) (hb : c.code = cc) {i : Int32} (hdg : decode cc pc = .ok (.iaload, 1)) (k : vx_NoteN p l e R s m args below meth c H locs cells slots Q (F0 m pc ls rest)) : W p l e R s m args below meth c H locs cells slots Q (F0 m pc ls (.int i :: .null :: rest)) := by
  intro T hT X
  obtain ⟨t, st, q⟩ := k T hT X
  exact ⟨t, X.ialoadNull hexec (g := F0 m pc ls (.int i :: .null :: rest)) rfl (rest := rest) rfl (by rw [hb]; exact hdg) t st, q⟩
theorem vx_laloadN (hexec : p.tables.exec = Jvm.exec) (hb : c.code = cc) {i : Int32} (hdg : decode cc pc = .ok (.laload, 1)) (k : vx_NoteN p l e R s m args below meth c H locs cells slots Q (F0 m pc ls rest)) : W p l e R s m args below meth c H locs cells slots Q (F0 m pc ls (.int i :: .null :: rest)) := by
  intro T hT X
  obtain ⟨t, st, q⟩ := k T hT X
  exact ⟨t, X.laloadNull hexec (g := F0 m pc ls (.int i :: .null :: rest)) rfl (rest := rest) rfl (by rw [hb]; exact hdg) t st, q⟩
theorem vx_faloadN (hexec : p.tables.exec = Jvm.exec) (hb : c.code = cc) {i : Int32} (hdg : decode cc pc = .ok (.faload, 1)) (k : vx_NoteN p l e R s m args below meth c H locs cells slots Q (F0 m pc ls rest)) : W p l e R s m args below meth c H locs cells slots Q (F0 m pc ls (.int i :: .null :: rest)) := by
  intro T hT X
  obtain ⟨t, st, q⟩ := k T hT X
  exact ⟨t, X.faloadNull hexec (g := F0 m pc ls (.int i :: .null :: rest)) rfl (rest := rest) rfl (by rw [hb]; exact hdg) t st, q⟩
theorem vx_daloadN (hexec : p.tables.exec = Jvm.exec) (hb : c.code = cc) {i : Int32} (hdg : decode cc pc = .ok (.daload, 1)) (k : vx_NoteN p l e R s m args below meth c H locs cells slots Q (F0 m pc ls rest)) : W p l e R s m args below meth c H locs cells slots Q (F0 m pc ls (.int i :: .null :: rest)) := by
  intro T hT X
  obtain ⟨t, st, q⟩ := k T hT X
  exact ⟨t, X.daloadNull hexec (g := F0 m pc ls (.int i :: .null :: rest)) rfl (rest := rest) rfl (by rw [hb]; exact hdg) t st, q⟩
theorem vx_aaloadN (hexec : p.tables.exec = Jvm.exec) (hb : c.code = cc) {i : Int32} (hdg : decode cc pc = .ok (.aaload, 1)) (k : vx_NoteN p l e R s m args below meth c H locs cells slots Q (F0 m pc ls rest)) : W p l e R s m args below meth c H locs cells slots Q (F0 m pc ls (.int i :: .null :: rest)) := by
  intro T hT X
  obtain ⟨t, st, q⟩ := k T hT X
  exact ⟨t, X.aaloadNull hexec (g := F0 m pc ls (.int i :: .null :: rest)) rfl (rest := rest) rfl (by rw [hb]; exact hdg) t st, q⟩
theorem vx_baloadN (hexec : p.tables.exec = Jvm.exec) (hb : c.code = cc) {i : Int32} (hdg : decode cc pc = .ok (.baload, 1)) (k : vx_NoteN p l e R s m args below meth c H locs cells slots Q (F0 m pc ls rest)) : W p l e R s m args below meth c H locs cells slots Q (F0 m pc ls (.int i :: .null :: rest)) := by
  intro T hT X
  obtain ⟨t, st, q⟩ := k T hT X
  exact ⟨t, X.baloadNull hexec (g := F0 m pc ls (.int i :: .null :: rest)) rfl (rest := rest) rfl (by rw [hb]; exact hdg) t st, q⟩
theorem vx_caloadN (hexec : p.tables.exec = Jvm.exec) (hb : c.code = cc) {i : Int32} (hdg : decode cc pc = .ok (.caload, 1)) (k : vx_NoteN p l e R s m args below meth c H locs cells slots Q (F0 m pc ls rest)) : W p l e R s m args below meth c H locs cells slots Q (F0 m pc ls (.int i :: .null :: rest)) := by
  intro T hT X
  obtain ⟨t, st, q⟩ := k T hT X
  exact ⟨t, X.caloadNull hexec (g := F0 m pc ls (.int i :: .null :: rest)) rfl (rest := rest) rfl (by rw [hb]; exact hdg) t st, q⟩
theorem vx_saloadN (hexec : p.tables.exec = Jvm.exec) (hb : c.code = cc) {i : Int32} (hdg : decode cc pc = .ok (.saload, 1)) (k : vx_NoteN p l e R s m args below meth c H locs cells slots Q (F0 m pc ls rest)) : W p l e R s m args below meth c H locs cells slots Q (F0 m pc ls (.int i :: .null :: rest)) := by
  intro T hT X
  obtain ⟨t, st, q⟩ := k T hT X
  exact ⟨t, X.saloadNull hexec (g := F0 m pc ls (.int i :: .null :: rest)) rfl (rest := rest) rfl (by rw [hb]; exact hdg) t st, q⟩
theorem vx_iastoreN (hexec : p.tables.exec = Jvm.exec) (hb : c.code = cc) {x : Int32} {i : Int32} (hdg : decode cc pc = .ok (.iastore, 1)) (k : vx_NoteN p l e R s m args below meth c H locs cells slots Q (F0 m pc ls rest)) : W p l e R s m args below meth c H locs cells slots Q (F0 m pc ls (.int x :: .int i :: .null :: rest)) := by
  intro T hT X
  obtain ⟨t, st, q⟩ := k T hT X
  exact ⟨t, X.iastoreNull hexec (g := F0 m pc ls (.int x :: .int i :: .null :: rest)) rfl (rest := rest) rfl (by rw [hb]; exact hdg) t st, q⟩
theorem vx_lastoreN (hexec : p.tables.exec = Jvm.exec) (hb : c.code = cc) {x : Int64} {i : Int32} (hdg : decode cc pc = .ok (.lastore, 1)) (k : vx_NoteN p l e R s m args below meth c H locs cells slots Q (F0 m pc ls rest)) : W p l e R s m args below meth c H locs cells slots Q (F0 m pc ls (.long x :: .int i :: .null :: rest)) := by
  intro T hT X
  obtain ⟨t, st, q⟩ := k T hT X
  exact ⟨t, X.lastoreNull hexec (g := F0 m pc ls (.long x :: .int i :: .null :: rest)) rfl (rest := rest) rfl (by rw [hb]; exact hdg) t st, q⟩
theorem vx_fastoreN (hexec : p.tables.exec = Jvm.exec) (hb : c.code = cc) {x : UInt32} {i : Int32} (hdg : decode cc pc = .ok (.fastore, 1)) (k : vx_NoteN p l e R s m args below meth c H locs cells slots Q (F0 m pc ls rest)) : W p l e R s m args below meth c H locs cells slots Q (F0 m pc ls (.float x :: .int i :: .null :: rest)) := by
  intro T hT X
  obtain ⟨t, st, q⟩ := k T hT X
  exact ⟨t, X.fastoreNull hexec (g := F0 m pc ls (.float x :: .int i :: .null :: rest)) rfl (rest := rest) rfl (by rw [hb]; exact hdg) t st, q⟩
theorem vx_dastoreN (hexec : p.tables.exec = Jvm.exec) (hb : c.code = cc) {x : UInt64} {i : Int32} (hdg : decode cc pc = .ok (.dastore, 1)) (k : vx_NoteN p l e R s m args below meth c H locs cells slots Q (F0 m pc ls rest)) : W p l e R s m args below meth c H locs cells slots Q (F0 m pc ls (.double x :: .int i :: .null :: rest)) := by
  intro T hT X
  obtain ⟨t, st, q⟩ := k T hT X
  exact ⟨t, X.dastoreNull hexec (g := F0 m pc ls (.double x :: .int i :: .null :: rest)) rfl (rest := rest) rfl (by rw [hb]; exact hdg) t st, q⟩
theorem vx_bastoreN (hexec : p.tables.exec = Jvm.exec) (hb : c.code = cc) {x : Int32} {i : Int32} (hdg : decode cc pc = .ok (.bastore, 1)) (k : vx_NoteN p l e R s m args below meth c H locs cells slots Q (F0 m pc ls rest)) : W p l e R s m args below meth c H locs cells slots Q (F0 m pc ls (.int x :: .int i :: .null :: rest)) := by
  intro T hT X
  obtain ⟨t, st, q⟩ := k T hT X
  exact ⟨t, X.bastoreNull hexec (g := F0 m pc ls (.int x :: .int i :: .null :: rest)) rfl (rest := rest) rfl (by rw [hb]; exact hdg) t st, q⟩
theorem vx_castoreN (hexec : p.tables.exec = Jvm.exec) (hb : c.code = cc) {x : Int32} {i : Int32} (hdg : decode cc pc = .ok (.castore, 1)) (k : vx_NoteN p l e R s m args below meth c H locs cells slots Q (F0 m pc ls rest)) : W p l e R s m args below meth c H locs cells slots Q (F0 m pc ls (.int x :: .int i :: .null :: rest)) := by
  intro T hT X
  obtain ⟨t, st, q⟩ := k T hT X
  exact ⟨t, X.castoreNull hexec (g := F0 m pc ls (.int x :: .int i :: .null :: rest)) rfl (rest := rest) rfl (by rw [hb]; exact hdg) t st, q⟩
theorem vx_sastoreN (hexec : p.tables.exec = Jvm.exec) (hb : c.code = cc) {x : Int32} {i : Int32} (hdg : decode cc pc = .ok (.sastore, 1)) (k : vx_NoteN p l e R s m args below meth c H locs cells slots Q (F0 m pc ls rest)) : W p l e R s m args below meth c H locs cells slots Q (F0 m pc ls (.int x :: .int i :: .null :: rest)) := by
  intro T hT X
  obtain ⟨t, st, q⟩ := k T hT X
  exact ⟨t, X.sastoreNull hexec (g := F0 m pc ls (.int x :: .int i :: .null :: rest)) rfl (rest := rest) rfl (by rw [hb]; exact hdg) t st, q⟩
theorem vx_invokeN {own C : String} {index maxL : Nat} {y : MethodName} {bytes : ByteArray} {ret : Option FieldType} (hexec : p.tables.exec = Jvm.exec) (hb : c.code = cc) (hown : s.vm.findClass own = some m.cls) (hlink : (Cond.methodLink own index y).before args s = true) (hinst : (Cond.instanceMethod y).before args s = true) (hcode : (Cond.code y bytes maxL ret).before args s = true) (hsel : (Cond.selects C y y).before args s = true)
    (hx : y.cls ≠ "java/lang/invoke/MethodHandle" ∧ y.cls ≠ "java/lang/invoke/VarHandle") {As : List Value} (hlen : (parseMethodDescriptor y.desc).map (fun d => d.parameters.length) = some As.length) (hdg : decode cc pc = .ok (.invokevirtual index, 3))
    (k : vx_NoteN p l e R s m args below meth c H locs cells slots Q (F0 m pc ls rest)) {st0 : List Value} (hst : st0 = As.reverse ++ .null :: rest) : W p l e R s m args below meth c H locs cells slots Q (F0 m pc ls st0) := by
  intro T hT X
  obtain ⟨r0, r, hn, hrm, hstR, hsigR⟩ := va_Decl.of hinst hcode
  obtain ⟨c2, r2, m2, q1, q2, q3, q4, kP, hkP, hkPi⟩ := Cond.selects_spec hsel
  cases hn.symm.trans q3
  have hl9 : As.length = r.sig.parameters.length := by
    rw [hsigR] at hlen
    exact (Option.some.inj hlen).symm
  obtain ⟨vm', X1, st1⟩ := X.invokevirtualNull hexec hown hlink hn hrm hstR hkP hkPi hx (g := F0 m pc ls st0) rfl (argsL := As) (rest := rest) hl9 hst (by rw [hb]; exact hdg)
  obtain ⟨t, st, q⟩ := k (T.setVm vm') hT X1
  exact ⟨t, st1 t st, q⟩
theorem vx_newarrayZ {atype : ArrayType} (hexec : p.tables.exec = Jvm.exec) (hb : c.code = cc) {n : Int32} (h0 : n < 0) (hdg : decode cc pc = .ok (.newarray atype, 2)) (k : ∀ tx : String, tx = toString n → vx_Note p l e R s m args below meth c H locs cells slots Q (F0 m pc ls rest) "java/lang/NegativeArraySizeException" tx) : W p l e R s m args below meth c H locs cells slots Q (F0 m pc ls (.int n :: rest)) := by
  intro T hT X
  obtain ⟨t, st, q⟩ := k _ rfl T hT X
  exact ⟨t, X.newarrayNegative hexec (g := F0 m pc ls (.int n :: rest)) rfl h0 (rest := rest) rfl (by rw [hb]; exact hdg) t st, q⟩
end
end VXM
/-! ===== END ===== -/
end
section
/-! ===== BEGIN printed: names, fields, word lists, decode rows ===== -/
def RX0 : String := "BuddyBlockScheduler$Cluster"
def TX0 : u_T := fun k => match k with
  | 0 => ("BuddyBlockScheduler$Cluster", "timetable", "LBuddyBlockScheduler$Timetable;", true)
  | 1 => ("BuddyBlockScheduler$Cluster", "jobs", "LBuddyBlockScheduler$Jobs;", true)
  | 2 => ("BuddyBlockScheduler$Cluster", "log", "LBuddyBlockScheduler$EventLog;", true)
  | 3 => ("BuddyBlockScheduler$Cluster", "starts", "[I", true)
  | 4 => ("BuddyBlockScheduler$Cluster", "now", "I", false)
  | 5 => ("BuddyBlockScheduler$Cluster", "reservationCount", "I", false)
  | 6 => ("BuddyBlockScheduler$Cluster", "fair", "Z", false)
  | 7 => ("BuddyBlockScheduler$Cluster", "queue", "[I", true)
  | _ => ("BuddyBlockScheduler$Cluster", "usageBefore", "[I", true)
def tyX0 : Nat → FieldType := fun k => match k with
  | 0 => .object "BuddyBlockScheduler$Timetable"
  | 1 => .object "BuddyBlockScheduler$Jobs"
  | 2 => .object "BuddyBlockScheduler$EventLog"
  | 3 => .array .int
  | 4 => .int
  | 5 => .int
  | 6 => .boolean
  | 7 => .array .int
  | _ => .array .int
abbrev wsX00 : List Cond := u_ws RX0 TX0 9
theorem nmX0 : ∀ a, a < 9 → ∀ b, b < 9 → a ≠ b → (TX0 a).2.1 ≠ (TX0 b).2.1 := by decide +kernel
theorem tyX0_ok : ∀ k, k < 9 → parseFieldDescriptor (TX0 k).2.2.1 = some (tyX0 k) := by decide +kernel
abbrev cX0_init : ByteArray := prog_2_method_1_code
def yX0_init : MethodName := ⟨RX0, "<init>", "()V"⟩
abbrev cX0_addJob : ByteArray := prog_2_method_2_code
def yX0_addJob : MethodName := ⟨RX0, "addJob", "(IIII)I"⟩
abbrev cX0_dropJob : ByteArray := prog_2_method_3_code
def yX0_dropJob : MethodName := ⟨RX0, "dropJob", "(I)V"⟩
abbrev cX0_interrupt : ByteArray := prog_2_method_4_code
def yX0_interrupt : MethodName := ⟨RX0, "interrupt", "(II)I"⟩
abbrev cX0_addReservation : ByteArray := prog_2_method_5_code
def yX0_addReservation : MethodName := ⟨RX0, "addReservation", "(III)I"⟩
abbrev cX0_dropReservation : ByteArray := prog_2_method_6_code
def yX0_dropReservation : MethodName := ⟨RX0, "dropReservation", "(I)V"⟩
abbrev cX0_tick : ByteArray := prog_2_method_7_code
def yX0_tick : MethodName := ⟨RX0, "tick", "()I"⟩
abbrev cX0_finishJobs : ByteArray := prog_2_method_8_code
def yX0_finishJobs : MethodName := ⟨RX0, "finishJobs", "()I"⟩
abbrev cX0_startJobs : ByteArray := prog_2_method_9_code
def yX0_startJobs : MethodName := ⟨RX0, "startJobs", "()V"⟩
abbrev cX0_endRun : ByteArray := prog_2_method_10_code
def yX0_endRun : MethodName := ⟨RX0, "endRun", "(II)V"⟩
abbrev cX0_unitsUpToNow : ByteArray := prog_2_method_11_code
def yX0_unitsUpToNow : MethodName := ⟨RX0, "unitsUpToNow", "(I)I"⟩
abbrev cX0_usageOfUser : ByteArray := prog_2_method_12_code
def yX0_usageOfUser : MethodName := ⟨RX0, "usageOfUser", "(I)I"⟩
abbrev cX0_plan : ByteArray := prog_2_method_13_code
def yX0_plan : MethodName := ⟨RX0, "plan", "(I)I"⟩
abbrev cX0_replan : ByteArray := prog_2_method_14_code
def yX0_replan : MethodName := ⟨RX0, "replan", "()V"⟩
abbrev cX0_queueWaiting : ByteArray := prog_2_method_15_code
def yX0_queueWaiting : MethodName := ⟨RX0, "queueWaiting", "()I"⟩
abbrev cX0_insertIntoQueue : ByteArray := prog_2_method_16_code
def yX0_insertIntoQueue : MethodName := ⟨RX0, "insertIntoQueue", "(II)V"⟩
abbrev cX0_goesBefore : ByteArray := prog_2_method_17_code
def yX0_goesBefore : MethodName := ⟨RX0, "goesBefore", "(II)Z"⟩
abbrev cX0_copyFrom : ByteArray := prog_2_method_18_code
def yX0_copyFrom : MethodName := ⟨RX0, "copyFrom", "(LBuddyBlockScheduler$Cluster;)V"⟩
def RX1 : String := "BuddyBlockScheduler$EventLog"
def TX1 : u_T := fun k => match k with
  | 0 => ("BuddyBlockScheduler$EventLog", "count", "I", false)
  | 1 => ("BuddyBlockScheduler$EventLog", "oldest", "I", false)
  | 2 => ("BuddyBlockScheduler$EventLog", "time", "[I", true)
  | 3 => ("BuddyBlockScheduler$EventLog", "kind", "[I", true)
  | _ => ("BuddyBlockScheduler$EventLog", "job", "[I", true)
def tyX1 : Nat → FieldType := fun k => match k with
  | 0 => .int
  | 1 => .int
  | 2 => .array .int
  | 3 => .array .int
  | _ => .array .int
abbrev wsX10 : List Cond := u_ws RX1 TX1 5
theorem nmX1 : ∀ a, a < 5 → ∀ b, b < 5 → a ≠ b → (TX1 a).2.1 ≠ (TX1 b).2.1 := by decide +kernel
theorem tyX1_ok : ∀ k, k < 5 → parseFieldDescriptor (TX1 k).2.2.1 = some (tyX1 k) := by decide +kernel
abbrev cX1_init : ByteArray := prog_3_method_1_code
def yX1_init : MethodName := ⟨RX1, "<init>", "()V"⟩
abbrev cX1_note : ByteArray := prog_3_method_2_code
def yX1_note : MethodName := ⟨RX1, "note", "(III)V"⟩
abbrev cX1_entry : ByteArray := prog_3_method_3_code
def yX1_entry : MethodName := ⟨RX1, "entry", "(II)I"⟩
abbrev cX1_copyFrom : ByteArray := prog_3_method_4_code
def yX1_copyFrom : MethodName := ⟨RX1, "copyFrom", "(LBuddyBlockScheduler$EventLog;)V"⟩
def RX2 : String := "BuddyBlockScheduler$Jobs"
def TX2 : u_T := fun k => match k with
  | 0 => ("BuddyBlockScheduler$Jobs", "count", "I", false)
  | 1 => ("BuddyBlockScheduler$Jobs", "user", "[I", true)
  | 2 => ("BuddyBlockScheduler$Jobs", "order", "[I", true)
  | 3 => ("BuddyBlockScheduler$Jobs", "estimate", "[I", true)
  | 4 => ("BuddyBlockScheduler$Jobs", "run", "[I", true)
  | 5 => ("BuddyBlockScheduler$Jobs", "status", "[I", true)
  | 6 => ("BuddyBlockScheduler$Jobs", "submittedRun", "[I", true)
  | 7 => ("BuddyBlockScheduler$Jobs", "submittedAt", "[I", true)
  | 8 => ("BuddyBlockScheduler$Jobs", "promised", "[I", true)
  | 9 => ("BuddyBlockScheduler$Jobs", "firstStartedAt", "[I", true)
  | 10 => ("BuddyBlockScheduler$Jobs", "finishedAt", "[I", true)
  | 11 => ("BuddyBlockScheduler$Jobs", "interruptions", "[I", true)
  | _ => ("BuddyBlockScheduler$Jobs", "unitsRun", "[I", true)
def tyX2 : Nat → FieldType := fun k => match k with
  | 0 => .int
  | 1 => .array .int
  | 2 => .array .int
  | 3 => .array .int
  | 4 => .array .int
  | 5 => .array .int
  | 6 => .array .int
  | 7 => .array .int
  | 8 => .array .int
  | 9 => .array .int
  | 10 => .array .int
  | 11 => .array .int
  | _ => .array .int
abbrev wsX20 : List Cond := u_ws RX2 TX2 13
theorem nmX2 : ∀ a, a < 13 → ∀ b, b < 13 → a ≠ b → (TX2 a).2.1 ≠ (TX2 b).2.1 := by decide +kernel
theorem tyX2_ok : ∀ k, k < 13 → parseFieldDescriptor (TX2 k).2.2.1 = some (tyX2 k) := by decide +kernel
abbrev cX2_init : ByteArray := prog_4_method_1_code
def yX2_init : MethodName := ⟨RX2, "<init>", "()V"⟩
abbrev cX2_wasStarted : ByteArray := prog_4_method_2_code
def yX2_wasStarted : MethodName := ⟨RX2, "wasStarted", "(I)Z"⟩
abbrev cX2_waited : ByteArray := prog_4_method_3_code
def yX2_waited : MethodName := ⟨RX2, "waited", "(I)I"⟩
abbrev cX2_append : ByteArray := prog_4_method_4_code
def yX2_append : MethodName := ⟨RX2, "append", "(IIIII)I"⟩
abbrev cX2_copyFrom : ByteArray := prog_4_method_5_code
def yX2_copyFrom : MethodName := ⟨RX2, "copyFrom", "(LBuddyBlockScheduler$Jobs;)V"⟩
def RX3 : String := "BuddyBlockScheduler$Timetable"
def TX3 : u_T := fun k => match k with
  | 0 => ("BuddyBlockScheduler$Timetable", "mask", "[I", true)
  | 1 => ("BuddyBlockScheduler$Timetable", "first", "[I", true)
  | 2 => ("BuddyBlockScheduler$Timetable", "from", "[I", true)
  | _ => ("BuddyBlockScheduler$Timetable", "until", "[I", true)
def tyX3 : Nat → FieldType := fun k => match k with
  | 0 => .array .int
  | 1 => .array .int
  | 2 => .array .int
  | _ => .array .int
abbrev wsX30 : List Cond := u_ws RX3 TX3 4
theorem nmX3 : ∀ a, a < 4 → ∀ b, b < 4 → a ≠ b → (TX3 a).2.1 ≠ (TX3 b).2.1 := by decide +kernel
theorem tyX3_ok : ∀ k, k < 4 → parseFieldDescriptor (TX3 k).2.2.1 = some (tyX3 k) := by decide +kernel
abbrev cX3_init : ByteArray := prog_5_method_1_code
def yX3_init : MethodName := ⟨RX3, "<init>", "()V"⟩
abbrev cX3_give : ByteArray := prog_5_method_2_code
def yX3_give : MethodName := ⟨RX3, "give", "(IIIII)V"⟩
abbrev cX3_clearSlot : ByteArray := prog_5_method_3_code
def yX3_clearSlot : MethodName := ⟨RX3, "clearSlot", "(I)V"⟩
abbrev cX3_isUsed : ByteArray := prog_5_method_4_code
def yX3_isUsed : MethodName := ⟨RX3, "isUsed", "(I)Z"⟩
abbrev cX3_takenIn : ByteArray := prog_5_method_5_code
def yX3_takenIn : MethodName := ⟨RX3, "takenIn", "(II)I"⟩
abbrev cX3_lowestFree : ByteArray := prog_5_method_6_code
def yX3_lowestFree : MethodName := ⟨RX3, "lowestFree", "(III)I"⟩
abbrev cX3_earliest : ByteArray := prog_5_method_7_code
def yX3_earliest : MethodName := ⟨RX3, "earliest", "(III)I"⟩
abbrev cX3_nextEnd : ByteArray := prog_5_method_8_code
def yX3_nextEnd : MethodName := ⟨RX3, "nextEnd", "(I)I"⟩
abbrev cX3_slotAt : ByteArray := prog_5_method_9_code
def yX3_slotAt : MethodName := ⟨RX3, "slotAt", "(II)I"⟩
abbrev cX3_endOfJobs : ByteArray := prog_5_method_10_code
def yX3_endOfJobs : MethodName := ⟨RX3, "endOfJobs", "()I"⟩
abbrev cX3_copyFrom : ByteArray := prog_5_method_11_code
def yX3_copyFrom : MethodName := ⟨RX3, "copyFrom", "(LBuddyBlockScheduler$Timetable;)V"⟩
def RX4 : String := "BuddyBlockScheduler"
def TX4 : u_T := fun k => match k with
  | 0 => ("BuddyBlockScheduler", "cluster", "LBuddyBlockScheduler$Cluster;", true)
  | 1 => ("BuddyBlockScheduler", "kept", "LBuddyBlockScheduler$Cluster;", true)
  | 2 => ("BuddyBlockScheduler", "somethingKept", "Z", false)
  | _ => ("BuddyBlockScheduler", "refusalReason", "I", false)
def tyX4 : Nat → FieldType := fun k => match k with
  | 0 => .object "BuddyBlockScheduler$Cluster"
  | 1 => .object "BuddyBlockScheduler$Cluster"
  | 2 => .boolean
  | _ => .int
abbrev wsX40 : List Cond := u_ws RX4 TX4 4
theorem nmX4 : ∀ a, a < 4 → ∀ b, b < 4 → a ≠ b → (TX4 a).2.1 ≠ (TX4 b).2.1 := by decide +kernel
theorem tyX4_ok : ∀ k, k < 4 → parseFieldDescriptor (TX4 k).2.2.1 = some (tyX4 k) := by decide +kernel
abbrev cX4_init : ByteArray := prog_1_method_1_code
def yX4_init : MethodName := ⟨RX4, "<init>", "()V"⟩
abbrev cX4_submit : ByteArray := prog_1_method_2_code
def yX4_submit : MethodName := ⟨RX4, "submit", "(IIII)I"⟩
abbrev cX4_advance : ByteArray := prog_1_method_3_code
def yX4_advance : MethodName := ⟨RX4, "advance", "(I)I"⟩
abbrev cX4_cancel : ByteArray := prog_1_method_4_code
def yX4_cancel : MethodName := ⟨RX4, "cancel", "(I)I"⟩
abbrev cX4_preempt : ByteArray := prog_1_method_5_code
def yX4_preempt : MethodName := ⟨RX4, "preempt", "(II)I"⟩
abbrev cX4_reserve : ByteArray := prog_1_method_6_code
def yX4_reserve : MethodName := ⟨RX4, "reserve", "(III)I"⟩
abbrev cX4_refusal : ByteArray := prog_1_method_7_code
def yX4_refusal : MethodName := ⟨RX4, "refusal", "()I"⟩
abbrev cX4_cancelReservation : ByteArray := prog_1_method_8_code
def yX4_cancelReservation : MethodName := ⟨RX4, "cancelReservation", "(I)V"⟩
abbrev cX4_reservedProcessor : ByteArray := prog_1_method_9_code
def yX4_reservedProcessor : MethodName := ⟨RX4, "reservedProcessor", "(I)I"⟩
abbrev cX4_setFair : ByteArray := prog_1_method_10_code
def yX4_setFair : MethodName := ⟨RX4, "setFair", "(Z)Z"⟩
abbrev cX4_clock : ByteArray := prog_1_method_11_code
def yX4_clock : MethodName := ⟨RX4, "clock", "()I"⟩
abbrev cX4_jobCount : ByteArray := prog_1_method_12_code
def yX4_jobCount : MethodName := ⟨RX4, "jobCount", "()I"⟩
abbrev cX4_state : ByteArray := prog_1_method_13_code
def yX4_state : MethodName := ⟨RX4, "state", "(I)I"⟩
abbrev cX4_startTime : ByteArray := prog_1_method_14_code
def yX4_startTime : MethodName := ⟨RX4, "startTime", "(I)I"⟩
abbrev cX4_firstProcessor : ByteArray := prog_1_method_15_code
def yX4_firstProcessor : MethodName := ⟨RX4, "firstProcessor", "(I)I"⟩
abbrev cX4_promise : ByteArray := prog_1_method_16_code
def yX4_promise : MethodName := ⟨RX4, "promise", "(I)I"⟩
abbrev cX4_finishTime : ByteArray := prog_1_method_17_code
def yX4_finishTime : MethodName := ⟨RX4, "finishTime", "(I)I"⟩
abbrev cX4_preemptions : ByteArray := prog_1_method_18_code
def yX4_preemptions : MethodName := ⟨RX4, "preemptions", "(I)I"⟩
abbrev cX4_waitTime : ByteArray := prog_1_method_19_code
def yX4_waitTime : MethodName := ⟨RX4, "waitTime", "(I)I"⟩
abbrev cX4_averageWait : ByteArray := prog_1_method_20_code
def yX4_averageWait : MethodName := ⟨RX4, "averageWait", "()D"⟩
abbrev cX4_slowdown : ByteArray := prog_1_method_21_code
def yX4_slowdown : MethodName := ⟨RX4, "slowdown", "(I)F"⟩
abbrev cX4_usage : ByteArray := prog_1_method_22_code
def yX4_usage : MethodName := ⟨RX4, "usage", "(I)I"⟩
abbrev cX4_utilization : ByteArray := prog_1_method_23_code
def yX4_utilization : MethodName := ⟨RX4, "utilization", "()D"⟩
abbrev cX4_makespan : ByteArray := prog_1_method_24_code
def yX4_makespan : MethodName := ⟨RX4, "makespan", "()I"⟩
abbrev cX4_ownerAt : ByteArray := prog_1_method_25_code
def yX4_ownerAt : MethodName := ⟨RX4, "ownerAt", "(II)I"⟩
abbrev cX4_freeProcessors : ByteArray := prog_1_method_26_code
def yX4_freeProcessors : MethodName := ⟨RX4, "freeProcessors", "(I)I"⟩
abbrev cX4_freeBlocks : ByteArray := prog_1_method_27_code
def yX4_freeBlocks : MethodName := ⟨RX4, "freeBlocks", "(I)I"⟩
abbrev cX4_largestFree : ByteArray := prog_1_method_28_code
def yX4_largestFree : MethodName := ⟨RX4, "largestFree", "()I"⟩
abbrev cX4_fragmentation : ByteArray := prog_1_method_29_code
def yX4_fragmentation : MethodName := ⟨RX4, "fragmentation", "()D"⟩
abbrev cX4_earliestStart : ByteArray := prog_1_method_30_code
def yX4_earliestStart : MethodName := ⟨RX4, "earliestStart", "(II)I"⟩
abbrev cX4_lowestBlock : ByteArray := prog_1_method_31_code
def yX4_lowestBlock : MethodName := ⟨RX4, "lowestBlock", "(III)I"⟩
abbrev cX4_blockStarts : ByteArray := prog_1_method_32_code
def yX4_blockStarts : MethodName := ⟨RX4, "blockStarts", "(II)I"⟩
abbrev cX4_busiestBlock : ByteArray := prog_1_method_33_code
def yX4_busiestBlock : MethodName := ⟨RX4, "busiestBlock", "()I"⟩
abbrev cX4_eventCount : ByteArray := prog_1_method_34_code
def yX4_eventCount : MethodName := ⟨RX4, "eventCount", "()I"⟩
abbrev cX4_event : ByteArray := prog_1_method_35_code
def yX4_event : MethodName := ⟨RX4, "event", "(II)I"⟩
abbrev cX4_save : ByteArray := prog_1_method_36_code
def yX4_save : MethodName := ⟨RX4, "save", "()V"⟩
abbrev cX4_restore : ByteArray := prog_1_method_37_code
def yX4_restore : MethodName := ⟨RX4, "restore", "()I"⟩
abbrev cX4_checkJob : ByteArray := prog_1_method_38_code
def yX4_checkJob : MethodName := ⟨RX4, "checkJob", "(I)V"⟩
abbrev cX4_checkAllocated : ByteArray := prog_1_method_39_code
def yX4_checkAllocated : MethodName := ⟨RX4, "checkAllocated", "(I)V"⟩
abbrev cX4_checkFinished : ByteArray := prog_1_method_40_code
def yX4_checkFinished : MethodName := ⟨RX4, "checkFinished", "(I)V"⟩
abbrev cX4_checkReservation : ByteArray := prog_1_method_41_code
def yX4_checkReservation : MethodName := ⟨RX4, "checkReservation", "(I)V"⟩
abbrev cX4_checkInterval : ByteArray := prog_1_method_42_code
def yX4_checkInterval : MethodName := ⟨RX4, "checkInterval", "(III)V"⟩
abbrev cX4_reasonToRefuse : ByteArray := prog_1_method_43_code
def yX4_reasonToRefuse : MethodName := ⟨RX4, "reasonToRefuse", "(III)I"⟩
abbrev cX4_takenNow : ByteArray := prog_1_method_44_code
def yX4_takenNow : MethodName := ⟨RX4, "takenNow", "()I"⟩
abbrev cX4_isUser : ByteArray := prog_1_method_45_code
def yX4_isUser : MethodName := ⟨RX4, "isUser", "(I)Z"⟩
abbrev cX4_isOrder : ByteArray := prog_1_method_46_code
def yX4_isOrder : MethodName := ⟨RX4, "isOrder", "(I)Z"⟩
abbrev cX4_isLength : ByteArray := prog_1_method_47_code
def yX4_isLength : MethodName := ⟨RX4, "isLength", "(I)Z"⟩
abbrev cX4_isBlock : ByteArray := prog_1_method_48_code
def yX4_isBlock : MethodName := ⟨RX4, "isBlock", "(II)Z"⟩
abbrev cX4_blockMask : ByteArray := prog_1_method_49_code
def yX4_blockMask : MethodName := ⟨RX4, "blockMask", "(II)I"⟩
abbrev cX4_blockIndex : ByteArray := prog_1_method_50_code
def yX4_blockIndex : MethodName := ⟨RX4, "blockIndex", "(II)I"⟩
abbrev cX4_isClear : ByteArray := prog_1_method_51_code
def yX4_isClear : MethodName := ⟨RX4, "isClear", "(III)Z"⟩
abbrev cX4_lowestClear : ByteArray := prog_1_method_52_code
def yX4_lowestClear : MethodName := ⟨RX4, "lowestClear", "(II)I"⟩
abbrev cX4_largestClearOrder : ByteArray := prog_1_method_53_code
def yX4_largestClearOrder : MethodName := ⟨RX4, "largestClearOrder", "(I)I"⟩
def RX5 : String := "BuddyBlockSchedulerModel"
def TX5 : u_T := fun k => match k with
  | 0 => ("BuddyBlockSchedulerModel", "a", "[I", true)
  | 1 => ("BuddyBlockSchedulerModel", "saved", "[I", true)
  | 2 => ("BuddyBlockSchedulerModel", "isSaved", "Z", false)
  | 3 => ("BuddyBlockSchedulerModel", "refused", "I", false)
  | 4 => ("BuddyBlockSchedulerModel", "thrown", "I", false)
  | 5 => ("BuddyBlockSchedulerModel", "line", "[I", true)
  | _ => ("BuddyBlockSchedulerModel", "usages", "[I", true)
def tyX5 : Nat → FieldType := fun k => match k with
  | 0 => .array .int
  | 1 => .array .int
  | 2 => .boolean
  | 3 => .int
  | 4 => .int
  | 5 => .array .int
  | _ => .array .int
abbrev wsX50 : List Cond := u_ws RX5 TX5 7
theorem nmX5 : ∀ a, a < 7 → ∀ b, b < 7 → a ≠ b → (TX5 a).2.1 ≠ (TX5 b).2.1 := by decide +kernel
theorem tyX5_ok : ∀ k, k < 7 → parseFieldDescriptor (TX5 k).2.2.1 = some (tyX5 k) := by decide +kernel
abbrev cX5_init : ByteArray := prog_7_method_1_code
def yX5_init : MethodName := ⟨RX5, "<init>", "()V"⟩
abbrev cX5_thrown : ByteArray := prog_7_method_2_code
def yX5_thrown : MethodName := ⟨RX5, "thrown", "()I"⟩
abbrev cX5_in : ByteArray := prog_7_method_3_code
def yX5_in : MethodName := ⟨RX5, "in", "(III)Z"⟩
abbrev cX5_raises : ByteArray := prog_7_method_4_code
def yX5_raises : MethodName := ⟨RX5, "raises", "(I)I"⟩
abbrev cX5_of : ByteArray := prog_7_method_5_code
def yX5_of : MethodName := ⟨RX5, "of", "(II)I"⟩
abbrev cX5_put : ByteArray := prog_7_method_6_code
def yX5_put : MethodName := ⟨RX5, "put", "(III)V"⟩
abbrev cX5_reserved : ByteArray := prog_7_method_7_code
def yX5_reserved : MethodName := ⟨RX5, "reserved", "(II)I"⟩
abbrev cX5_isJob : ByteArray := prog_7_method_8_code
def yX5_isJob : MethodName := ⟨RX5, "isJob", "(I)Z"⟩
abbrev cX5_isReservation : ByteArray := prog_7_method_9_code
def yX5_isReservation : MethodName := ⟨RX5, "isReservation", "(I)Z"⟩
abbrev cX5_isAllocated : ByteArray := prog_7_method_10_code
def yX5_isAllocated : MethodName := ⟨RX5, "isAllocated", "(I)Z"⟩
abbrev cX5_records : ByteArray := prog_7_method_11_code
def yX5_records : MethodName := ⟨RX5, "records", "(II)V"⟩
abbrev cX5_meets : ByteArray := prog_7_method_12_code
def yX5_meets : MethodName := ⟨RX5, "meets", "(IIIIIIII)Z"⟩
abbrev cX5_isFree : ByteArray := prog_7_method_13_code
def yX5_isFree : MethodName := ⟨RX5, "isFree", "(IIII)Z"⟩
abbrev cX5_lowest : ByteArray := prog_7_method_14_code
def yX5_lowest : MethodName := ⟨RX5, "lowest", "(III)I"⟩
abbrev cX5_earliest : ByteArray := prog_7_method_15_code
def yX5_earliest : MethodName := ⟨RX5, "earliest", "(II)I"⟩
abbrev cX5_plans : ByteArray := prog_7_method_16_code
def yX5_plans : MethodName := ⟨RX5, "plans", "(I)V"⟩
abbrev cX5_usageOf : ByteArray := prog_7_method_17_code
def yX5_usageOf : MethodName := ⟨RX5, "usageOf", "(I)I"⟩
abbrev cX5_used : ByteArray := prog_7_method_18_code
def yX5_used : MethodName := ⟨RX5, "used", "(I)I"⟩
abbrev cX5_goesAhead : ByteArray := prog_7_method_19_code
def yX5_goesAhead : MethodName := ⟨RX5, "goesAhead", "(II)Z"⟩
abbrev cX5_replans : ByteArray := prog_7_method_20_code
def yX5_replans : MethodName := ⟨RX5, "replans", "()V"⟩
abbrev cX5_block : ByteArray := prog_7_method_21_code
def yX5_block : MethodName := ⟨RX5, "block", "(II)I"⟩
abbrev cX5_starts : ByteArray := prog_7_method_22_code
def yX5_starts : MethodName := ⟨RX5, "starts", "()V"⟩
abbrev cX5_submit : ByteArray := prog_7_method_23_code
def yX5_submit : MethodName := ⟨RX5, "submit", "(IIII)I"⟩
abbrev cX5_ticks : ByteArray := prog_7_method_24_code
def yX5_ticks : MethodName := ⟨RX5, "ticks", "()I"⟩
abbrev cX5_advance : ByteArray := prog_7_method_25_code
def yX5_advance : MethodName := ⟨RX5, "advance", "(I)I"⟩
abbrev cX5_cancel : ByteArray := prog_7_method_26_code
def yX5_cancel : MethodName := ⟨RX5, "cancel", "(I)I"⟩
abbrev cX5_preempt : ByteArray := prog_7_method_27_code
def yX5_preempt : MethodName := ⟨RX5, "preempt", "(II)I"⟩
abbrev cX5_refuses : ByteArray := prog_7_method_28_code
def yX5_refuses : MethodName := ⟨RX5, "refuses", "(I)I"⟩
abbrev cX5_reserve : ByteArray := prog_7_method_29_code
def yX5_reserve : MethodName := ⟨RX5, "reserve", "(III)I"⟩
abbrev cX5_refusal : ByteArray := prog_7_method_30_code
def yX5_refusal : MethodName := ⟨RX5, "refusal", "()I"⟩
abbrev cX5_cancelReservation : ByteArray := prog_7_method_31_code
def yX5_cancelReservation : MethodName := ⟨RX5, "cancelReservation", "(I)V"⟩
abbrev cX5_reservedProcessor : ByteArray := prog_7_method_32_code
def yX5_reservedProcessor : MethodName := ⟨RX5, "reservedProcessor", "(I)I"⟩
abbrev cX5_setFair : ByteArray := prog_7_method_33_code
def yX5_setFair : MethodName := ⟨RX5, "setFair", "(Z)Z"⟩
abbrev cX5_clock : ByteArray := prog_7_method_34_code
def yX5_clock : MethodName := ⟨RX5, "clock", "()I"⟩
abbrev cX5_jobCount : ByteArray := prog_7_method_35_code
def yX5_jobCount : MethodName := ⟨RX5, "jobCount", "()I"⟩
abbrev cX5_state : ByteArray := prog_7_method_36_code
def yX5_state : MethodName := ⟨RX5, "state", "(I)I"⟩
abbrev cX5_ofAllocated : ByteArray := prog_7_method_37_code
def yX5_ofAllocated : MethodName := ⟨RX5, "ofAllocated", "(II)I"⟩
abbrev cX5_startTime : ByteArray := prog_7_method_38_code
def yX5_startTime : MethodName := ⟨RX5, "startTime", "(I)I"⟩
abbrev cX5_firstProcessor : ByteArray := prog_7_method_39_code
def yX5_firstProcessor : MethodName := ⟨RX5, "firstProcessor", "(I)I"⟩
abbrev cX5_promise : ByteArray := prog_7_method_40_code
def yX5_promise : MethodName := ⟨RX5, "promise", "(I)I"⟩
abbrev cX5_finishTime : ByteArray := prog_7_method_41_code
def yX5_finishTime : MethodName := ⟨RX5, "finishTime", "(I)I"⟩
abbrev cX5_preemptions : ByteArray := prog_7_method_42_code
def yX5_preemptions : MethodName := ⟨RX5, "preemptions", "(I)I"⟩
abbrev cX5_waitTime : ByteArray := prog_7_method_43_code
def yX5_waitTime : MethodName := ⟨RX5, "waitTime", "(I)I"⟩
abbrev cX5_averageWait : ByteArray := prog_7_method_44_code
def yX5_averageWait : MethodName := ⟨RX5, "averageWait", "()D"⟩
abbrev cX5_slowdown : ByteArray := prog_7_method_45_code
def yX5_slowdown : MethodName := ⟨RX5, "slowdown", "(I)F"⟩
abbrev cX5_usage : ByteArray := prog_7_method_46_code
def yX5_usage : MethodName := ⟨RX5, "usage", "(I)I"⟩
abbrev cX5_utilization : ByteArray := prog_7_method_47_code
def yX5_utilization : MethodName := ⟨RX5, "utilization", "()D"⟩
abbrev cX5_makespan : ByteArray := prog_7_method_48_code
def yX5_makespan : MethodName := ⟨RX5, "makespan", "()I"⟩
abbrev cX5_owner : ByteArray := prog_7_method_49_code
def yX5_owner : MethodName := ⟨RX5, "owner", "(II)I"⟩
abbrev cX5_ownerAt : ByteArray := prog_7_method_50_code
def yX5_ownerAt : MethodName := ⟨RX5, "ownerAt", "(II)I"⟩
abbrev cX5_frees : ByteArray := prog_7_method_51_code
def yX5_frees : MethodName := ⟨RX5, "frees", "(I)I"⟩
abbrev cX5_freeProcessors : ByteArray := prog_7_method_52_code
def yX5_freeProcessors : MethodName := ⟨RX5, "freeProcessors", "(I)I"⟩
abbrev cX5_isFreeNow : ByteArray := prog_7_method_53_code
def yX5_isFreeNow : MethodName := ⟨RX5, "isFreeNow", "(II)Z"⟩
abbrev cX5_freeBlocks : ByteArray := prog_7_method_54_code
def yX5_freeBlocks : MethodName := ⟨RX5, "freeBlocks", "(I)I"⟩
abbrev cX5_largest : ByteArray := prog_7_method_55_code
def yX5_largest : MethodName := ⟨RX5, "largest", "()I"⟩
abbrev cX5_largestFree : ByteArray := prog_7_method_56_code
def yX5_largestFree : MethodName := ⟨RX5, "largestFree", "()I"⟩
abbrev cX5_fragmentation : ByteArray := prog_7_method_57_code
def yX5_fragmentation : MethodName := ⟨RX5, "fragmentation", "()D"⟩
abbrev cX5_earliestStart : ByteArray := prog_7_method_58_code
def yX5_earliestStart : MethodName := ⟨RX5, "earliestStart", "(II)I"⟩
abbrev cX5_lowestBlock : ByteArray := prog_7_method_59_code
def yX5_lowestBlock : MethodName := ⟨RX5, "lowestBlock", "(III)I"⟩
abbrev cX5_blockStarts : ByteArray := prog_7_method_60_code
def yX5_blockStarts : MethodName := ⟨RX5, "blockStarts", "(II)I"⟩
abbrev cX5_busiestBlock : ByteArray := prog_7_method_61_code
def yX5_busiestBlock : MethodName := ⟨RX5, "busiestBlock", "()I"⟩
abbrev cX5_eventCount : ByteArray := prog_7_method_62_code
def yX5_eventCount : MethodName := ⟨RX5, "eventCount", "()I"⟩
abbrev cX5_event : ByteArray := prog_7_method_63_code
def yX5_event : MethodName := ⟨RX5, "event", "(II)I"⟩
abbrev cX5_save : ByteArray := prog_7_method_64_code
def yX5_save : MethodName := ⟨RX5, "save", "()V"⟩
abbrev cX5_restore : ByteArray := prog_7_method_65_code
def yX5_restore : MethodName := ⟨RX5, "restore", "()I"⟩
def RJx145de : String := "java/io/Serializable"
def TJx145de : u_T := fun k => match k with
  | _ => ("", "", "", false)
def tyJx145de : Nat → FieldType := fun k => match k with
  | _ => .int
abbrev wsJx145de0 : List Cond := u_ws RJx145de TJx145de 0
theorem nmJx145de : ∀ a, a < 0 → ∀ b, b < 0 → a ≠ b → (TJx145de a).2.1 ≠ (TJx145de b).2.1 := by decide +kernel
theorem tyJx145de_ok : ∀ k, k < 0 → parseFieldDescriptor (TJx145de k).2.2.1 = some (tyJx145de k) := by decide +kernel
def RJx00060 : String := "java/lang/ArrayIndexOutOfBoundsException"
def TJx00060 : u_T := fun k => match k with
  | 0 => ("java/lang/Throwable", "backtrace", "Ljava/lang/Object;", false)
  | 1 => ("java/lang/Throwable", "detailMessage", "Ljava/lang/String;", false)
  | 2 => ("java/lang/Throwable", "cause", "Ljava/lang/Throwable;", false)
  | 3 => ("java/lang/Throwable", "stackTrace", "[Ljava/lang/StackTraceElement;", false)
  | 4 => ("java/lang/Throwable", "depth", "I", false)
  | _ => ("java/lang/Throwable", "suppressedExceptions", "Ljava/util/List;", false)
def tyJx00060 : Nat → FieldType := fun k => match k with
  | 0 => .object "java/lang/Object"
  | 1 => .object "java/lang/String"
  | 2 => .object "java/lang/Throwable"
  | 3 => .array (.object "java/lang/StackTraceElement")
  | 4 => .int
  | _ => .object "java/util/List"
abbrev wsJx000600 : List Cond := u_ws RJx00060 TJx00060 6
theorem nmJx00060 : ∀ a, a < 6 → ∀ b, b < 6 → a ≠ b → (TJx00060 a).2.1 ≠ (TJx00060 b).2.1 := by decide +kernel
theorem tyJx00060_ok : ∀ k, k < 6 → parseFieldDescriptor (TJx00060 k).2.2.1 = some (tyJx00060 k) := by decide +kernel
abbrev cJx00060_init_a7421 : ByteArray := prog_10_method_2_code
def yJx00060_init_a7421 : MethodName := ⟨RJx00060, "<init>", "(Ljava/lang/String;)V"⟩
def RJ6 : String := "java/lang/Integer"
def TJ6 : u_T := fun k => match k with
  | _ => ("", "", "", false)
def tyJ6 : Nat → FieldType := fun k => match k with
  | _ => .int
abbrev wsJ60 : List Cond := u_ws RJ6 TJ6 0
theorem nmJ6 : ∀ a, a < 0 → ∀ b, b < 0 → a ≠ b → (TJ6 a).2.1 ≠ (TJ6 b).2.1 := by decide +kernel
theorem tyJ6_ok : ∀ k, k < 0 → parseFieldDescriptor (TJ6 k).2.2.1 = some (tyJ6 k) := by decide +kernel
abbrev cJ6_bitCount_0f7a4 : ByteArray := prog_15_method_49_code
def yJ6_bitCount_0f7a4 : MethodName := ⟨RJ6, "bitCount", "(I)I"⟩
def RJ9 : String := "java/lang/Math"
def TJ9 : u_T := fun k => match k with
  | _ => ("", "", "", false)
def tyJ9 : Nat → FieldType := fun k => match k with
  | _ => .int
abbrev wsJ90 : List Cond := u_ws RJ9 TJ9 0
theorem nmJ9 : ∀ a, a < 0 → ∀ b, b < 0 → a ≠ b → (TJ9 a).2.1 ≠ (TJ9 b).2.1 := by decide +kernel
theorem tyJ9_ok : ∀ k, k < 0 → parseFieldDescriptor (TJ9 k).2.2.1 = some (tyJ9 k) := by decide +kernel
abbrev cJ9_max_7cf53 : ByteArray := prog_16_method_65_code
def yJ9_max_7cf53 : MethodName := ⟨RJ9, "max", "(II)I"⟩
def RJ0 : String := "java/lang/String"
def TJ0 : u_T := fun k => match k with
  | 0 => ("java/lang/String", "value", "[B", true)
  | _ => ("java/lang/String", "coder", "B", true)
def tyJ0 : Nat → FieldType := fun k => match k with
  | 0 => .array .byte
  | _ => .byte
abbrev wsJ00 : List Cond := u_ws RJ0 TJ0 2
theorem nmJ0 : ∀ a, a < 2 → ∀ b, b < 2 → a ≠ b → (TJ0 a).2.1 ≠ (TJ0 b).2.1 := by decide +kernel
theorem tyJ0_ok : ∀ k, k < 2 → parseFieldDescriptor (TJ0 k).2.2.1 = some (tyJ0 k) := by decide +kernel
def RJ10 : String := "java/lang/System"
def TJ10 : u_T := fun k => match k with
  | _ => ("", "", "", false)
def tyJ10 : Nat → FieldType := fun k => match k with
  | _ => .int
abbrev wsJ100 : List Cond := u_ws RJ10 TJ10 0
theorem nmJ10 : ∀ a, a < 0 → ∀ b, b < 0 → a ≠ b → (TJ10 a).2.1 ≠ (TJ10 b).2.1 := by decide +kernel
theorem tyJ10_ok : ∀ k, k < 0 → parseFieldDescriptor (TJ10 k).2.2.1 = some (tyJ10 k) := by decide +kernel
def RL : String := "BuddyBlockSchedulerLaw"
abbrev cL_submit : ByteArray := method_3_code
def yL_submit : MethodName := ⟨RL, "submit", "(LBuddyBlockScheduler;IIII[J)I"⟩
abbrev cL_advance : ByteArray := method_4_code
def yL_advance : MethodName := ⟨RL, "advance", "(LBuddyBlockScheduler;I[J)I"⟩
abbrev cL_cancel : ByteArray := method_5_code
def yL_cancel : MethodName := ⟨RL, "cancel", "(LBuddyBlockScheduler;I[J)I"⟩
abbrev cL_preempt : ByteArray := method_6_code
def yL_preempt : MethodName := ⟨RL, "preempt", "(LBuddyBlockScheduler;II[J)I"⟩
abbrev cL_reserve : ByteArray := method_7_code
def yL_reserve : MethodName := ⟨RL, "reserve", "(LBuddyBlockScheduler;III[J)I"⟩
abbrev cL_cancelReservation : ByteArray := method_8_code
def yL_cancelReservation : MethodName := ⟨RL, "cancelReservation", "(LBuddyBlockScheduler;I)I"⟩
abbrev cL_reservedProcessor : ByteArray := method_9_code
def yL_reservedProcessor : MethodName := ⟨RL, "reservedProcessor", "(LBuddyBlockScheduler;I[J)I"⟩
abbrev cL_state : ByteArray := method_10_code
def yL_state : MethodName := ⟨RL, "state", "(LBuddyBlockScheduler;I[J)I"⟩
abbrev cL_startTime : ByteArray := method_11_code
def yL_startTime : MethodName := ⟨RL, "startTime", "(LBuddyBlockScheduler;I[J)I"⟩
abbrev cL_firstProcessor : ByteArray := method_12_code
def yL_firstProcessor : MethodName := ⟨RL, "firstProcessor", "(LBuddyBlockScheduler;I[J)I"⟩
abbrev cL_promise : ByteArray := method_13_code
def yL_promise : MethodName := ⟨RL, "promise", "(LBuddyBlockScheduler;I[J)I"⟩
abbrev cL_finishTime : ByteArray := method_14_code
def yL_finishTime : MethodName := ⟨RL, "finishTime", "(LBuddyBlockScheduler;I[J)I"⟩
abbrev cL_preemptions : ByteArray := method_15_code
def yL_preemptions : MethodName := ⟨RL, "preemptions", "(LBuddyBlockScheduler;I[J)I"⟩
abbrev cL_waitTime : ByteArray := method_16_code
def yL_waitTime : MethodName := ⟨RL, "waitTime", "(LBuddyBlockScheduler;I[J)I"⟩
abbrev cL_averageWait : ByteArray := method_17_code
def yL_averageWait : MethodName := ⟨RL, "averageWait", "(LBuddyBlockScheduler;[D)I"⟩
abbrev cL_slowdown : ByteArray := method_18_code
def yL_slowdown : MethodName := ⟨RL, "slowdown", "(LBuddyBlockScheduler;I[D)I"⟩
abbrev cL_usage : ByteArray := method_19_code
def yL_usage : MethodName := ⟨RL, "usage", "(LBuddyBlockScheduler;I[J)I"⟩
abbrev cL_utilization : ByteArray := method_20_code
def yL_utilization : MethodName := ⟨RL, "utilization", "(LBuddyBlockScheduler;[D)I"⟩
abbrev cL_ownerAt : ByteArray := method_21_code
def yL_ownerAt : MethodName := ⟨RL, "ownerAt", "(LBuddyBlockScheduler;II[J)I"⟩
abbrev cL_freeProcessors : ByteArray := method_22_code
def yL_freeProcessors : MethodName := ⟨RL, "freeProcessors", "(LBuddyBlockScheduler;I[J)I"⟩
abbrev cL_freeBlocks : ByteArray := method_23_code
def yL_freeBlocks : MethodName := ⟨RL, "freeBlocks", "(LBuddyBlockScheduler;I[J)I"⟩
abbrev cL_largestFree : ByteArray := method_24_code
def yL_largestFree : MethodName := ⟨RL, "largestFree", "(LBuddyBlockScheduler;[J)I"⟩
abbrev cL_fragmentation : ByteArray := method_25_code
def yL_fragmentation : MethodName := ⟨RL, "fragmentation", "(LBuddyBlockScheduler;[D)I"⟩
abbrev cL_earliestStart : ByteArray := method_26_code
def yL_earliestStart : MethodName := ⟨RL, "earliestStart", "(LBuddyBlockScheduler;II[J)I"⟩
abbrev cL_lowestBlock : ByteArray := method_27_code
def yL_lowestBlock : MethodName := ⟨RL, "lowestBlock", "(LBuddyBlockScheduler;III[J)I"⟩
abbrev cL_blockStarts : ByteArray := method_28_code
def yL_blockStarts : MethodName := ⟨RL, "blockStarts", "(LBuddyBlockScheduler;II[J)I"⟩
abbrev cL_busiestBlock : ByteArray := method_29_code
def yL_busiestBlock : MethodName := ⟨RL, "busiestBlock", "(LBuddyBlockScheduler;[J)I"⟩
abbrev cL_event : ByteArray := method_30_code
def yL_event : MethodName := ⟨RL, "event", "(LBuddyBlockScheduler;II[J)I"⟩
abbrev cL_restore : ByteArray := method_31_code
def yL_restore : MethodName := ⟨RL, "restore", "(LBuddyBlockScheduler;[J)I"⟩
abbrev cL_law : ByteArray := code
def yL_law : MethodName := ⟨RL, "law", "([I)Z"⟩
def wsL_law0_r1 : List Cond := [Cond.classLink RL 8 RX4, Cond.instantiable RX4 4, Cond.initialized RX4, Cond.classLink RL 115 RX5, Cond.instantiable RX5 7, Cond.initialized RX5, Cond.arrayClass .long, Cond.arrayClass .double, Cond.methodLink RL 114 yX4_init, Cond.instanceMethod yX4_init, Cond.code yX4_init cX4_init 1 none, Cond.methodLink RX4 1 objectInit, Cond.instanceMethod objectInit, Cond.code objectInit ⟨#[0xb1]⟩ 1 none, Cond.classLink RX4 7 RX0, Cond.instantiable RX0 9, Cond.initialized RX0, Cond.fieldLink RX4 10 "BuddyBlockScheduler" "cluster" "LBuddyBlockScheduler$Cluster;", Cond.fieldLink RX4 16 "BuddyBlockScheduler" "kept" "LBuddyBlockScheduler$Cluster;", Cond.fieldLink RX4 19 "BuddyBlockScheduler" "somethingKept" "Z", Cond.fieldLink RX4 23 "BuddyBlockScheduler" "refusalReason" "I", Cond.instanceMethod yX0_init, Cond.code yX0_init cX0_init 1 none, Cond.methodLink RX0 3 objectInit]
def wsL_law0_r2 : List Cond := [Cond.classLink RX0 9 RX3, Cond.instantiable RX3 4, Cond.initialized RX3, Cond.fieldLink RX0 12 "BuddyBlockScheduler$Cluster" "timetable" "LBuddyBlockScheduler$Timetable;", Cond.classLink RX0 18 RX2, Cond.instantiable RX2 13, Cond.initialized RX2, Cond.fieldLink RX0 21 "BuddyBlockScheduler$Cluster" "jobs" "LBuddyBlockScheduler$Jobs;", Cond.classLink RX0 25 RX1, Cond.instantiable RX1 5, Cond.initialized RX1, Cond.fieldLink RX0 28 "BuddyBlockScheduler$Cluster" "log" "LBuddyBlockScheduler$EventLog;", Cond.arrayClass .int, Cond.fieldLink RX0 32 "BuddyBlockScheduler$Cluster" "starts" "[I", Cond.fieldLink RX0 36 "BuddyBlockScheduler$Cluster" "now" "I", Cond.fieldLink RX0 40 "BuddyBlockScheduler$Cluster" "reservationCount" "I", Cond.fieldLink RX0 43 "BuddyBlockScheduler$Cluster" "fair" "Z", Cond.fieldLink RX0 47 "BuddyBlockScheduler$Cluster" "queue" "[I", Cond.fieldLink RX0 50 "BuddyBlockScheduler$Cluster" "usageBefore" "[I", Cond.instanceMethod yX3_init, Cond.code yX3_init cX3_init 1 none, Cond.methodLink RX3 3 objectInit, Cond.fieldLink RX3 11 "BuddyBlockScheduler$Timetable" "mask" "[I", Cond.fieldLink RX3 15 "BuddyBlockScheduler$Timetable" "first" "[I"]
def wsL_law0_r3 : List Cond := [Cond.fieldLink RX3 18 "BuddyBlockScheduler$Timetable" "from" "[I", Cond.fieldLink RX3 21 "BuddyBlockScheduler$Timetable" "until" "[I", Cond.instanceMethod yX2_init, Cond.code yX2_init cX2_init 1 none, Cond.methodLink RX2 3 objectInit, Cond.fieldLink RX2 9 "BuddyBlockScheduler$Jobs" "count" "I", Cond.fieldLink RX2 15 "BuddyBlockScheduler$Jobs" "user" "[I", Cond.fieldLink RX2 19 "BuddyBlockScheduler$Jobs" "order" "[I", Cond.fieldLink RX2 22 "BuddyBlockScheduler$Jobs" "estimate" "[I", Cond.fieldLink RX2 25 "BuddyBlockScheduler$Jobs" "run" "[I", Cond.fieldLink RX2 28 "BuddyBlockScheduler$Jobs" "status" "[I", Cond.fieldLink RX2 31 "BuddyBlockScheduler$Jobs" "submittedRun" "[I", Cond.fieldLink RX2 34 "BuddyBlockScheduler$Jobs" "submittedAt" "[I", Cond.fieldLink RX2 37 "BuddyBlockScheduler$Jobs" "promised" "[I", Cond.fieldLink RX2 40 "BuddyBlockScheduler$Jobs" "firstStartedAt" "[I", Cond.fieldLink RX2 43 "BuddyBlockScheduler$Jobs" "finishedAt" "[I", Cond.fieldLink RX2 46 "BuddyBlockScheduler$Jobs" "interruptions" "[I", Cond.fieldLink RX2 49 "BuddyBlockScheduler$Jobs" "unitsRun" "[I", Cond.instanceMethod yX1_init, Cond.code yX1_init cX1_init 1 none, Cond.methodLink RX1 3 objectInit, Cond.fieldLink RX1 9 "BuddyBlockScheduler$EventLog" "count" "I", Cond.fieldLink RX1 15 "BuddyBlockScheduler$EventLog" "oldest" "I", Cond.fieldLink RX1 18 "BuddyBlockScheduler$EventLog" "time" "[I"]
def wsL_law0_r4 : List Cond := [Cond.fieldLink RX1 22 "BuddyBlockScheduler$EventLog" "kind" "[I", Cond.fieldLink RX1 25 "BuddyBlockScheduler$EventLog" "job" "[I", Cond.methodLink RL 117 yX5_init, Cond.instanceMethod yX5_init, Cond.code yX5_init cX5_init 1 none, Cond.methodLink RX5 3 objectInit, Cond.fieldLink RX5 9 "BuddyBlockSchedulerModel" "a" "[I", Cond.fieldLink RX5 13 "BuddyBlockSchedulerModel" "saved" "[I", Cond.fieldLink RX5 16 "BuddyBlockSchedulerModel" "line" "[I", Cond.fieldLink RX5 19 "BuddyBlockSchedulerModel" "usages" "[I", Cond.methodLink RL 118 yL_submit, Cond.static yL_submit, Cond.initialized RL, Cond.codeWith yL_submit cL_submit 7 (some .int) [(0, 14, 17, 13), (0, 14, 21, 15)], Cond.classLink RL 13 "java/lang/IllegalArgumentException", Cond.classLink RL 15 "java/lang/IllegalStateException", Cond.methodLink RL 7 yX4_submit, Cond.instanceMethod yX4_submit, Cond.selects RX4 yX4_submit yX4_submit, Cond.code yX4_submit cX4_submit 5 (some .int), Cond.classLink RX4 37 "java/lang/IllegalArgumentException", Cond.initialized "java/lang/IllegalArgumentException", Cond.classLink RX4 53 "java/lang/IllegalStateException", Cond.initialized "java/lang/IllegalStateException"]
def wsL_law0_r5 : List Cond := [Cond.fieldLink RX4 44 "BuddyBlockScheduler$Cluster" "jobs" "LBuddyBlockScheduler$Jobs;", Cond.fieldLink RX4 48 "BuddyBlockScheduler$Jobs" "count" "I", Cond.methodLink RX4 27 yX4_isUser, Cond.static yX4_isUser, Cond.code yX4_isUser cX4_isUser 1 (some .boolean), Cond.methodLink RX4 31 yX4_isOrder, Cond.static yX4_isOrder, Cond.code yX4_isOrder cX4_isOrder 1 (some .boolean), Cond.methodLink RX4 34 yX4_isLength, Cond.static yX4_isLength, Cond.code yX4_isLength cX4_isLength 1 (some .boolean), Cond.methodLink RX4 58 yX0_addJob, Cond.instanceMethod yX0_addJob, Cond.selects RX0 yX0_addJob yX0_addJob, Cond.code yX0_addJob cX0_addJob 6 (some .int), Cond.fieldLink RX0 61 "BuddyBlockScheduler$Jobs" "promised" "[I", Cond.methodLink RX0 53 yX2_append, Cond.instanceMethod yX2_append, Cond.selects RX2 yX2_append yX2_append, Cond.code yX2_append cX2_append 7 (some .int), Cond.methodLink RX0 57 yX1_note, Cond.instanceMethod yX1_note, Cond.selects RX1 yX1_note yX1_note, Cond.code yX1_note cX1_note 5 none]
def wsL_law0_r6 : List Cond := [Cond.methodLink RX0 64 yX0_plan, Cond.instanceMethod yX0_plan, Cond.selects RX0 yX0_plan yX0_plan, Cond.code yX0_plan cX0_plan 5 (some .int), Cond.fieldLink RX0 122 "BuddyBlockScheduler$Jobs" "order" "[I", Cond.fieldLink RX0 85 "BuddyBlockScheduler$Jobs" "estimate" "[I", Cond.methodLink RX0 141 yX3_earliest, Cond.instanceMethod yX3_earliest, Cond.selects RX3 yX3_earliest yX3_earliest, Cond.code yX3_earliest cX3_earliest 7 (some .int), Cond.methodLink RX3 28 yX3_takenIn, Cond.instanceMethod yX3_takenIn, Cond.selects RX3 yX3_takenIn yX3_takenIn, Cond.code yX3_takenIn cX3_takenIn 5 (some .int), Cond.static yX4_lowestClear, Cond.code yX4_lowestClear cX4_lowestClear 5 (some .int), Cond.methodLink RX4 265 yX4_blockMask, Cond.static yX4_blockMask, Cond.code yX4_blockMask cX4_blockMask 2 (some .int), Cond.methodLink RX3 34 yX3_nextEnd, Cond.instanceMethod yX3_nextEnd, Cond.selects RX3 yX3_nextEnd yX3_nextEnd, Cond.code yX3_nextEnd cX3_nextEnd 4 (some .int), Cond.methodLink RX0 97 yX3_lowestFree]
def wsL_law0_r7 : List Cond := [Cond.instanceMethod yX3_lowestFree, Cond.selects RX3 yX3_lowestFree yX3_lowestFree, Cond.code yX3_lowestFree cX3_lowestFree 4 (some .int), Cond.methodLink RX0 101 yX3_give, Cond.instanceMethod yX3_give, Cond.selects RX3 yX3_give yX3_give, Cond.code yX3_give cX3_give 6 none, Cond.methodLink RX0 68 yX0_startJobs, Cond.instanceMethod yX0_startJobs, Cond.selects RX0 yX0_startJobs yX0_startJobs, Cond.code yX0_startJobs cX0_startJobs 2 none, Cond.fieldLink RX0 109 "BuddyBlockScheduler$Jobs" "count" "I", Cond.fieldLink RX0 94 "BuddyBlockScheduler$Jobs" "status" "[I", Cond.fieldLink RX0 82 "BuddyBlockScheduler$Timetable" "from" "[I", Cond.fieldLink RX0 119 "BuddyBlockScheduler$Jobs" "firstStartedAt" "[I", Cond.fieldLink RX0 125 "BuddyBlockScheduler$Timetable" "first" "[I", Cond.methodLink RX0 115 yX2_wasStarted, Cond.instanceMethod yX2_wasStarted, Cond.selects RX2 yX2_wasStarted yX2_wasStarted, Cond.code yX2_wasStarted cX2_wasStarted 2 (some .boolean), Cond.static yX4_blockIndex, Cond.code yX4_blockIndex cX4_blockIndex 2 (some .int), Cond.methodLink RL 123 yX5_submit, Cond.instanceMethod yX5_submit]
def wsL_law0_r8 : List Cond := [Cond.selects RX5 yX5_submit yX5_submit, Cond.code yX5_submit cX5_submit 7 (some .int), Cond.fieldLink RX5 22 "BuddyBlockSchedulerModel" "thrown" "I", Cond.methodLink RX5 26 yX5_in, Cond.static yX5_in, Cond.code yX5_in cX5_in 3 (some .boolean), Cond.methodLink RX5 85 yX5_raises, Cond.instanceMethod yX5_raises, Cond.selects RX5 yX5_raises yX5_raises, Cond.code yX5_raises cX5_raises 2 (some .int), Cond.methodLink RX5 59 yX5_put, Cond.instanceMethod yX5_put, Cond.selects RX5 yX5_put yX5_put, Cond.code yX5_put cX5_put 4 none, Cond.methodLink RX5 78 yX5_records, Cond.instanceMethod yX5_records, Cond.selects RX5 yX5_records yX5_records, Cond.code yX5_records cX5_records 4 none, Cond.methodLink RX5 74 yX5_plans, Cond.instanceMethod yX5_plans, Cond.selects RX5 yX5_plans yX5_plans, Cond.code yX5_plans cX5_plans 3 none, Cond.methodLink RX5 30 yX5_of, Cond.instanceMethod yX5_of]
def wsL_law0_r9 : List Cond := [Cond.selects RX5 yX5_of yX5_of, Cond.code yX5_of cX5_of 3 (some .int), Cond.methodLink RX5 56 yX5_earliest, Cond.instanceMethod yX5_earliest, Cond.selects RX5 yX5_earliest yX5_earliest, Cond.code yX5_earliest cX5_earliest 7 (some .int), Cond.constant RX5 51 (2147483647), Cond.methodLink RX5 42 yX5_reserved, Cond.instanceMethod yX5_reserved, Cond.selects RX5 yX5_reserved yX5_reserved, Cond.code yX5_reserved cX5_reserved 3 (some .int), Cond.methodLink RX5 34 yX5_isAllocated, Cond.instanceMethod yX5_isAllocated, Cond.selects RX5 yX5_isAllocated yX5_isAllocated, Cond.code yX5_isAllocated cX5_isAllocated 2 (some .boolean), Cond.methodLink RX5 52 yX5_lowest, Cond.instanceMethod yX5_lowest, Cond.selects RX5 yX5_lowest yX5_lowest, Cond.code yX5_lowest cX5_lowest 5 (some .int), Cond.methodLink RX5 45 yX5_isFree, Cond.instanceMethod yX5_isFree, Cond.selects RX5 yX5_isFree yX5_isFree, Cond.code yX5_isFree cX5_isFree 6 (some .boolean), Cond.methodLink RX5 38 yX5_meets]
def wsL_law0_r10 : List Cond := [Cond.static yX5_meets, Cond.code yX5_meets cX5_meets 8 (some .boolean), Cond.methodLink RX5 88 yX5_starts, Cond.instanceMethod yX5_starts, Cond.selects RX5 yX5_starts yX5_starts, Cond.code yX5_starts cX5_starts 2 none, Cond.methodLink RX5 82 yX5_block, Cond.static yX5_block, Cond.code yX5_block cX5_block 2 (some .int), Cond.methodLink RL 124 yX5_thrown, Cond.instanceMethod yX5_thrown, Cond.selects RX5 yX5_thrown yX5_thrown, Cond.code yX5_thrown cX5_thrown 1 (some .int), Cond.methodLink RL 127 yL_advance, Cond.static yL_advance, Cond.codeWith yL_advance cL_advance 4 (some .int) [(0, 9, 12, 13), (0, 9, 15, 15)], Cond.methodLink RL 17 yX4_advance, Cond.instanceMethod yX4_advance, Cond.selects RX4 yX4_advance yX4_advance, Cond.code yX4_advance cX4_advance 4 (some .int), Cond.fieldLink RX4 64 "BuddyBlockScheduler$Cluster" "now" "I", Cond.methodLink RX4 69 yX0_tick, Cond.instanceMethod yX0_tick, Cond.selects RX0 yX0_tick yX0_tick]
def wsL_law0_r11 : List Cond := [Cond.code yX0_tick cX0_tick 2 (some .int), Cond.methodLink RX0 105 yX0_finishJobs, Cond.instanceMethod yX0_finishJobs, Cond.selects RX0 yX0_finishJobs yX0_finishJobs, Cond.code yX0_finishJobs cX0_finishJobs 3 (some .int), Cond.fieldLink RX0 88 "BuddyBlockScheduler$Jobs" "run" "[I", Cond.fieldLink RX0 112 "BuddyBlockScheduler$Jobs" "finishedAt" "[I", Cond.methodLink RX0 71 yX0_endRun, Cond.instanceMethod yX0_endRun, Cond.selects RX0 yX0_endRun yX0_endRun, Cond.code yX0_endRun cX0_endRun 3 none, Cond.fieldLink RX0 132 "BuddyBlockScheduler$Jobs" "unitsRun" "[I", Cond.methodLink RX0 135 yX0_unitsUpToNow, Cond.instanceMethod yX0_unitsUpToNow, Cond.selects RX0 yX0_unitsUpToNow yX0_unitsUpToNow, Cond.code yX0_unitsUpToNow cX0_unitsUpToNow 3 (some .int), Cond.methodLink RX0 75 yX3_clearSlot, Cond.instanceMethod yX3_clearSlot, Cond.selects RX3 yX3_clearSlot yX3_clearSlot, Cond.code yX3_clearSlot cX3_clearSlot 2 none, Cond.methodLink RX0 79 yX0_replan, Cond.instanceMethod yX0_replan, Cond.selects RX0 yX0_replan yX0_replan, Cond.code yX0_replan cX0_replan 5 none]
def wsL_law0_r12 : List Cond := [Cond.methodLink RX0 144 yX0_queueWaiting, Cond.instanceMethod yX0_queueWaiting, Cond.selects RX0 yX0_queueWaiting yX0_queueWaiting, Cond.code yX0_queueWaiting cX0_queueWaiting 3 (some .int), Cond.methodLink RX0 147 yX0_usageOfUser, Cond.instanceMethod yX0_usageOfUser, Cond.selects RX0 yX0_usageOfUser yX0_usageOfUser, Cond.code yX0_usageOfUser cX0_usageOfUser 4 (some .int), Cond.fieldLink RX0 138 "BuddyBlockScheduler$Jobs" "user" "[I", Cond.methodLink RX0 150 yX0_insertIntoQueue, Cond.instanceMethod yX0_insertIntoQueue, Cond.selects RX0 yX0_insertIntoQueue yX0_insertIntoQueue, Cond.code yX0_insertIntoQueue cX0_insertIntoQueue 4 none, Cond.methodLink RX0 153 yX0_goesBefore, Cond.instanceMethod yX0_goesBefore, Cond.selects RX0 yX0_goesBefore yX0_goesBefore, Cond.code yX0_goesBefore cX0_goesBefore 5 (some .boolean), Cond.methodLink RL 130 yX5_advance, Cond.instanceMethod yX5_advance, Cond.selects RX5 yX5_advance yX5_advance, Cond.code yX5_advance cX5_advance 4 (some .int), Cond.methodLink RX5 94 yX5_ticks, Cond.instanceMethod yX5_ticks, Cond.selects RX5 yX5_ticks yX5_ticks]
def wsL_law0_r13 : List Cond := [Cond.code yX5_ticks cX5_ticks 3 (some .int), Cond.methodLink RX5 91 yX5_replans, Cond.instanceMethod yX5_replans, Cond.selects RX5 yX5_replans yX5_replans, Cond.code yX5_replans cX5_replans 5 none, Cond.methodLink RX5 67 yX5_used, Cond.instanceMethod yX5_used, Cond.selects RX5 yX5_used yX5_used, Cond.code yX5_used cX5_used 4 (some .int), Cond.methodLink RX5 63 yX5_usageOf, Cond.instanceMethod yX5_usageOf, Cond.selects RX5 yX5_usageOf yX5_usageOf, Cond.code yX5_usageOf cX5_usageOf 3 (some .int), Cond.methodLink RX5 70 yX5_goesAhead, Cond.instanceMethod yX5_goesAhead, Cond.selects RX5 yX5_goesAhead yX5_goesAhead, Cond.code yX5_goesAhead cX5_goesAhead 3 (some .boolean), Cond.methodLink RL 131 yL_cancel, Cond.static yL_cancel, Cond.codeWith yL_cancel cL_cancel 4 (some .int) [(0, 9, 12, 24), (0, 9, 15, 15)], Cond.classLink RL 24 "java/lang/IndexOutOfBoundsException", Cond.methodLink RL 21 yX4_cancel, Cond.instanceMethod yX4_cancel, Cond.selects RX4 yX4_cancel yX4_cancel]
def wsL_law0_r14 : List Cond := [Cond.code yX4_cancel cX4_cancel 3 (some .int), Cond.fieldLink RX4 80 "BuddyBlockScheduler$Jobs" "status" "[I", Cond.methodLink RX4 73 yX4_checkJob, Cond.instanceMethod yX4_checkJob, Cond.selects RX4 yX4_checkJob yX4_checkJob, Cond.code yX4_checkJob cX4_checkJob 2 none, Cond.classLink RX4 161 "java/lang/IndexOutOfBoundsException", Cond.initialized "java/lang/IndexOutOfBoundsException", Cond.methodLink RX4 77 yX4_checkAllocated, Cond.instanceMethod yX4_checkAllocated, Cond.selects RX4 yX4_checkAllocated yX4_checkAllocated, Cond.code yX4_checkAllocated cX4_checkAllocated 3 none, Cond.methodLink RX4 84 yX0_dropJob, Cond.instanceMethod yX0_dropJob, Cond.selects RX0 yX0_dropJob yX0_dropJob, Cond.code yX0_dropJob cX0_dropJob 2 none, Cond.methodLink RL 133 yX5_cancel, Cond.instanceMethod yX5_cancel, Cond.selects RX5 yX5_cancel yX5_cancel, Cond.code yX5_cancel cX5_cancel 3 (some .int), Cond.methodLink RX5 98 yX5_isJob, Cond.instanceMethod yX5_isJob, Cond.selects RX5 yX5_isJob yX5_isJob, Cond.code yX5_isJob cX5_isJob 2 (some .boolean)]
def wsL_law0_r15 : List Cond := [Cond.methodLink RL 134 yL_preempt, Cond.static yL_preempt, Cond.codeWith yL_preempt cL_preempt 5 (some .int) [(0, 10, 13, 24), (0, 10, 17, 13), (0, 10, 21, 15)], Cond.methodLink RL 26 yX4_preempt, Cond.instanceMethod yX4_preempt, Cond.selects RX4 yX4_preempt yX4_preempt, Cond.code yX4_preempt cX4_preempt 3 (some .int), Cond.methodLink RX4 91 yX0_interrupt, Cond.instanceMethod yX0_interrupt, Cond.selects RX0 yX0_interrupt yX0_interrupt, Cond.code yX0_interrupt cX0_interrupt 5 (some .int), Cond.fieldLink RX0 91 "BuddyBlockScheduler$Jobs" "interruptions" "[I", Cond.methodLink RL 137 yX5_preempt, Cond.instanceMethod yX5_preempt, Cond.selects RX5 yX5_preempt yX5_preempt, Cond.code yX5_preempt cX5_preempt 5 (some .int), Cond.methodLink RL 138 yL_reserve, Cond.static yL_reserve, Cond.codeWith yL_reserve cL_reserve 6 (some .int) [(0, 12, 15, 13), (0, 12, 19, 15)], Cond.methodLink RL 30 yX4_reserve, Cond.instanceMethod yX4_reserve, Cond.selects RX4 yX4_reserve yX4_reserve, Cond.code yX4_reserve cX4_reserve 4 (some .int), Cond.methodLink RX4 95 yX4_checkInterval]
def wsL_law0_r16 : List Cond := [Cond.static yX4_checkInterval, Cond.code yX4_checkInterval cX4_checkInterval 3 none, Cond.methodLink RX4 99 yX4_reasonToRefuse, Cond.instanceMethod yX4_reasonToRefuse, Cond.selects RX4 yX4_reasonToRefuse yX4_reasonToRefuse, Cond.code yX4_reasonToRefuse cX4_reasonToRefuse 4 (some .int), Cond.fieldLink RX4 255 "BuddyBlockScheduler$Cluster" "reservationCount" "I", Cond.fieldLink RX4 114 "BuddyBlockScheduler$Cluster" "timetable" "LBuddyBlockScheduler$Timetable;", Cond.methodLink RX4 214 yX3_lowestFree, Cond.methodLink RX4 105 yX0_addReservation, Cond.instanceMethod yX0_addReservation, Cond.selects RX0 yX0_addReservation yX0_addReservation, Cond.code yX0_addReservation cX0_addReservation 6 (some .int), Cond.methodLink RL 141 yX5_reserve, Cond.instanceMethod yX5_reserve, Cond.selects RX5 yX5_reserve yX5_reserve, Cond.code yX5_reserve cX5_reserve 6 (some .int), Cond.fieldLink RX5 101 "BuddyBlockSchedulerModel" "refused" "I", Cond.methodLink RX5 104 yX5_refuses, Cond.instanceMethod yX5_refuses, Cond.selects RX5 yX5_refuses yX5_refuses, Cond.code yX5_refuses cX5_refuses 2 (some .int), Cond.methodLink RL 142 yX4_refusal, Cond.instanceMethod yX4_refusal]
def wsL_law0_r17 : List Cond := [Cond.selects RX4 yX4_refusal yX4_refusal, Cond.code yX4_refusal cX4_refusal 1 (some .int), Cond.methodLink RL 145 yX5_refusal, Cond.instanceMethod yX5_refusal, Cond.selects RX5 yX5_refusal yX5_refusal, Cond.code yX5_refusal cX5_refusal 1 (some .int), Cond.methodLink RL 146 yL_cancelReservation, Cond.static yL_cancelReservation, Cond.codeWith yL_cancelReservation cL_cancelReservation 3 (some .int) [(0, 5, 8, 24), (0, 5, 11, 15)], Cond.methodLink RL 34 yX4_cancelReservation, Cond.instanceMethod yX4_cancelReservation, Cond.selects RX4 yX4_cancelReservation yX4_cancelReservation, Cond.code yX4_cancelReservation cX4_cancelReservation 2 none, Cond.methodLink RX4 108 yX4_checkReservation, Cond.instanceMethod yX4_checkReservation, Cond.selects RX4 yX4_checkReservation yX4_checkReservation, Cond.code yX4_checkReservation cX4_checkReservation 2 none, Cond.methodLink RX4 260 yX3_isUsed, Cond.instanceMethod yX3_isUsed, Cond.selects RX3 yX3_isUsed yX3_isUsed, Cond.code yX3_isUsed cX3_isUsed 2 (some .boolean), Cond.methodLink RX4 111 yX0_dropReservation, Cond.instanceMethod yX0_dropReservation, Cond.selects RX0 yX0_dropReservation yX0_dropReservation]
def wsL_law0_r18 : List Cond := [Cond.code yX0_dropReservation cX0_dropReservation 2 none, Cond.methodLink RL 149 yX5_cancelReservation, Cond.instanceMethod yX5_cancelReservation, Cond.selects RX5 yX5_cancelReservation yX5_cancelReservation, Cond.code yX5_cancelReservation cX5_cancelReservation 2 none, Cond.methodLink RX5 107 yX5_isReservation, Cond.instanceMethod yX5_isReservation, Cond.selects RX5 yX5_isReservation yX5_isReservation, Cond.code yX5_isReservation cX5_isReservation 2 (some .boolean), Cond.methodLink RL 150 yL_reservedProcessor, Cond.static yL_reservedProcessor, Cond.codeWith yL_reservedProcessor cL_reservedProcessor 4 (some .int) [(0, 9, 12, 24), (0, 9, 15, 15)], Cond.methodLink RL 38 yX4_reservedProcessor, Cond.instanceMethod yX4_reservedProcessor, Cond.selects RX4 yX4_reservedProcessor yX4_reservedProcessor, Cond.code yX4_reservedProcessor cX4_reservedProcessor 2 (some .int), Cond.fieldLink RX4 118 "BuddyBlockScheduler$Timetable" "first" "[I", Cond.methodLink RL 152 yX5_reservedProcessor, Cond.instanceMethod yX5_reservedProcessor, Cond.selects RX5 yX5_reservedProcessor yX5_reservedProcessor, Cond.code yX5_reservedProcessor cX5_reservedProcessor 2 (some .int), Cond.methodLink RL 153 yX4_setFair, Cond.instanceMethod yX4_setFair, Cond.selects RX4 yX4_setFair yX4_setFair]
def wsL_law0_r19 : List Cond := [Cond.code yX4_setFair cX4_setFair 3 (some .boolean), Cond.fieldLink RX4 123 "BuddyBlockScheduler$Cluster" "fair" "Z", Cond.methodLink RL 157 yX5_setFair, Cond.instanceMethod yX5_setFair, Cond.selects RX5 yX5_setFair yX5_setFair, Cond.code yX5_setFair cX5_setFair 3 (some .boolean), Cond.methodLink RL 158 yX4_clock, Cond.instanceMethod yX4_clock, Cond.selects RX4 yX4_clock yX4_clock, Cond.code yX4_clock cX4_clock 1 (some .int), Cond.methodLink RL 161 yX5_clock, Cond.instanceMethod yX5_clock, Cond.selects RX5 yX5_clock yX5_clock, Cond.code yX5_clock cX5_clock 1 (some .int), Cond.methodLink RL 162 yX4_jobCount, Cond.instanceMethod yX4_jobCount, Cond.selects RX4 yX4_jobCount yX4_jobCount, Cond.code yX4_jobCount cX4_jobCount 1 (some .int), Cond.methodLink RL 165 yX5_jobCount, Cond.instanceMethod yX5_jobCount, Cond.selects RX5 yX5_jobCount yX5_jobCount, Cond.code yX5_jobCount cX5_jobCount 1 (some .int), Cond.methodLink RL 166 yL_state, Cond.static yL_state]
def wsL_law0_r20 : List Cond := [Cond.codeWith yL_state cL_state 4 (some .int) [(0, 9, 12, 24)], Cond.methodLink RL 41 yX4_state, Cond.instanceMethod yX4_state, Cond.selects RX4 yX4_state yX4_state, Cond.code yX4_state cX4_state 2 (some .int), Cond.methodLink RL 168 yX5_state, Cond.instanceMethod yX5_state, Cond.selects RX5 yX5_state yX5_state, Cond.code yX5_state cX5_state 2 (some .int), Cond.methodLink RL 169 yL_startTime, Cond.static yL_startTime, Cond.codeWith yL_startTime cL_startTime 4 (some .int) [(0, 9, 12, 24), (0, 9, 15, 15)], Cond.methodLink RL 44 yX4_startTime, Cond.instanceMethod yX4_startTime, Cond.selects RX4 yX4_startTime yX4_startTime, Cond.code yX4_startTime cX4_startTime 2 (some .int), Cond.fieldLink RX4 126 "BuddyBlockScheduler$Timetable" "from" "[I", Cond.methodLink RL 171 yX5_startTime, Cond.instanceMethod yX5_startTime, Cond.selects RX5 yX5_startTime yX5_startTime, Cond.code yX5_startTime cX5_startTime 2 (some .int), Cond.methodLink RX5 110 yX5_ofAllocated, Cond.instanceMethod yX5_ofAllocated, Cond.selects RX5 yX5_ofAllocated yX5_ofAllocated]
def wsL_law0_r21 : List Cond := [Cond.code yX5_ofAllocated cX5_ofAllocated 3 (some .int), Cond.methodLink RL 172 yL_firstProcessor, Cond.static yL_firstProcessor, Cond.codeWith yL_firstProcessor cL_firstProcessor 4 (some .int) [(0, 9, 12, 24), (0, 9, 15, 15)], Cond.methodLink RL 47 yX4_firstProcessor, Cond.instanceMethod yX4_firstProcessor, Cond.selects RX4 yX4_firstProcessor yX4_firstProcessor, Cond.code yX4_firstProcessor cX4_firstProcessor 2 (some .int), Cond.methodLink RL 174 yX5_firstProcessor, Cond.instanceMethod yX5_firstProcessor, Cond.selects RX5 yX5_firstProcessor yX5_firstProcessor, Cond.code yX5_firstProcessor cX5_firstProcessor 2 (some .int), Cond.methodLink RL 175 yL_promise, Cond.static yL_promise, Cond.codeWith yL_promise cL_promise 4 (some .int) [(0, 9, 12, 24)], Cond.methodLink RL 50 yX4_promise, Cond.instanceMethod yX4_promise, Cond.selects RX4 yX4_promise yX4_promise, Cond.code yX4_promise cX4_promise 2 (some .int), Cond.fieldLink RX4 129 "BuddyBlockScheduler$Jobs" "promised" "[I", Cond.methodLink RL 177 yX5_promise, Cond.instanceMethod yX5_promise, Cond.selects RX5 yX5_promise yX5_promise, Cond.code yX5_promise cX5_promise 2 (some .int)]
def wsL_law0_r22 : List Cond := [Cond.methodLink RL 178 yL_finishTime, Cond.static yL_finishTime, Cond.codeWith yL_finishTime cL_finishTime 4 (some .int) [(0, 9, 12, 24), (0, 9, 15, 15)], Cond.methodLink RL 53 yX4_finishTime, Cond.instanceMethod yX4_finishTime, Cond.selects RX4 yX4_finishTime yX4_finishTime, Cond.code yX4_finishTime cX4_finishTime 2 (some .int), Cond.fieldLink RX4 135 "BuddyBlockScheduler$Jobs" "finishedAt" "[I", Cond.methodLink RX4 132 yX4_checkFinished, Cond.instanceMethod yX4_checkFinished, Cond.selects RX4 yX4_checkFinished yX4_checkFinished, Cond.code yX4_checkFinished cX4_checkFinished 2 none, Cond.methodLink RL 180 yX5_finishTime, Cond.instanceMethod yX5_finishTime, Cond.selects RX5 yX5_finishTime yX5_finishTime, Cond.code yX5_finishTime cX5_finishTime 2 (some .int), Cond.methodLink RL 181 yL_preemptions, Cond.static yL_preemptions, Cond.codeWith yL_preemptions cL_preemptions 4 (some .int) [(0, 9, 12, 24)], Cond.methodLink RL 56 yX4_preemptions, Cond.instanceMethod yX4_preemptions, Cond.selects RX4 yX4_preemptions yX4_preemptions, Cond.code yX4_preemptions cX4_preemptions 2 (some .int), Cond.fieldLink RX4 138 "BuddyBlockScheduler$Jobs" "interruptions" "[I"]
def wsL_law0_r23 : List Cond := [Cond.methodLink RL 183 yX5_preemptions, Cond.instanceMethod yX5_preemptions, Cond.selects RX5 yX5_preemptions yX5_preemptions, Cond.code yX5_preemptions cX5_preemptions 2 (some .int), Cond.methodLink RL 184 yL_waitTime, Cond.static yL_waitTime, Cond.codeWith yL_waitTime cL_waitTime 4 (some .int) [(0, 9, 12, 24), (0, 9, 15, 15)], Cond.methodLink RL 59 yX4_waitTime, Cond.instanceMethod yX4_waitTime, Cond.selects RX4 yX4_waitTime yX4_waitTime, Cond.code yX4_waitTime cX4_waitTime 2 (some .int), Cond.methodLink RX4 141 yX2_wasStarted, Cond.methodLink RX4 146 yX2_waited, Cond.instanceMethod yX2_waited, Cond.selects RX2 yX2_waited yX2_waited, Cond.code yX2_waited cX2_waited 2 (some .int), Cond.methodLink RL 186 yX5_waitTime, Cond.instanceMethod yX5_waitTime, Cond.selects RX5 yX5_waitTime yX5_waitTime, Cond.code yX5_waitTime cX5_waitTime 2 (some .int), Cond.methodLink RL 187 yL_averageWait, Cond.static yL_averageWait, Cond.codeWith yL_averageWait cL_averageWait 3 (some .int) [(0, 7, 10, 66)], Cond.classLink RL 66 "java/lang/ArithmeticException"]
def wsL_law0_r24 : List Cond := [Cond.methodLink RL 62 yX4_averageWait, Cond.instanceMethod yX4_averageWait, Cond.selects RX4 yX4_averageWait yX4_averageWait, Cond.code yX4_averageWait cX4_averageWait 4 (some .double), Cond.classLink RX4 150 "java/lang/ArithmeticException", Cond.initialized "java/lang/ArithmeticException", Cond.methodLink RL 190 yX5_averageWait, Cond.instanceMethod yX5_averageWait, Cond.selects RX5 yX5_averageWait yX5_averageWait, Cond.code yX5_averageWait cX5_averageWait 4 (some .double), Cond.methodLink RL 191 yL_slowdown, Cond.static yL_slowdown, Cond.codeWith yL_slowdown cL_slowdown 4 (some .int) [(0, 9, 12, 24), (0, 9, 15, 15)], Cond.methodLink RL 68 yX4_slowdown, Cond.instanceMethod yX4_slowdown, Cond.selects RX4 yX4_slowdown yX4_slowdown, Cond.code yX4_slowdown cX4_slowdown 3 (some .float), Cond.fieldLink RX4 155 "BuddyBlockScheduler$Jobs" "submittedAt" "[I", Cond.fieldLink RX4 158 "BuddyBlockScheduler$Jobs" "submittedRun" "[I", Cond.methodLink RL 194 yX5_slowdown, Cond.instanceMethod yX5_slowdown, Cond.selects RX5 yX5_slowdown yX5_slowdown, Cond.code yX5_slowdown cX5_slowdown 2 (some .float), Cond.methodLink RL 195 yL_usage]
def wsL_law0_r25 : List Cond := [Cond.static yL_usage, Cond.codeWith yL_usage cL_usage 4 (some .int) [(0, 9, 12, 24)], Cond.methodLink RL 72 yX4_usage, Cond.instanceMethod yX4_usage, Cond.selects RX4 yX4_usage yX4_usage, Cond.code yX4_usage cX4_usage 2 (some .int), Cond.methodLink RX4 166 yX0_usageOfUser, Cond.methodLink RL 197 yX5_usage, Cond.instanceMethod yX5_usage, Cond.selects RX5 yX5_usage yX5_usage, Cond.code yX5_usage cX5_usage 2 (some .int), Cond.methodLink RL 198 yL_utilization, Cond.static yL_utilization, Cond.codeWith yL_utilization cL_utilization 3 (some .int) [(0, 7, 10, 66)], Cond.methodLink RL 75 yX4_utilization, Cond.instanceMethod yX4_utilization, Cond.selects RX4 yX4_utilization yX4_utilization, Cond.code yX4_utilization cX4_utilization 3 (some .double), Cond.methodLink RL 200 yX5_utilization, Cond.instanceMethod yX5_utilization, Cond.selects RX5 yX5_utilization yX5_utilization, Cond.code yX5_utilization cX5_utilization 3 (some .double), Cond.methodLink RL 201 yX4_makespan, Cond.instanceMethod yX4_makespan]
def wsL_law0_r26 : List Cond := [Cond.selects RX4 yX4_makespan yX4_makespan, Cond.code yX4_makespan cX4_makespan 1 (some .int), Cond.methodLink RX4 174 Lib.Math.max.name, Cond.static Lib.Math.max.name, Cond.initialized "java/lang/Math", Cond.code Lib.Math.max.name Lib.Math.max.code 2 (some .int), Cond.methodLink RX4 171 yX3_endOfJobs, Cond.instanceMethod yX3_endOfJobs, Cond.selects RX3 yX3_endOfJobs yX3_endOfJobs, Cond.code yX3_endOfJobs cX3_endOfJobs 3 (some .int), Cond.methodLink RX3 38 Lib.Math.max.name, Cond.methodLink RL 204 yX5_makespan, Cond.instanceMethod yX5_makespan, Cond.selects RX5 yX5_makespan yX5_makespan, Cond.code yX5_makespan cX5_makespan 3 (some .int), Cond.methodLink RX5 113 Lib.Math.max.name, Cond.methodLink RL 205 yL_ownerAt, Cond.static yL_ownerAt, Cond.codeWith yL_ownerAt cL_ownerAt 5 (some .int) [(0, 10, 13, 24)], Cond.methodLink RL 78 yX4_ownerAt, Cond.instanceMethod yX4_ownerAt, Cond.selects RX4 yX4_ownerAt yX4_ownerAt, Cond.code yX4_ownerAt cX4_ownerAt 4 (some .int), Cond.methodLink RX4 181 yX3_slotAt]
def wsL_law0_r27 : List Cond := [Cond.instanceMethod yX3_slotAt, Cond.selects RX3 yX3_slotAt yX3_slotAt, Cond.code yX3_slotAt cX3_slotAt 5 (some .int), Cond.methodLink RL 207 yX5_ownerAt, Cond.instanceMethod yX5_ownerAt, Cond.selects RX5 yX5_ownerAt yX5_ownerAt, Cond.code yX5_ownerAt cX5_ownerAt 3 (some .int), Cond.methodLink RX5 118 yX5_owner, Cond.instanceMethod yX5_owner, Cond.selects RX5 yX5_owner yX5_owner, Cond.code yX5_owner cX5_owner 4 (some .int), Cond.methodLink RL 208 yL_freeProcessors, Cond.static yL_freeProcessors, Cond.codeWith yL_freeProcessors cL_freeProcessors 4 (some .int) [(0, 9, 12, 24)], Cond.methodLink RL 81 yX4_freeProcessors, Cond.instanceMethod yX4_freeProcessors, Cond.selects RX4 yX4_freeProcessors yX4_freeProcessors, Cond.code yX4_freeProcessors cX4_freeProcessors 2 (some .int), Cond.methodLink RX4 186 yX3_takenIn, Cond.methodLink RX4 189 yJ6_bitCount_0f7a4, Cond.static yJ6_bitCount_0f7a4, Cond.initialized RJ6, Cond.code yJ6_bitCount_0f7a4 cJ6_bitCount_0f7a4 1 (some .int), Cond.constant RJ6 265 (1431655765)]
def wsL_law0_r28 : List Cond := [Cond.constant RJ6 266 (858993459), Cond.constant RJ6 267 (252645135), Cond.methodLink RL 210 yX5_freeProcessors, Cond.instanceMethod yX5_freeProcessors, Cond.selects RX5 yX5_freeProcessors yX5_freeProcessors, Cond.code yX5_freeProcessors cX5_freeProcessors 2 (some .int), Cond.methodLink RX5 121 yX5_frees, Cond.instanceMethod yX5_frees, Cond.selects RX5 yX5_frees yX5_frees, Cond.code yX5_frees cX5_frees 4 (some .int), Cond.methodLink RL 211 yL_freeBlocks, Cond.static yL_freeBlocks, Cond.codeWith yL_freeBlocks cL_freeBlocks 4 (some .int) [(0, 9, 12, 24)], Cond.methodLink RL 84 yX4_freeBlocks, Cond.instanceMethod yX4_freeBlocks, Cond.selects RX4 yX4_freeBlocks yX4_freeBlocks, Cond.code yX4_freeBlocks cX4_freeBlocks 6 (some .int), Cond.methodLink RX4 196 yX4_takenNow, Cond.instanceMethod yX4_takenNow, Cond.selects RX4 yX4_takenNow yX4_takenNow, Cond.code yX4_takenNow cX4_takenNow 1 (some .int), Cond.methodLink RX4 199 yX4_isClear, Cond.static yX4_isClear, Cond.code yX4_isClear cX4_isClear 3 (some .boolean)]
def wsL_law0_r29 : List Cond := [Cond.methodLink RL 213 yX5_freeBlocks, Cond.instanceMethod yX5_freeBlocks, Cond.selects RX5 yX5_freeBlocks yX5_freeBlocks, Cond.code yX5_freeBlocks cX5_freeBlocks 5 (some .int), Cond.methodLink RX5 124 yX5_isFreeNow, Cond.instanceMethod yX5_isFreeNow, Cond.selects RX5 yX5_isFreeNow yX5_isFreeNow, Cond.code yX5_isFreeNow cX5_isFreeNow 4 (some .boolean), Cond.methodLink RL 214 yL_largestFree, Cond.static yL_largestFree, Cond.codeWith yL_largestFree cL_largestFree 3 (some .int) [(0, 8, 11, 91)], Cond.classLink RL 91 "java/util/NoSuchElementException", Cond.methodLink RL 87 yX4_largestFree, Cond.instanceMethod yX4_largestFree, Cond.selects RX4 yX4_largestFree yX4_largestFree, Cond.code yX4_largestFree cX4_largestFree 2 (some .int), Cond.classLink RX4 206 "java/util/NoSuchElementException", Cond.initialized "java/util/NoSuchElementException", Cond.methodLink RX4 203 yX4_largestClearOrder, Cond.static yX4_largestClearOrder, Cond.code yX4_largestClearOrder cX4_largestClearOrder 2 (some .int), Cond.methodLink RX4 268 yX4_lowestClear, Cond.methodLink RL 217 yX5_largestFree, Cond.instanceMethod yX5_largestFree]
def wsL_law0_r30 : List Cond := [Cond.selects RX5 yX5_largestFree yX5_largestFree, Cond.code yX5_largestFree cX5_largestFree 2 (some .int), Cond.methodLink RX5 127 yX5_largest, Cond.instanceMethod yX5_largest, Cond.selects RX5 yX5_largest yX5_largest, Cond.code yX5_largest cX5_largest 3 (some .int), Cond.methodLink RL 218 yL_fragmentation, Cond.static yL_fragmentation, Cond.codeWith yL_fragmentation cL_fragmentation 3 (some .int) [(0, 7, 10, 91)], Cond.methodLink RL 93 yX4_fragmentation, Cond.instanceMethod yX4_fragmentation, Cond.selects RX4 yX4_fragmentation yX4_fragmentation, Cond.code yX4_fragmentation cX4_fragmentation 4 (some .double), Cond.methodLink RL 220 yX5_fragmentation, Cond.instanceMethod yX5_fragmentation, Cond.selects RX5 yX5_fragmentation yX5_fragmentation, Cond.code yX5_fragmentation cX5_fragmentation 2 (some .double), Cond.methodLink RL 221 yL_earliestStart, Cond.static yL_earliestStart, Cond.codeWith yL_earliestStart cL_earliestStart 5 (some .int) [(0, 10, 13, 13)], Cond.methodLink RL 96 yX4_earliestStart, Cond.instanceMethod yX4_earliestStart, Cond.selects RX4 yX4_earliestStart yX4_earliestStart, Cond.code yX4_earliestStart cX4_earliestStart 3 (some .int)]
def wsL_law0_r31 : List Cond := [Cond.methodLink RX4 211 yX3_earliest, Cond.methodLink RL 223 yX5_earliestStart, Cond.instanceMethod yX5_earliestStart, Cond.selects RX5 yX5_earliestStart yX5_earliestStart, Cond.code yX5_earliestStart cX5_earliestStart 3 (some .int), Cond.methodLink RL 224 yL_lowestBlock, Cond.static yL_lowestBlock, Cond.codeWith yL_lowestBlock cL_lowestBlock 6 (some .int) [(0, 12, 15, 13), (0, 12, 19, 91)], Cond.methodLink RL 99 yX4_lowestBlock, Cond.instanceMethod yX4_lowestBlock, Cond.selects RX4 yX4_lowestBlock yX4_lowestBlock, Cond.code yX4_lowestBlock cX4_lowestBlock 5 (some .int), Cond.methodLink RL 226 yX5_lowestBlock, Cond.instanceMethod yX5_lowestBlock, Cond.selects RX5 yX5_lowestBlock yX5_lowestBlock, Cond.code yX5_lowestBlock cX5_lowestBlock 5 (some .int), Cond.methodLink RL 227 yL_blockStarts, Cond.static yL_blockStarts, Cond.codeWith yL_blockStarts cL_blockStarts 5 (some .int) [(0, 10, 13, 13)], Cond.methodLink RL 102 yX4_blockStarts, Cond.instanceMethod yX4_blockStarts, Cond.selects RX4 yX4_blockStarts yX4_blockStarts, Cond.code yX4_blockStarts cX4_blockStarts 3 (some .int), Cond.fieldLink RX4 225 "BuddyBlockScheduler$Cluster" "starts" "[I"]
def wsL_law0_r32 : List Cond := [Cond.methodLink RX4 219 yX4_isBlock, Cond.static yX4_isBlock, Cond.code yX4_isBlock cX4_isBlock 2 (some .boolean), Cond.methodLink RX4 228 yX4_blockIndex, Cond.methodLink RL 229 yX5_blockStarts, Cond.instanceMethod yX5_blockStarts, Cond.selects RX5 yX5_blockStarts yX5_blockStarts, Cond.code yX5_blockStarts cX5_blockStarts 3 (some .int), Cond.methodLink RL 230 yL_busiestBlock, Cond.static yL_busiestBlock, Cond.codeWith yL_busiestBlock cL_busiestBlock 3 (some .int) [(0, 8, 11, 91)], Cond.methodLink RL 105 yX4_busiestBlock, Cond.instanceMethod yX4_busiestBlock, Cond.selects RX4 yX4_busiestBlock yX4_busiestBlock, Cond.code yX4_busiestBlock cX4_busiestBlock 7 (some .int), Cond.methodLink RL 232 yX5_busiestBlock, Cond.instanceMethod yX5_busiestBlock, Cond.selects RX5 yX5_busiestBlock yX5_busiestBlock, Cond.code yX5_busiestBlock cX5_busiestBlock 5 (some .int), Cond.methodLink RL 233 yX4_eventCount, Cond.instanceMethod yX4_eventCount, Cond.selects RX4 yX4_eventCount yX4_eventCount, Cond.code yX4_eventCount cX4_eventCount 1 (some .int), Cond.fieldLink RX4 231 "BuddyBlockScheduler$Cluster" "log" "LBuddyBlockScheduler$EventLog;"]
def wsL_law0_r33 : List Cond := [Cond.fieldLink RX4 235 "BuddyBlockScheduler$EventLog" "count" "I", Cond.methodLink RL 236 yX5_eventCount, Cond.instanceMethod yX5_eventCount, Cond.selects RX5 yX5_eventCount yX5_eventCount, Cond.code yX5_eventCount cX5_eventCount 1 (some .int), Cond.methodLink RL 237 yL_event, Cond.static yL_event, Cond.codeWith yL_event cL_event 5 (some .int) [(0, 10, 13, 24)], Cond.methodLink RL 108 yX4_event, Cond.instanceMethod yX4_event, Cond.selects RX4 yX4_event yX4_event, Cond.code yX4_event cX4_event 3 (some .int), Cond.methodLink RX4 240 yX1_entry, Cond.instanceMethod yX1_entry, Cond.selects RX1 yX1_entry yX1_entry, Cond.code yX1_entry cX1_entry 4 (some .int), Cond.methodLink RL 239 yX5_event, Cond.instanceMethod yX5_event, Cond.selects RX5 yX5_event yX5_event, Cond.code yX5_event cX5_event 3 (some .int), Cond.methodLink RL 240 yX4_save, Cond.instanceMethod yX4_save, Cond.selects RX4 yX4_save yX4_save, Cond.code yX4_save cX4_save 1 none]
def wsL_law0_r34 : List Cond := [Cond.methodLink RX4 243 yX0_copyFrom, Cond.instanceMethod yX0_copyFrom, Cond.selects RX0 yX0_copyFrom yX0_copyFrom, Cond.code yX0_copyFrom cX0_copyFrom 2 none, Cond.methodLink RX0 167 arraycopyName, Cond.native arraycopyName, Cond.static arraycopyName, Cond.initialized "java/lang/System", Cond.methodLink RX0 157 yX3_copyFrom, Cond.instanceMethod yX3_copyFrom, Cond.selects RX3 yX3_copyFrom yX3_copyFrom, Cond.code yX3_copyFrom cX3_copyFrom 2 none, Cond.methodLink RX3 43 arraycopyName, Cond.methodLink RX0 161 yX2_copyFrom, Cond.instanceMethod yX2_copyFrom, Cond.selects RX2 yX2_copyFrom yX2_copyFrom, Cond.code yX2_copyFrom cX2_copyFrom 2 none, Cond.methodLink RX2 52 arraycopyName, Cond.methodLink RX0 164 yX1_copyFrom, Cond.instanceMethod yX1_copyFrom, Cond.selects RX1 yX1_copyFrom yX1_copyFrom, Cond.code yX1_copyFrom cX1_copyFrom 2 none, Cond.methodLink RX1 28 arraycopyName, Cond.methodLink RL 243 yX5_save]
def wsL_law0_r35 : List Cond := [Cond.instanceMethod yX5_save, Cond.selects RX5 yX5_save yX5_save, Cond.code yX5_save cX5_save 2 none, Cond.fieldLink RX5 130 "BuddyBlockSchedulerModel" "isSaved" "Z", Cond.methodLink RL 244 yL_restore, Cond.static yL_restore, Cond.codeWith yL_restore cL_restore 3 (some .int) [(0, 8, 11, 15)], Cond.methodLink RL 111 yX4_restore, Cond.instanceMethod yX4_restore, Cond.selects RX4 yX4_restore yX4_restore, Cond.code yX4_restore cX4_restore 1 (some .int), Cond.methodLink RL 246 yX5_restore, Cond.instanceMethod yX5_restore, Cond.selects RX5 yX5_restore yX5_restore, Cond.code yX5_restore cX5_restore 2 (some .int)]
def wsL_law0 : List Cond := (wsL_law0_r1 ++ (wsL_law0_r2 ++ (wsL_law0_r3 ++ (wsL_law0_r4 ++ (wsL_law0_r5 ++ (wsL_law0_r6 ++ (wsL_law0_r7 ++ (wsL_law0_r8 ++ (wsL_law0_r9 ++ (wsL_law0_r10 ++ (wsL_law0_r11 ++ (wsL_law0_r12 ++ (wsL_law0_r13 ++ (wsL_law0_r14 ++ (wsL_law0_r15 ++ (wsL_law0_r16 ++ (wsL_law0_r17 ++ (wsL_law0_r18 ++ (wsL_law0_r19 ++ (wsL_law0_r20 ++ (wsL_law0_r21 ++ (wsL_law0_r22 ++ (wsL_law0_r23 ++ (wsL_law0_r24 ++ (wsL_law0_r25 ++ (wsL_law0_r26 ++ (wsL_law0_r27 ++ (wsL_law0_r28 ++ (wsL_law0_r29 ++ (wsL_law0_r30 ++ (wsL_law0_r31 ++ (wsL_law0_r32 ++ (wsL_law0_r33 ++ (wsL_law0_r34 ++ wsL_law0_r35)))))))))))))))))))))))))))))))))) ++ wsX40 ++ wsX50 ++ wsX00 ++ wsX30 ++ wsX20 ++ wsX10 ++ ([] : List Cond)
def wsL_law : List Cond := wsL_law0 ++ (vx_atM "java/lang/ArrayIndexOutOfBoundsException" ["java/lang/IndexOutOfBoundsException", "java/lang/RuntimeException", "java/lang/Exception"]).filter goodWord ++ (vx_atS RX4 41 "java/lang/IllegalArgumentException" ["java/lang/RuntimeException", "java/lang/Exception"]).filter goodWord ++ (vx_atS RX4 57 "java/lang/IllegalStateException" ["java/lang/RuntimeException", "java/lang/Exception"]).filter goodWord ++ (vx_atS RX4 165 "java/lang/IndexOutOfBoundsException" ["java/lang/RuntimeException", "java/lang/Exception"]).filter goodWord ++ (vx_atS RX4 154 "java/lang/ArithmeticException" ["java/lang/RuntimeException", "java/lang/Exception"]).filter goodWord ++ (vx_atS RX4 210 "java/util/NoSuchElementException" ["java/lang/RuntimeException", "java/lang/Exception"]).filter goodWord ++ (vx_atM "java/lang/ArithmeticException" ["java/lang/RuntimeException", "java/lang/Exception"]).filter goodWord
abbrev vwCl : List vw_C := [(RJ0, TJ0, 2), (RJx00060, TJx00060, 6), (RX0, TX0, 9), (RX1, TX1, 5), (RX2, TX2, 13), (RX3, TX3, 4), (RX4, TX4, 4), (RX5, TX5, 7)]
theorem inlX0 : ∀ w ∈ wsX00, w ∈ wsL_law := fun _ h => List.mem_append_left _ (List.mem_append_left _ (List.mem_append_left _ (List.mem_append_left _ (List.mem_append_left _ (List.mem_append_left _ (List.mem_append_left _ (List.mem_append_left _ (List.mem_append_left _ (List.mem_append_left _ (List.mem_append_left _ (List.mem_append_right _ h)))))))))))
theorem inlX1 : ∀ w ∈ wsX10, w ∈ wsL_law := fun _ h => List.mem_append_left _ (List.mem_append_left _ (List.mem_append_left _ (List.mem_append_left _ (List.mem_append_left _ (List.mem_append_left _ (List.mem_append_left _ (List.mem_append_left _ (List.mem_append_right _ h))))))))
theorem inlX2 : ∀ w ∈ wsX20, w ∈ wsL_law := fun _ h => List.mem_append_left _ (List.mem_append_left _ (List.mem_append_left _ (List.mem_append_left _ (List.mem_append_left _ (List.mem_append_left _ (List.mem_append_left _ (List.mem_append_left _ (List.mem_append_left _ (List.mem_append_right _ h)))))))))
theorem inlX3 : ∀ w ∈ wsX30, w ∈ wsL_law := fun _ h => List.mem_append_left _ (List.mem_append_left _ (List.mem_append_left _ (List.mem_append_left _ (List.mem_append_left _ (List.mem_append_left _ (List.mem_append_left _ (List.mem_append_left _ (List.mem_append_left _ (List.mem_append_left _ (List.mem_append_right _ h))))))))))
theorem inlX4 : ∀ w ∈ wsX40, w ∈ wsL_law := fun _ h => List.mem_append_left _ (List.mem_append_left _ (List.mem_append_left _ (List.mem_append_left _ (List.mem_append_left _ (List.mem_append_left _ (List.mem_append_left _ (List.mem_append_left _ (List.mem_append_left _ (List.mem_append_left _ (List.mem_append_left _ (List.mem_append_left _ (List.mem_append_left _ (List.mem_append_right _ h)))))))))))))
theorem inlX5 : ∀ w ∈ wsX50, w ∈ wsL_law := fun _ h => List.mem_append_left _ (List.mem_append_left _ (List.mem_append_left _ (List.mem_append_left _ (List.mem_append_left _ (List.mem_append_left _ (List.mem_append_left _ (List.mem_append_left _ (List.mem_append_left _ (List.mem_append_left _ (List.mem_append_left _ (List.mem_append_left _ (List.mem_append_right _ h))))))))))))
end
section
theorem dX0_init_0 : decode cX0_init 0 = .ok (.aload_n 0, 1) := by decide +kernel
theorem dX0_init_1 : decode cX0_init 1 = .ok (.invokespecial 3, 3) := by decide +kernel
theorem dX0_init_4 : decode cX0_init 4 = .ok (.aload_n 0, 1) := by decide +kernel
theorem dX0_init_5 : decode cX0_init 5 = .ok (.new 9, 3) := by decide +kernel
theorem dX0_init_8 : decode cX0_init 8 = .ok (.dup, 1) := by decide +kernel
theorem dX0_init_9 : decode cX0_init 9 = .ok (.invokespecial 11, 3) := by decide +kernel
theorem dX0_init_12 : decode cX0_init 12 = .ok (.putfield 12, 3) := by decide +kernel
theorem dX0_init_15 : decode cX0_init 15 = .ok (.aload_n 0, 1) := by decide +kernel
theorem dX0_init_16 : decode cX0_init 16 = .ok (.new 18, 3) := by decide +kernel
theorem dX0_init_19 : decode cX0_init 19 = .ok (.dup, 1) := by decide +kernel
theorem dX0_init_20 : decode cX0_init 20 = .ok (.invokespecial 20, 3) := by decide +kernel
theorem dX0_init_23 : decode cX0_init 23 = .ok (.putfield 21, 3) := by decide +kernel
theorem dX0_init_26 : decode cX0_init 26 = .ok (.aload_n 0, 1) := by decide +kernel
theorem dX0_init_27 : decode cX0_init 27 = .ok (.new 25, 3) := by decide +kernel
theorem dX0_init_30 : decode cX0_init 30 = .ok (.dup, 1) := by decide +kernel
theorem dX0_init_31 : decode cX0_init 31 = .ok (.invokespecial 27, 3) := by decide +kernel
theorem dX0_init_34 : decode cX0_init 34 = .ok (.putfield 28, 3) := by decide +kernel
theorem dX0_init_37 : decode cX0_init 37 = .ok (.aload_n 0, 1) := by decide +kernel
theorem dX0_init_38 : decode cX0_init 38 = .ok (.bipush 64, 2) := by decide +kernel
theorem dX0_init_40 : decode cX0_init 40 = .ok (.newarray .int, 2) := by decide +kernel
theorem dX0_init_42 : decode cX0_init 42 = .ok (.putfield 32, 3) := by decide +kernel
theorem dX0_init_45 : decode cX0_init 45 = .ok (.aload_n 0, 1) := by decide +kernel
theorem dX0_init_46 : decode cX0_init 46 = .ok (.iconst 0, 1) := by decide +kernel
theorem dX0_init_47 : decode cX0_init 47 = .ok (.putfield 36, 3) := by decide +kernel
theorem dX0_init_50 : decode cX0_init 50 = .ok (.aload_n 0, 1) := by decide +kernel
theorem dX0_init_51 : decode cX0_init 51 = .ok (.iconst 0, 1) := by decide +kernel
theorem dX0_init_52 : decode cX0_init 52 = .ok (.putfield 40, 3) := by decide +kernel
theorem dX0_init_55 : decode cX0_init 55 = .ok (.aload_n 0, 1) := by decide +kernel
theorem dX0_init_56 : decode cX0_init 56 = .ok (.iconst 0, 1) := by decide +kernel
theorem dX0_init_57 : decode cX0_init 57 = .ok (.putfield 43, 3) := by decide +kernel
theorem dX0_init_60 : decode cX0_init 60 = .ok (.aload_n 0, 1) := by decide +kernel
theorem dX0_init_61 : decode cX0_init 61 = .ok (.bipush 24, 2) := by decide +kernel
theorem dX0_init_63 : decode cX0_init 63 = .ok (.newarray .int, 2) := by decide +kernel
theorem dX0_init_65 : decode cX0_init 65 = .ok (.putfield 47, 3) := by decide +kernel
theorem dX0_init_68 : decode cX0_init 68 = .ok (.aload_n 0, 1) := by decide +kernel
theorem dX0_init_69 : decode cX0_init 69 = .ok (.iconst 4, 1) := by decide +kernel
theorem dX0_init_70 : decode cX0_init 70 = .ok (.newarray .int, 2) := by decide +kernel
theorem dX0_init_72 : decode cX0_init 72 = .ok (.putfield 50, 3) := by decide +kernel
theorem dX0_init_75 : decode cX0_init 75 = .ok (.return_, 1) := by decide +kernel
theorem dX0_addJob_0 : decode cX0_addJob 0 = .ok (.aload_n 0, 1) := by decide +kernel
theorem dX0_addJob_1 : decode cX0_addJob 1 = .ok (.getfield 21, 3) := by decide +kernel
theorem dX0_addJob_4 : decode cX0_addJob 4 = .ok (.iload_n 1, 1) := by decide +kernel
theorem dX0_addJob_5 : decode cX0_addJob 5 = .ok (.iload_n 2, 1) := by decide +kernel
theorem dX0_addJob_6 : decode cX0_addJob 6 = .ok (.iload_n 3, 1) := by decide +kernel
theorem dX0_addJob_7 : decode cX0_addJob 7 = .ok (.iload 4, 2) := by decide +kernel
theorem dX0_addJob_9 : decode cX0_addJob 9 = .ok (.aload_n 0, 1) := by decide +kernel
theorem dX0_addJob_10 : decode cX0_addJob 10 = .ok (.getfield 36, 3) := by decide +kernel
theorem dX0_addJob_13 : decode cX0_addJob 13 = .ok (.invokevirtual 53, 3) := by decide +kernel
theorem dX0_addJob_16 : decode cX0_addJob 16 = .ok (.istore 5, 2) := by decide +kernel
theorem dX0_addJob_18 : decode cX0_addJob 18 = .ok (.aload_n 0, 1) := by decide +kernel
theorem dX0_addJob_19 : decode cX0_addJob 19 = .ok (.getfield 28, 3) := by decide +kernel
theorem dX0_addJob_22 : decode cX0_addJob 22 = .ok (.aload_n 0, 1) := by decide +kernel
theorem dX0_addJob_23 : decode cX0_addJob 23 = .ok (.getfield 36, 3) := by decide +kernel
theorem dX0_addJob_26 : decode cX0_addJob 26 = .ok (.iconst 0, 1) := by decide +kernel
theorem dX0_addJob_27 : decode cX0_addJob 27 = .ok (.iload 5, 2) := by decide +kernel
theorem dX0_addJob_29 : decode cX0_addJob 29 = .ok (.invokevirtual 57, 3) := by decide +kernel
theorem dX0_addJob_32 : decode cX0_addJob 32 = .ok (.aload_n 0, 1) := by decide +kernel
theorem dX0_addJob_33 : decode cX0_addJob 33 = .ok (.getfield 21, 3) := by decide +kernel
theorem dX0_addJob_36 : decode cX0_addJob 36 = .ok (.getfield 61, 3) := by decide +kernel
theorem dX0_addJob_39 : decode cX0_addJob 39 = .ok (.iload 5, 2) := by decide +kernel
theorem dX0_addJob_41 : decode cX0_addJob 41 = .ok (.aload_n 0, 1) := by decide +kernel
theorem dX0_addJob_42 : decode cX0_addJob 42 = .ok (.iload 5, 2) := by decide +kernel
theorem dX0_addJob_44 : decode cX0_addJob 44 = .ok (.invokevirtual 64, 3) := by decide +kernel
theorem dX0_addJob_47 : decode cX0_addJob 47 = .ok (.iastore, 1) := by decide +kernel
theorem dX0_addJob_48 : decode cX0_addJob 48 = .ok (.aload_n 0, 1) := by decide +kernel
theorem dX0_addJob_49 : decode cX0_addJob 49 = .ok (.invokevirtual 68, 3) := by decide +kernel
theorem dX0_addJob_52 : decode cX0_addJob 52 = .ok (.aload_n 0, 1) := by decide +kernel
theorem dX0_addJob_53 : decode cX0_addJob 53 = .ok (.getfield 21, 3) := by decide +kernel
theorem dX0_addJob_56 : decode cX0_addJob 56 = .ok (.getfield 61, 3) := by decide +kernel
theorem dX0_addJob_59 : decode cX0_addJob 59 = .ok (.iload 5, 2) := by decide +kernel
theorem dX0_addJob_61 : decode cX0_addJob 61 = .ok (.iaload, 1) := by decide +kernel
theorem dX0_addJob_62 : decode cX0_addJob 62 = .ok (.ireturn, 1) := by decide +kernel
theorem dX0_dropJob_0 : decode cX0_dropJob 0 = .ok (.aload_n 0, 1) := by decide +kernel
theorem dX0_dropJob_1 : decode cX0_dropJob 1 = .ok (.iload_n 1, 1) := by decide +kernel
theorem dX0_dropJob_2 : decode cX0_dropJob 2 = .ok (.iconst 3, 1) := by decide +kernel
theorem dX0_dropJob_3 : decode cX0_dropJob 3 = .ok (.invokevirtual 71, 3) := by decide +kernel
theorem dX0_dropJob_6 : decode cX0_dropJob 6 = .ok (.aload_n 0, 1) := by decide +kernel
theorem dX0_dropJob_7 : decode cX0_dropJob 7 = .ok (.getfield 12, 3) := by decide +kernel
theorem dX0_dropJob_10 : decode cX0_dropJob 10 = .ok (.iload_n 1, 1) := by decide +kernel
theorem dX0_dropJob_11 : decode cX0_dropJob 11 = .ok (.invokevirtual 75, 3) := by decide +kernel
theorem dX0_dropJob_14 : decode cX0_dropJob 14 = .ok (.aload_n 0, 1) := by decide +kernel
theorem dX0_dropJob_15 : decode cX0_dropJob 15 = .ok (.getfield 28, 3) := by decide +kernel
theorem dX0_dropJob_18 : decode cX0_dropJob 18 = .ok (.aload_n 0, 1) := by decide +kernel
theorem dX0_dropJob_19 : decode cX0_dropJob 19 = .ok (.getfield 36, 3) := by decide +kernel
theorem dX0_dropJob_22 : decode cX0_dropJob 22 = .ok (.iconst 3, 1) := by decide +kernel
theorem dX0_dropJob_23 : decode cX0_dropJob 23 = .ok (.iload_n 1, 1) := by decide +kernel
theorem dX0_dropJob_24 : decode cX0_dropJob 24 = .ok (.invokevirtual 57, 3) := by decide +kernel
theorem dX0_dropJob_27 : decode cX0_dropJob 27 = .ok (.aload_n 0, 1) := by decide +kernel
theorem dX0_dropJob_28 : decode cX0_dropJob 28 = .ok (.invokevirtual 79, 3) := by decide +kernel
theorem dX0_dropJob_31 : decode cX0_dropJob 31 = .ok (.aload_n 0, 1) := by decide +kernel
theorem dX0_dropJob_32 : decode cX0_dropJob 32 = .ok (.invokevirtual 68, 3) := by decide +kernel
theorem dX0_dropJob_35 : decode cX0_dropJob 35 = .ok (.return_, 1) := by decide +kernel
theorem dX0_interrupt_0 : decode cX0_interrupt 0 = .ok (.iload_n 2, 1) := by decide +kernel
theorem dX0_interrupt_1 : decode cX0_interrupt 1 = .ok (.aload_n 0, 1) := by decide +kernel
theorem dX0_interrupt_2 : decode cX0_interrupt 2 = .ok (.getfield 36, 3) := by decide +kernel
theorem dX0_interrupt_5 : decode cX0_interrupt 5 = .ok (.aload_n 0, 1) := by decide +kernel
theorem dX0_interrupt_6 : decode cX0_interrupt 6 = .ok (.getfield 12, 3) := by decide +kernel
theorem dX0_interrupt_9 : decode cX0_interrupt 9 = .ok (.getfield 82, 3) := by decide +kernel
theorem dX0_interrupt_12 : decode cX0_interrupt 12 = .ok (.iload_n 1, 1) := by decide +kernel
theorem dX0_interrupt_13 : decode cX0_interrupt 13 = .ok (.iaload, 1) := by decide +kernel
theorem dX0_interrupt_14 : decode cX0_interrupt 14 = .ok (.isub, 1) := by decide +kernel
theorem dX0_interrupt_15 : decode cX0_interrupt 15 = .ok (.isub, 1) := by decide +kernel
theorem dX0_interrupt_16 : decode cX0_interrupt 16 = .ok (.istore_n 3, 1) := by decide +kernel
theorem dX0_interrupt_17 : decode cX0_interrupt 17 = .ok (.aload_n 0, 1) := by decide +kernel
theorem dX0_interrupt_18 : decode cX0_interrupt 18 = .ok (.getfield 21, 3) := by decide +kernel
theorem dX0_interrupt_21 : decode cX0_interrupt 21 = .ok (.getfield 85, 3) := by decide +kernel
theorem dX0_interrupt_24 : decode cX0_interrupt 24 = .ok (.iload_n 1, 1) := by decide +kernel
theorem dX0_interrupt_25 : decode cX0_interrupt 25 = .ok (.dup2, 1) := by decide +kernel
theorem dX0_interrupt_26 : decode cX0_interrupt 26 = .ok (.iaload, 1) := by decide +kernel
theorem dX0_interrupt_27 : decode cX0_interrupt 27 = .ok (.iload_n 3, 1) := by decide +kernel
theorem dX0_interrupt_28 : decode cX0_interrupt 28 = .ok (.iadd, 1) := by decide +kernel
theorem dX0_interrupt_29 : decode cX0_interrupt 29 = .ok (.iastore, 1) := by decide +kernel
theorem dX0_interrupt_30 : decode cX0_interrupt 30 = .ok (.aload_n 0, 1) := by decide +kernel
theorem dX0_interrupt_31 : decode cX0_interrupt 31 = .ok (.getfield 21, 3) := by decide +kernel
theorem dX0_interrupt_34 : decode cX0_interrupt 34 = .ok (.getfield 88, 3) := by decide +kernel
theorem dX0_interrupt_37 : decode cX0_interrupt 37 = .ok (.iload_n 1, 1) := by decide +kernel
theorem dX0_interrupt_38 : decode cX0_interrupt 38 = .ok (.dup2, 1) := by decide +kernel
theorem dX0_interrupt_39 : decode cX0_interrupt 39 = .ok (.iaload, 1) := by decide +kernel
theorem dX0_interrupt_40 : decode cX0_interrupt 40 = .ok (.iload_n 3, 1) := by decide +kernel
theorem dX0_interrupt_41 : decode cX0_interrupt 41 = .ok (.iadd, 1) := by decide +kernel
theorem dX0_interrupt_42 : decode cX0_interrupt 42 = .ok (.iastore, 1) := by decide +kernel
theorem dX0_interrupt_43 : decode cX0_interrupt 43 = .ok (.aload_n 0, 1) := by decide +kernel
theorem dX0_interrupt_44 : decode cX0_interrupt 44 = .ok (.getfield 21, 3) := by decide +kernel
theorem dX0_interrupt_47 : decode cX0_interrupt 47 = .ok (.getfield 91, 3) := by decide +kernel
theorem dX0_interrupt_50 : decode cX0_interrupt 50 = .ok (.iload_n 1, 1) := by decide +kernel
theorem dX0_interrupt_51 : decode cX0_interrupt 51 = .ok (.dup2, 1) := by decide +kernel
theorem dX0_interrupt_52 : decode cX0_interrupt 52 = .ok (.iaload, 1) := by decide +kernel
theorem dX0_interrupt_53 : decode cX0_interrupt 53 = .ok (.iconst 1, 1) := by decide +kernel
theorem dX0_interrupt_54 : decode cX0_interrupt 54 = .ok (.iadd, 1) := by decide +kernel
theorem dX0_interrupt_55 : decode cX0_interrupt 55 = .ok (.iastore, 1) := by decide +kernel
theorem dX0_interrupt_56 : decode cX0_interrupt 56 = .ok (.aload_n 0, 1) := by decide +kernel
theorem dX0_interrupt_57 : decode cX0_interrupt 57 = .ok (.iload_n 1, 1) := by decide +kernel
theorem dX0_interrupt_58 : decode cX0_interrupt 58 = .ok (.iconst 4, 1) := by decide +kernel
theorem dX0_interrupt_59 : decode cX0_interrupt 59 = .ok (.invokevirtual 71, 3) := by decide +kernel
theorem dX0_interrupt_62 : decode cX0_interrupt 62 = .ok (.aload_n 0, 1) := by decide +kernel
theorem dX0_interrupt_63 : decode cX0_interrupt 63 = .ok (.getfield 12, 3) := by decide +kernel
theorem dX0_interrupt_66 : decode cX0_interrupt 66 = .ok (.iload_n 1, 1) := by decide +kernel
theorem dX0_interrupt_67 : decode cX0_interrupt 67 = .ok (.invokevirtual 75, 3) := by decide +kernel
theorem dX0_interrupt_70 : decode cX0_interrupt 70 = .ok (.aload_n 0, 1) := by decide +kernel
theorem dX0_interrupt_71 : decode cX0_interrupt 71 = .ok (.getfield 28, 3) := by decide +kernel
theorem dX0_interrupt_74 : decode cX0_interrupt 74 = .ok (.aload_n 0, 1) := by decide +kernel
theorem dX0_interrupt_75 : decode cX0_interrupt 75 = .ok (.getfield 36, 3) := by decide +kernel
theorem dX0_interrupt_78 : decode cX0_interrupt 78 = .ok (.iconst 4, 1) := by decide +kernel
theorem dX0_interrupt_79 : decode cX0_interrupt 79 = .ok (.iload_n 1, 1) := by decide +kernel
theorem dX0_interrupt_80 : decode cX0_interrupt 80 = .ok (.invokevirtual 57, 3) := by decide +kernel
theorem dX0_interrupt_83 : decode cX0_interrupt 83 = .ok (.aload_n 0, 1) := by decide +kernel
theorem dX0_interrupt_84 : decode cX0_interrupt 84 = .ok (.invokevirtual 79, 3) := by decide +kernel
theorem dX0_interrupt_87 : decode cX0_interrupt 87 = .ok (.aload_n 0, 1) := by decide +kernel
theorem dX0_interrupt_88 : decode cX0_interrupt 88 = .ok (.getfield 21, 3) := by decide +kernel
theorem dX0_interrupt_91 : decode cX0_interrupt 91 = .ok (.getfield 94, 3) := by decide +kernel
theorem dX0_interrupt_94 : decode cX0_interrupt 94 = .ok (.iload_n 1, 1) := by decide +kernel
theorem dX0_interrupt_95 : decode cX0_interrupt 95 = .ok (.iconst 0, 1) := by decide +kernel
theorem dX0_interrupt_96 : decode cX0_interrupt 96 = .ok (.iastore, 1) := by decide +kernel
theorem dX0_interrupt_97 : decode cX0_interrupt 97 = .ok (.aload_n 0, 1) := by decide +kernel
theorem dX0_interrupt_98 : decode cX0_interrupt 98 = .ok (.iload_n 1, 1) := by decide +kernel
theorem dX0_interrupt_99 : decode cX0_interrupt 99 = .ok (.invokevirtual 64, 3) := by decide +kernel
theorem dX0_interrupt_102 : decode cX0_interrupt 102 = .ok (.istore 4, 2) := by decide +kernel
theorem dX0_interrupt_104 : decode cX0_interrupt 104 = .ok (.aload_n 0, 1) := by decide +kernel
theorem dX0_interrupt_105 : decode cX0_interrupt 105 = .ok (.invokevirtual 68, 3) := by decide +kernel
theorem dX0_interrupt_108 : decode cX0_interrupt 108 = .ok (.iload 4, 2) := by decide +kernel
theorem dX0_interrupt_110 : decode cX0_interrupt 110 = .ok (.ireturn, 1) := by decide +kernel
theorem dX0_addReservation_0 : decode cX0_addReservation 0 = .ok (.aload_n 0, 1) := by decide +kernel
theorem dX0_addReservation_1 : decode cX0_addReservation 1 = .ok (.getfield 40, 3) := by decide +kernel
theorem dX0_addReservation_4 : decode cX0_addReservation 4 = .ok (.istore 4, 2) := by decide +kernel
theorem dX0_addReservation_6 : decode cX0_addReservation 6 = .ok (.aload_n 0, 1) := by decide +kernel
theorem dX0_addReservation_7 : decode cX0_addReservation 7 = .ok (.getfield 12, 3) := by decide +kernel
theorem dX0_addReservation_10 : decode cX0_addReservation 10 = .ok (.iload_n 1, 1) := by decide +kernel
theorem dX0_addReservation_11 : decode cX0_addReservation 11 = .ok (.iload_n 2, 1) := by decide +kernel
theorem dX0_addReservation_12 : decode cX0_addReservation 12 = .ok (.iload_n 3, 1) := by decide +kernel
theorem dX0_addReservation_13 : decode cX0_addReservation 13 = .ok (.invokevirtual 97, 3) := by decide +kernel
theorem dX0_addReservation_16 : decode cX0_addReservation 16 = .ok (.istore 5, 2) := by decide +kernel
theorem dX0_addReservation_18 : decode cX0_addReservation 18 = .ok (.aload_n 0, 1) := by decide +kernel
theorem dX0_addReservation_19 : decode cX0_addReservation 19 = .ok (.getfield 12, 3) := by decide +kernel
theorem dX0_addReservation_22 : decode cX0_addReservation 22 = .ok (.bipush 24, 2) := by decide +kernel
theorem dX0_addReservation_24 : decode cX0_addReservation 24 = .ok (.iload 4, 2) := by decide +kernel
theorem dX0_addReservation_26 : decode cX0_addReservation 26 = .ok (.iadd, 1) := by decide +kernel
theorem dX0_addReservation_27 : decode cX0_addReservation 27 = .ok (.iload_n 1, 1) := by decide +kernel
theorem dX0_addReservation_28 : decode cX0_addReservation 28 = .ok (.iload 5, 2) := by decide +kernel
theorem dX0_addReservation_30 : decode cX0_addReservation 30 = .ok (.iload_n 2, 1) := by decide +kernel
theorem dX0_addReservation_31 : decode cX0_addReservation 31 = .ok (.iload_n 3, 1) := by decide +kernel
theorem dX0_addReservation_32 : decode cX0_addReservation 32 = .ok (.invokevirtual 101, 3) := by decide +kernel
theorem dX0_addReservation_35 : decode cX0_addReservation 35 = .ok (.aload_n 0, 1) := by decide +kernel
theorem dX0_addReservation_36 : decode cX0_addReservation 36 = .ok (.dup, 1) := by decide +kernel
theorem dX0_addReservation_37 : decode cX0_addReservation 37 = .ok (.getfield 40, 3) := by decide +kernel
theorem dX0_addReservation_40 : decode cX0_addReservation 40 = .ok (.iconst 1, 1) := by decide +kernel
theorem dX0_addReservation_41 : decode cX0_addReservation 41 = .ok (.iadd, 1) := by decide +kernel
theorem dX0_addReservation_42 : decode cX0_addReservation 42 = .ok (.putfield 40, 3) := by decide +kernel
theorem dX0_addReservation_45 : decode cX0_addReservation 45 = .ok (.iload 4, 2) := by decide +kernel
theorem dX0_addReservation_47 : decode cX0_addReservation 47 = .ok (.ireturn, 1) := by decide +kernel
theorem dX0_dropReservation_0 : decode cX0_dropReservation 0 = .ok (.aload_n 0, 1) := by decide +kernel
theorem dX0_dropReservation_1 : decode cX0_dropReservation 1 = .ok (.getfield 12, 3) := by decide +kernel
theorem dX0_dropReservation_4 : decode cX0_dropReservation 4 = .ok (.bipush 24, 2) := by decide +kernel
theorem dX0_dropReservation_6 : decode cX0_dropReservation 6 = .ok (.iload_n 1, 1) := by decide +kernel
theorem dX0_dropReservation_7 : decode cX0_dropReservation 7 = .ok (.iadd, 1) := by decide +kernel
theorem dX0_dropReservation_8 : decode cX0_dropReservation 8 = .ok (.invokevirtual 75, 3) := by decide +kernel
theorem dX0_dropReservation_11 : decode cX0_dropReservation 11 = .ok (.aload_n 0, 1) := by decide +kernel
theorem dX0_dropReservation_12 : decode cX0_dropReservation 12 = .ok (.invokevirtual 79, 3) := by decide +kernel
theorem dX0_dropReservation_15 : decode cX0_dropReservation 15 = .ok (.aload_n 0, 1) := by decide +kernel
theorem dX0_dropReservation_16 : decode cX0_dropReservation 16 = .ok (.invokevirtual 68, 3) := by decide +kernel
theorem dX0_dropReservation_19 : decode cX0_dropReservation 19 = .ok (.return_, 1) := by decide +kernel
theorem dX0_tick_0 : decode cX0_tick 0 = .ok (.aload_n 0, 1) := by decide +kernel
theorem dX0_tick_1 : decode cX0_tick 1 = .ok (.dup, 1) := by decide +kernel
theorem dX0_tick_2 : decode cX0_tick 2 = .ok (.getfield 36, 3) := by decide +kernel
theorem dX0_tick_5 : decode cX0_tick 5 = .ok (.iconst 1, 1) := by decide +kernel
theorem dX0_tick_6 : decode cX0_tick 6 = .ok (.iadd, 1) := by decide +kernel
theorem dX0_tick_7 : decode cX0_tick 7 = .ok (.putfield 36, 3) := by decide +kernel
theorem dX0_tick_10 : decode cX0_tick 10 = .ok (.aload_n 0, 1) := by decide +kernel
theorem dX0_tick_11 : decode cX0_tick 11 = .ok (.invokevirtual 105, 3) := by decide +kernel
theorem dX0_tick_14 : decode cX0_tick 14 = .ok (.istore_n 1, 1) := by decide +kernel
theorem dX0_tick_15 : decode cX0_tick 15 = .ok (.iload_n 1, 1) := by decide +kernel
theorem dX0_tick_16 : decode cX0_tick 16 = .ok (.ifCond .le 7, 3) := by decide +kernel
theorem dX0_tick_19 : decode cX0_tick 19 = .ok (.aload_n 0, 1) := by decide +kernel
theorem dX0_tick_20 : decode cX0_tick 20 = .ok (.invokevirtual 79, 3) := by decide +kernel
theorem dX0_tick_23 : decode cX0_tick 23 = .ok (.aload_n 0, 1) := by decide +kernel
theorem dX0_tick_24 : decode cX0_tick 24 = .ok (.invokevirtual 68, 3) := by decide +kernel
theorem dX0_tick_27 : decode cX0_tick 27 = .ok (.iload_n 1, 1) := by decide +kernel
theorem dX0_tick_28 : decode cX0_tick 28 = .ok (.ireturn, 1) := by decide +kernel
theorem dX0_finishJobs_0 : decode cX0_finishJobs 0 = .ok (.iconst 0, 1) := by decide +kernel
theorem dX0_finishJobs_1 : decode cX0_finishJobs 1 = .ok (.istore_n 1, 1) := by decide +kernel
theorem dX0_finishJobs_2 : decode cX0_finishJobs 2 = .ok (.iconst 0, 1) := by decide +kernel
theorem dX0_finishJobs_3 : decode cX0_finishJobs 3 = .ok (.istore_n 2, 1) := by decide +kernel
theorem dX0_finishJobs_4 : decode cX0_finishJobs 4 = .ok (.iload_n 2, 1) := by decide +kernel
theorem dX0_finishJobs_5 : decode cX0_finishJobs 5 = .ok (.aload_n 0, 1) := by decide +kernel
theorem dX0_finishJobs_6 : decode cX0_finishJobs 6 = .ok (.getfield 21, 3) := by decide +kernel
theorem dX0_finishJobs_9 : decode cX0_finishJobs 9 = .ok (.getfield 109, 3) := by decide +kernel
theorem dX0_finishJobs_12 : decode cX0_finishJobs 12 = .ok (.if_icmp .ge 91, 3) := by decide +kernel
theorem dX0_finishJobs_15 : decode cX0_finishJobs 15 = .ok (.aload_n 0, 1) := by decide +kernel
theorem dX0_finishJobs_16 : decode cX0_finishJobs 16 = .ok (.getfield 21, 3) := by decide +kernel
theorem dX0_finishJobs_19 : decode cX0_finishJobs 19 = .ok (.getfield 94, 3) := by decide +kernel
theorem dX0_finishJobs_22 : decode cX0_finishJobs 22 = .ok (.iload_n 2, 1) := by decide +kernel
theorem dX0_finishJobs_23 : decode cX0_finishJobs 23 = .ok (.iaload, 1) := by decide +kernel
theorem dX0_finishJobs_24 : decode cX0_finishJobs 24 = .ok (.iconst 1, 1) := by decide +kernel
theorem dX0_finishJobs_25 : decode cX0_finishJobs 25 = .ok (.if_icmp .ne 72, 3) := by decide +kernel
theorem dX0_finishJobs_28 : decode cX0_finishJobs 28 = .ok (.aload_n 0, 1) := by decide +kernel
theorem dX0_finishJobs_29 : decode cX0_finishJobs 29 = .ok (.getfield 36, 3) := by decide +kernel
theorem dX0_finishJobs_32 : decode cX0_finishJobs 32 = .ok (.aload_n 0, 1) := by decide +kernel
theorem dX0_finishJobs_33 : decode cX0_finishJobs 33 = .ok (.getfield 12, 3) := by decide +kernel
theorem dX0_finishJobs_36 : decode cX0_finishJobs 36 = .ok (.getfield 82, 3) := by decide +kernel
theorem dX0_finishJobs_39 : decode cX0_finishJobs 39 = .ok (.iload_n 2, 1) := by decide +kernel
theorem dX0_finishJobs_40 : decode cX0_finishJobs 40 = .ok (.iaload, 1) := by decide +kernel
theorem dX0_finishJobs_41 : decode cX0_finishJobs 41 = .ok (.isub, 1) := by decide +kernel
theorem dX0_finishJobs_42 : decode cX0_finishJobs 42 = .ok (.aload_n 0, 1) := by decide +kernel
theorem dX0_finishJobs_43 : decode cX0_finishJobs 43 = .ok (.getfield 21, 3) := by decide +kernel
theorem dX0_finishJobs_46 : decode cX0_finishJobs 46 = .ok (.getfield 88, 3) := by decide +kernel
theorem dX0_finishJobs_49 : decode cX0_finishJobs 49 = .ok (.iload_n 2, 1) := by decide +kernel
theorem dX0_finishJobs_50 : decode cX0_finishJobs 50 = .ok (.iaload, 1) := by decide +kernel
theorem dX0_finishJobs_51 : decode cX0_finishJobs 51 = .ok (.if_icmp .ne 46, 3) := by decide +kernel
theorem dX0_finishJobs_54 : decode cX0_finishJobs 54 = .ok (.aload_n 0, 1) := by decide +kernel
theorem dX0_finishJobs_55 : decode cX0_finishJobs 55 = .ok (.iload_n 2, 1) := by decide +kernel
theorem dX0_finishJobs_56 : decode cX0_finishJobs 56 = .ok (.iconst 2, 1) := by decide +kernel
theorem dX0_finishJobs_57 : decode cX0_finishJobs 57 = .ok (.invokevirtual 71, 3) := by decide +kernel
theorem dX0_finishJobs_60 : decode cX0_finishJobs 60 = .ok (.aload_n 0, 1) := by decide +kernel
theorem dX0_finishJobs_61 : decode cX0_finishJobs 61 = .ok (.getfield 12, 3) := by decide +kernel
theorem dX0_finishJobs_64 : decode cX0_finishJobs 64 = .ok (.iload_n 2, 1) := by decide +kernel
theorem dX0_finishJobs_65 : decode cX0_finishJobs 65 = .ok (.invokevirtual 75, 3) := by decide +kernel
theorem dX0_finishJobs_68 : decode cX0_finishJobs 68 = .ok (.aload_n 0, 1) := by decide +kernel
theorem dX0_finishJobs_69 : decode cX0_finishJobs 69 = .ok (.getfield 21, 3) := by decide +kernel
theorem dX0_finishJobs_72 : decode cX0_finishJobs 72 = .ok (.getfield 112, 3) := by decide +kernel
theorem dX0_finishJobs_75 : decode cX0_finishJobs 75 = .ok (.iload_n 2, 1) := by decide +kernel
theorem dX0_finishJobs_76 : decode cX0_finishJobs 76 = .ok (.aload_n 0, 1) := by decide +kernel
theorem dX0_finishJobs_77 : decode cX0_finishJobs 77 = .ok (.getfield 36, 3) := by decide +kernel
theorem dX0_finishJobs_80 : decode cX0_finishJobs 80 = .ok (.iastore, 1) := by decide +kernel
theorem dX0_finishJobs_81 : decode cX0_finishJobs 81 = .ok (.aload_n 0, 1) := by decide +kernel
theorem dX0_finishJobs_82 : decode cX0_finishJobs 82 = .ok (.getfield 28, 3) := by decide +kernel
theorem dX0_finishJobs_85 : decode cX0_finishJobs 85 = .ok (.aload_n 0, 1) := by decide +kernel
theorem dX0_finishJobs_86 : decode cX0_finishJobs 86 = .ok (.getfield 36, 3) := by decide +kernel
theorem dX0_finishJobs_89 : decode cX0_finishJobs 89 = .ok (.iconst 2, 1) := by decide +kernel
theorem dX0_finishJobs_90 : decode cX0_finishJobs 90 = .ok (.iload_n 2, 1) := by decide +kernel
theorem dX0_finishJobs_91 : decode cX0_finishJobs 91 = .ok (.invokevirtual 57, 3) := by decide +kernel
theorem dX0_finishJobs_94 : decode cX0_finishJobs 94 = .ok (.iinc 1 1, 3) := by decide +kernel
theorem dX0_finishJobs_97 : decode cX0_finishJobs 97 = .ok (.iinc 2 1, 3) := by decide +kernel
theorem dX0_finishJobs_100 : decode cX0_finishJobs 100 = .ok (.goto (-96), 3) := by decide +kernel
theorem dX0_finishJobs_103 : decode cX0_finishJobs 103 = .ok (.iload_n 1, 1) := by decide +kernel
theorem dX0_finishJobs_104 : decode cX0_finishJobs 104 = .ok (.ireturn, 1) := by decide +kernel
theorem dX0_startJobs_0 : decode cX0_startJobs 0 = .ok (.iconst 0, 1) := by decide +kernel
theorem dX0_startJobs_1 : decode cX0_startJobs 1 = .ok (.istore_n 1, 1) := by decide +kernel
theorem dX0_startJobs_2 : decode cX0_startJobs 2 = .ok (.iload_n 1, 1) := by decide +kernel
theorem dX0_startJobs_3 : decode cX0_startJobs 3 = .ok (.aload_n 0, 1) := by decide +kernel
theorem dX0_startJobs_4 : decode cX0_startJobs 4 = .ok (.getfield 21, 3) := by decide +kernel
theorem dX0_startJobs_7 : decode cX0_startJobs 7 = .ok (.getfield 109, 3) := by decide +kernel
theorem dX0_startJobs_10 : decode cX0_startJobs 10 = .ok (.if_icmp .ge 114, 3) := by decide +kernel
theorem dX0_startJobs_13 : decode cX0_startJobs 13 = .ok (.aload_n 0, 1) := by decide +kernel
theorem dX0_startJobs_14 : decode cX0_startJobs 14 = .ok (.getfield 21, 3) := by decide +kernel
theorem dX0_startJobs_17 : decode cX0_startJobs 17 = .ok (.getfield 94, 3) := by decide +kernel
theorem dX0_startJobs_20 : decode cX0_startJobs 20 = .ok (.iload_n 1, 1) := by decide +kernel
theorem dX0_startJobs_21 : decode cX0_startJobs 21 = .ok (.iaload, 1) := by decide +kernel
theorem dX0_startJobs_22 : decode cX0_startJobs 22 = .ok (.ifCond .ne 96, 3) := by decide +kernel
theorem dX0_startJobs_25 : decode cX0_startJobs 25 = .ok (.aload_n 0, 1) := by decide +kernel
theorem dX0_startJobs_26 : decode cX0_startJobs 26 = .ok (.getfield 12, 3) := by decide +kernel
theorem dX0_startJobs_29 : decode cX0_startJobs 29 = .ok (.getfield 82, 3) := by decide +kernel
theorem dX0_startJobs_32 : decode cX0_startJobs 32 = .ok (.iload_n 1, 1) := by decide +kernel
theorem dX0_startJobs_33 : decode cX0_startJobs 33 = .ok (.iaload, 1) := by decide +kernel
theorem dX0_startJobs_34 : decode cX0_startJobs 34 = .ok (.aload_n 0, 1) := by decide +kernel
theorem dX0_startJobs_35 : decode cX0_startJobs 35 = .ok (.getfield 36, 3) := by decide +kernel
theorem dX0_startJobs_38 : decode cX0_startJobs 38 = .ok (.if_icmp .ne 80, 3) := by decide +kernel
theorem dX0_startJobs_41 : decode cX0_startJobs 41 = .ok (.aload_n 0, 1) := by decide +kernel
theorem dX0_startJobs_42 : decode cX0_startJobs 42 = .ok (.getfield 21, 3) := by decide +kernel
theorem dX0_startJobs_45 : decode cX0_startJobs 45 = .ok (.getfield 94, 3) := by decide +kernel
theorem dX0_startJobs_48 : decode cX0_startJobs 48 = .ok (.iload_n 1, 1) := by decide +kernel
theorem dX0_startJobs_49 : decode cX0_startJobs 49 = .ok (.iconst 1, 1) := by decide +kernel
theorem dX0_startJobs_50 : decode cX0_startJobs 50 = .ok (.iastore, 1) := by decide +kernel
theorem dX0_startJobs_51 : decode cX0_startJobs 51 = .ok (.aload_n 0, 1) := by decide +kernel
theorem dX0_startJobs_52 : decode cX0_startJobs 52 = .ok (.getfield 21, 3) := by decide +kernel
theorem dX0_startJobs_55 : decode cX0_startJobs 55 = .ok (.iload_n 1, 1) := by decide +kernel
theorem dX0_startJobs_56 : decode cX0_startJobs 56 = .ok (.invokevirtual 115, 3) := by decide +kernel
theorem dX0_startJobs_59 : decode cX0_startJobs 59 = .ok (.ifCond .ne 16, 3) := by decide +kernel
theorem dX0_startJobs_62 : decode cX0_startJobs 62 = .ok (.aload_n 0, 1) := by decide +kernel
theorem dX0_startJobs_63 : decode cX0_startJobs 63 = .ok (.getfield 21, 3) := by decide +kernel
theorem dX0_startJobs_66 : decode cX0_startJobs 66 = .ok (.getfield 119, 3) := by decide +kernel
theorem dX0_startJobs_69 : decode cX0_startJobs 69 = .ok (.iload_n 1, 1) := by decide +kernel
theorem dX0_startJobs_70 : decode cX0_startJobs 70 = .ok (.aload_n 0, 1) := by decide +kernel
theorem dX0_startJobs_71 : decode cX0_startJobs 71 = .ok (.getfield 36, 3) := by decide +kernel
theorem dX0_startJobs_74 : decode cX0_startJobs 74 = .ok (.iastore, 1) := by decide +kernel
theorem dX0_startJobs_75 : decode cX0_startJobs 75 = .ok (.aload_n 0, 1) := by decide +kernel
theorem dX0_startJobs_76 : decode cX0_startJobs 76 = .ok (.getfield 32, 3) := by decide +kernel
theorem dX0_startJobs_79 : decode cX0_startJobs 79 = .ok (.aload_n 0, 1) := by decide +kernel
theorem dX0_startJobs_80 : decode cX0_startJobs 80 = .ok (.getfield 21, 3) := by decide +kernel
theorem dX0_startJobs_83 : decode cX0_startJobs 83 = .ok (.getfield 122, 3) := by decide +kernel
theorem dX0_startJobs_86 : decode cX0_startJobs 86 = .ok (.iload_n 1, 1) := by decide +kernel
theorem dX0_startJobs_87 : decode cX0_startJobs 87 = .ok (.iaload, 1) := by decide +kernel
theorem dX0_startJobs_88 : decode cX0_startJobs 88 = .ok (.aload_n 0, 1) := by decide +kernel
theorem dX0_startJobs_89 : decode cX0_startJobs 89 = .ok (.getfield 12, 3) := by decide +kernel
theorem dX0_startJobs_92 : decode cX0_startJobs 92 = .ok (.getfield 125, 3) := by decide +kernel
theorem dX0_startJobs_95 : decode cX0_startJobs 95 = .ok (.iload_n 1, 1) := by decide +kernel
theorem dX0_startJobs_96 : decode cX0_startJobs 96 = .ok (.iaload, 1) := by decide +kernel
theorem dX0_startJobs_97 : decode cX0_startJobs 97 = .ok (.invokestatic 128, 3) := by decide +kernel
theorem dX0_startJobs_100 : decode cX0_startJobs 100 = .ok (.dup2, 1) := by decide +kernel
theorem dX0_startJobs_101 : decode cX0_startJobs 101 = .ok (.iaload, 1) := by decide +kernel
theorem dX0_startJobs_102 : decode cX0_startJobs 102 = .ok (.iconst 1, 1) := by decide +kernel
theorem dX0_startJobs_103 : decode cX0_startJobs 103 = .ok (.iadd, 1) := by decide +kernel
theorem dX0_startJobs_104 : decode cX0_startJobs 104 = .ok (.iastore, 1) := by decide +kernel
theorem dX0_startJobs_105 : decode cX0_startJobs 105 = .ok (.aload_n 0, 1) := by decide +kernel
theorem dX0_startJobs_106 : decode cX0_startJobs 106 = .ok (.getfield 28, 3) := by decide +kernel
theorem dX0_startJobs_109 : decode cX0_startJobs 109 = .ok (.aload_n 0, 1) := by decide +kernel
theorem dX0_startJobs_110 : decode cX0_startJobs 110 = .ok (.getfield 36, 3) := by decide +kernel
theorem dX0_startJobs_113 : decode cX0_startJobs 113 = .ok (.iconst 1, 1) := by decide +kernel
theorem dX0_startJobs_114 : decode cX0_startJobs 114 = .ok (.iload_n 1, 1) := by decide +kernel
theorem dX0_startJobs_115 : decode cX0_startJobs 115 = .ok (.invokevirtual 57, 3) := by decide +kernel
theorem dX0_startJobs_118 : decode cX0_startJobs 118 = .ok (.iinc 1 1, 3) := by decide +kernel
theorem dX0_startJobs_121 : decode cX0_startJobs 121 = .ok (.goto (-119), 3) := by decide +kernel
theorem dX0_startJobs_124 : decode cX0_startJobs 124 = .ok (.return_, 1) := by decide +kernel
theorem dX0_endRun_0 : decode cX0_endRun 0 = .ok (.aload_n 0, 1) := by decide +kernel
theorem dX0_endRun_1 : decode cX0_endRun 1 = .ok (.getfield 21, 3) := by decide +kernel
theorem dX0_endRun_4 : decode cX0_endRun 4 = .ok (.getfield 132, 3) := by decide +kernel
theorem dX0_endRun_7 : decode cX0_endRun 7 = .ok (.iload_n 1, 1) := by decide +kernel
theorem dX0_endRun_8 : decode cX0_endRun 8 = .ok (.aload_n 0, 1) := by decide +kernel
theorem dX0_endRun_9 : decode cX0_endRun 9 = .ok (.iload_n 1, 1) := by decide +kernel
theorem dX0_endRun_10 : decode cX0_endRun 10 = .ok (.invokevirtual 135, 3) := by decide +kernel
theorem dX0_endRun_13 : decode cX0_endRun 13 = .ok (.iastore, 1) := by decide +kernel
theorem dX0_endRun_14 : decode cX0_endRun 14 = .ok (.aload_n 0, 1) := by decide +kernel
theorem dX0_endRun_15 : decode cX0_endRun 15 = .ok (.getfield 21, 3) := by decide +kernel
theorem dX0_endRun_18 : decode cX0_endRun 18 = .ok (.getfield 94, 3) := by decide +kernel
theorem dX0_endRun_21 : decode cX0_endRun 21 = .ok (.iload_n 1, 1) := by decide +kernel
theorem dX0_endRun_22 : decode cX0_endRun 22 = .ok (.iload_n 2, 1) := by decide +kernel
theorem dX0_endRun_23 : decode cX0_endRun 23 = .ok (.iastore, 1) := by decide +kernel
theorem dX0_endRun_24 : decode cX0_endRun 24 = .ok (.return_, 1) := by decide +kernel
theorem dX0_unitsUpToNow_0 : decode cX0_unitsUpToNow 0 = .ok (.aload_n 0, 1) := by decide +kernel
theorem dX0_unitsUpToNow_1 : decode cX0_unitsUpToNow 1 = .ok (.getfield 21, 3) := by decide +kernel
theorem dX0_unitsUpToNow_4 : decode cX0_unitsUpToNow 4 = .ok (.getfield 94, 3) := by decide +kernel
theorem dX0_unitsUpToNow_7 : decode cX0_unitsUpToNow 7 = .ok (.iload_n 1, 1) := by decide +kernel
theorem dX0_unitsUpToNow_8 : decode cX0_unitsUpToNow 8 = .ok (.iaload, 1) := by decide +kernel
theorem dX0_unitsUpToNow_9 : decode cX0_unitsUpToNow 9 = .ok (.iconst 1, 1) := by decide +kernel
theorem dX0_unitsUpToNow_10 : decode cX0_unitsUpToNow 10 = .ok (.if_icmp .ne 20, 3) := by decide +kernel
theorem dX0_unitsUpToNow_13 : decode cX0_unitsUpToNow 13 = .ok (.aload_n 0, 1) := by decide +kernel
theorem dX0_unitsUpToNow_14 : decode cX0_unitsUpToNow 14 = .ok (.getfield 36, 3) := by decide +kernel
theorem dX0_unitsUpToNow_17 : decode cX0_unitsUpToNow 17 = .ok (.aload_n 0, 1) := by decide +kernel
theorem dX0_unitsUpToNow_18 : decode cX0_unitsUpToNow 18 = .ok (.getfield 12, 3) := by decide +kernel
theorem dX0_unitsUpToNow_21 : decode cX0_unitsUpToNow 21 = .ok (.getfield 82, 3) := by decide +kernel
theorem dX0_unitsUpToNow_24 : decode cX0_unitsUpToNow 24 = .ok (.iload_n 1, 1) := by decide +kernel
theorem dX0_unitsUpToNow_25 : decode cX0_unitsUpToNow 25 = .ok (.iaload, 1) := by decide +kernel
theorem dX0_unitsUpToNow_26 : decode cX0_unitsUpToNow 26 = .ok (.isub, 1) := by decide +kernel
theorem dX0_unitsUpToNow_27 : decode cX0_unitsUpToNow 27 = .ok (.goto 4, 3) := by decide +kernel
theorem dX0_unitsUpToNow_30 : decode cX0_unitsUpToNow 30 = .ok (.iconst 0, 1) := by decide +kernel
theorem dX0_unitsUpToNow_31 : decode cX0_unitsUpToNow 31 = .ok (.istore_n 2, 1) := by decide +kernel
theorem dX0_unitsUpToNow_32 : decode cX0_unitsUpToNow 32 = .ok (.aload_n 0, 1) := by decide +kernel
theorem dX0_unitsUpToNow_33 : decode cX0_unitsUpToNow 33 = .ok (.getfield 21, 3) := by decide +kernel
theorem dX0_unitsUpToNow_36 : decode cX0_unitsUpToNow 36 = .ok (.getfield 132, 3) := by decide +kernel
theorem dX0_unitsUpToNow_39 : decode cX0_unitsUpToNow 39 = .ok (.iload_n 1, 1) := by decide +kernel
theorem dX0_unitsUpToNow_40 : decode cX0_unitsUpToNow 40 = .ok (.iaload, 1) := by decide +kernel
theorem dX0_unitsUpToNow_41 : decode cX0_unitsUpToNow 41 = .ok (.iload_n 2, 1) := by decide +kernel
theorem dX0_unitsUpToNow_42 : decode cX0_unitsUpToNow 42 = .ok (.iadd, 1) := by decide +kernel
theorem dX0_unitsUpToNow_43 : decode cX0_unitsUpToNow 43 = .ok (.ireturn, 1) := by decide +kernel
theorem dX0_usageOfUser_0 : decode cX0_usageOfUser 0 = .ok (.iconst 0, 1) := by decide +kernel
theorem dX0_usageOfUser_1 : decode cX0_usageOfUser 1 = .ok (.istore_n 2, 1) := by decide +kernel
theorem dX0_usageOfUser_2 : decode cX0_usageOfUser 2 = .ok (.iconst 0, 1) := by decide +kernel
theorem dX0_usageOfUser_3 : decode cX0_usageOfUser 3 = .ok (.istore_n 3, 1) := by decide +kernel
theorem dX0_usageOfUser_4 : decode cX0_usageOfUser 4 = .ok (.iload_n 3, 1) := by decide +kernel
theorem dX0_usageOfUser_5 : decode cX0_usageOfUser 5 = .ok (.aload_n 0, 1) := by decide +kernel
theorem dX0_usageOfUser_6 : decode cX0_usageOfUser 6 = .ok (.getfield 21, 3) := by decide +kernel
theorem dX0_usageOfUser_9 : decode cX0_usageOfUser 9 = .ok (.getfield 109, 3) := by decide +kernel
theorem dX0_usageOfUser_12 : decode cX0_usageOfUser 12 = .ok (.if_icmp .ge 40, 3) := by decide +kernel
theorem dX0_usageOfUser_15 : decode cX0_usageOfUser 15 = .ok (.aload_n 0, 1) := by decide +kernel
theorem dX0_usageOfUser_16 : decode cX0_usageOfUser 16 = .ok (.getfield 21, 3) := by decide +kernel
theorem dX0_usageOfUser_19 : decode cX0_usageOfUser 19 = .ok (.getfield 138, 3) := by decide +kernel
theorem dX0_usageOfUser_22 : decode cX0_usageOfUser 22 = .ok (.iload_n 3, 1) := by decide +kernel
theorem dX0_usageOfUser_23 : decode cX0_usageOfUser 23 = .ok (.iaload, 1) := by decide +kernel
theorem dX0_usageOfUser_24 : decode cX0_usageOfUser 24 = .ok (.iload_n 1, 1) := by decide +kernel
theorem dX0_usageOfUser_25 : decode cX0_usageOfUser 25 = .ok (.if_icmp .ne 21, 3) := by decide +kernel
theorem dX0_usageOfUser_28 : decode cX0_usageOfUser 28 = .ok (.iload_n 2, 1) := by decide +kernel
theorem dX0_usageOfUser_29 : decode cX0_usageOfUser 29 = .ok (.aload_n 0, 1) := by decide +kernel
theorem dX0_usageOfUser_30 : decode cX0_usageOfUser 30 = .ok (.iload_n 3, 1) := by decide +kernel
theorem dX0_usageOfUser_31 : decode cX0_usageOfUser 31 = .ok (.invokevirtual 135, 3) := by decide +kernel
theorem dX0_usageOfUser_34 : decode cX0_usageOfUser 34 = .ok (.aload_n 0, 1) := by decide +kernel
theorem dX0_usageOfUser_35 : decode cX0_usageOfUser 35 = .ok (.getfield 21, 3) := by decide +kernel
theorem dX0_usageOfUser_38 : decode cX0_usageOfUser 38 = .ok (.getfield 122, 3) := by decide +kernel
theorem dX0_usageOfUser_41 : decode cX0_usageOfUser 41 = .ok (.iload_n 3, 1) := by decide +kernel
theorem dX0_usageOfUser_42 : decode cX0_usageOfUser 42 = .ok (.iaload, 1) := by decide +kernel
theorem dX0_usageOfUser_43 : decode cX0_usageOfUser 43 = .ok (.ishl, 1) := by decide +kernel
theorem dX0_usageOfUser_44 : decode cX0_usageOfUser 44 = .ok (.iadd, 1) := by decide +kernel
theorem dX0_usageOfUser_45 : decode cX0_usageOfUser 45 = .ok (.istore_n 2, 1) := by decide +kernel
theorem dX0_usageOfUser_46 : decode cX0_usageOfUser 46 = .ok (.iinc 3 1, 3) := by decide +kernel
theorem dX0_usageOfUser_49 : decode cX0_usageOfUser 49 = .ok (.goto (-45), 3) := by decide +kernel
theorem dX0_usageOfUser_52 : decode cX0_usageOfUser 52 = .ok (.iload_n 2, 1) := by decide +kernel
theorem dX0_usageOfUser_53 : decode cX0_usageOfUser 53 = .ok (.ireturn, 1) := by decide +kernel
theorem dX0_plan_0 : decode cX0_plan 0 = .ok (.aload_n 0, 1) := by decide +kernel
theorem dX0_plan_1 : decode cX0_plan 1 = .ok (.getfield 21, 3) := by decide +kernel
theorem dX0_plan_4 : decode cX0_plan 4 = .ok (.getfield 122, 3) := by decide +kernel
theorem dX0_plan_7 : decode cX0_plan 7 = .ok (.iload_n 1, 1) := by decide +kernel
theorem dX0_plan_8 : decode cX0_plan 8 = .ok (.iaload, 1) := by decide +kernel
theorem dX0_plan_9 : decode cX0_plan 9 = .ok (.istore_n 2, 1) := by decide +kernel
theorem dX0_plan_10 : decode cX0_plan 10 = .ok (.aload_n 0, 1) := by decide +kernel
theorem dX0_plan_11 : decode cX0_plan 11 = .ok (.getfield 21, 3) := by decide +kernel
theorem dX0_plan_14 : decode cX0_plan 14 = .ok (.getfield 85, 3) := by decide +kernel
theorem dX0_plan_17 : decode cX0_plan 17 = .ok (.iload_n 1, 1) := by decide +kernel
theorem dX0_plan_18 : decode cX0_plan 18 = .ok (.iaload, 1) := by decide +kernel
theorem dX0_plan_19 : decode cX0_plan 19 = .ok (.istore_n 3, 1) := by decide +kernel
theorem dX0_plan_20 : decode cX0_plan 20 = .ok (.aload_n 0, 1) := by decide +kernel
theorem dX0_plan_21 : decode cX0_plan 21 = .ok (.getfield 12, 3) := by decide +kernel
theorem dX0_plan_24 : decode cX0_plan 24 = .ok (.iload_n 2, 1) := by decide +kernel
theorem dX0_plan_25 : decode cX0_plan 25 = .ok (.aload_n 0, 1) := by decide +kernel
theorem dX0_plan_26 : decode cX0_plan 26 = .ok (.getfield 36, 3) := by decide +kernel
theorem dX0_plan_29 : decode cX0_plan 29 = .ok (.iload_n 3, 1) := by decide +kernel
theorem dX0_plan_30 : decode cX0_plan 30 = .ok (.invokevirtual 141, 3) := by decide +kernel
theorem dX0_plan_33 : decode cX0_plan 33 = .ok (.istore 4, 2) := by decide +kernel
theorem dX0_plan_35 : decode cX0_plan 35 = .ok (.aload_n 0, 1) := by decide +kernel
theorem dX0_plan_36 : decode cX0_plan 36 = .ok (.getfield 12, 3) := by decide +kernel
theorem dX0_plan_39 : decode cX0_plan 39 = .ok (.iload_n 1, 1) := by decide +kernel
theorem dX0_plan_40 : decode cX0_plan 40 = .ok (.iload_n 2, 1) := by decide +kernel
theorem dX0_plan_41 : decode cX0_plan 41 = .ok (.aload_n 0, 1) := by decide +kernel
theorem dX0_plan_42 : decode cX0_plan 42 = .ok (.getfield 12, 3) := by decide +kernel
theorem dX0_plan_45 : decode cX0_plan 45 = .ok (.iload_n 2, 1) := by decide +kernel
theorem dX0_plan_46 : decode cX0_plan 46 = .ok (.iload 4, 2) := by decide +kernel
theorem dX0_plan_48 : decode cX0_plan 48 = .ok (.iload_n 3, 1) := by decide +kernel
theorem dX0_plan_49 : decode cX0_plan 49 = .ok (.invokevirtual 97, 3) := by decide +kernel
theorem dX0_plan_52 : decode cX0_plan 52 = .ok (.iload 4, 2) := by decide +kernel
theorem dX0_plan_54 : decode cX0_plan 54 = .ok (.iload_n 3, 1) := by decide +kernel
theorem dX0_plan_55 : decode cX0_plan 55 = .ok (.invokevirtual 101, 3) := by decide +kernel
theorem dX0_plan_58 : decode cX0_plan 58 = .ok (.iload 4, 2) := by decide +kernel
theorem dX0_plan_60 : decode cX0_plan 60 = .ok (.ireturn, 1) := by decide +kernel
theorem dX0_replan_0 : decode cX0_replan 0 = .ok (.aload_n 0, 1) := by decide +kernel
theorem dX0_replan_1 : decode cX0_replan 1 = .ok (.invokevirtual 144, 3) := by decide +kernel
theorem dX0_replan_4 : decode cX0_replan 4 = .ok (.istore_n 1, 1) := by decide +kernel
theorem dX0_replan_5 : decode cX0_replan 5 = .ok (.iconst 0, 1) := by decide +kernel
theorem dX0_replan_6 : decode cX0_replan 6 = .ok (.istore_n 2, 1) := by decide +kernel
theorem dX0_replan_7 : decode cX0_replan 7 = .ok (.iload_n 2, 1) := by decide +kernel
theorem dX0_replan_8 : decode cX0_replan 8 = .ok (.iload_n 1, 1) := by decide +kernel
theorem dX0_replan_9 : decode cX0_replan 9 = .ok (.if_icmp .ge 58, 3) := by decide +kernel
theorem dX0_replan_12 : decode cX0_replan 12 = .ok (.aload_n 0, 1) := by decide +kernel
theorem dX0_replan_13 : decode cX0_replan 13 = .ok (.getfield 47, 3) := by decide +kernel
theorem dX0_replan_16 : decode cX0_replan 16 = .ok (.iload_n 2, 1) := by decide +kernel
theorem dX0_replan_17 : decode cX0_replan 17 = .ok (.iaload, 1) := by decide +kernel
theorem dX0_replan_18 : decode cX0_replan 18 = .ok (.istore_n 3, 1) := by decide +kernel
theorem dX0_replan_19 : decode cX0_replan 19 = .ok (.aload_n 0, 1) := by decide +kernel
theorem dX0_replan_20 : decode cX0_replan 20 = .ok (.getfield 12, 3) := by decide +kernel
theorem dX0_replan_23 : decode cX0_replan 23 = .ok (.getfield 82, 3) := by decide +kernel
theorem dX0_replan_26 : decode cX0_replan 26 = .ok (.iload_n 3, 1) := by decide +kernel
theorem dX0_replan_27 : decode cX0_replan 27 = .ok (.iaload, 1) := by decide +kernel
theorem dX0_replan_28 : decode cX0_replan 28 = .ok (.istore 4, 2) := by decide +kernel
theorem dX0_replan_30 : decode cX0_replan 30 = .ok (.aload_n 0, 1) := by decide +kernel
theorem dX0_replan_31 : decode cX0_replan 31 = .ok (.getfield 12, 3) := by decide +kernel
theorem dX0_replan_34 : decode cX0_replan 34 = .ok (.iload_n 3, 1) := by decide +kernel
theorem dX0_replan_35 : decode cX0_replan 35 = .ok (.invokevirtual 75, 3) := by decide +kernel
theorem dX0_replan_38 : decode cX0_replan 38 = .ok (.aload_n 0, 1) := by decide +kernel
theorem dX0_replan_39 : decode cX0_replan 39 = .ok (.iload_n 3, 1) := by decide +kernel
theorem dX0_replan_40 : decode cX0_replan 40 = .ok (.invokevirtual 64, 3) := by decide +kernel
theorem dX0_replan_43 : decode cX0_replan 43 = .ok (.iload 4, 2) := by decide +kernel
theorem dX0_replan_45 : decode cX0_replan 45 = .ok (.if_icmp .ge 16, 3) := by decide +kernel
theorem dX0_replan_48 : decode cX0_replan 48 = .ok (.aload_n 0, 1) := by decide +kernel
theorem dX0_replan_49 : decode cX0_replan 49 = .ok (.getfield 28, 3) := by decide +kernel
theorem dX0_replan_52 : decode cX0_replan 52 = .ok (.aload_n 0, 1) := by decide +kernel
theorem dX0_replan_53 : decode cX0_replan 53 = .ok (.getfield 36, 3) := by decide +kernel
theorem dX0_replan_56 : decode cX0_replan 56 = .ok (.iconst 5, 1) := by decide +kernel
theorem dX0_replan_57 : decode cX0_replan 57 = .ok (.iload_n 3, 1) := by decide +kernel
theorem dX0_replan_58 : decode cX0_replan 58 = .ok (.invokevirtual 57, 3) := by decide +kernel
theorem dX0_replan_61 : decode cX0_replan 61 = .ok (.iinc 2 1, 3) := by decide +kernel
theorem dX0_replan_64 : decode cX0_replan 64 = .ok (.goto (-57), 3) := by decide +kernel
theorem dX0_replan_67 : decode cX0_replan 67 = .ok (.return_, 1) := by decide +kernel
theorem dX0_queueWaiting_0 : decode cX0_queueWaiting 0 = .ok (.iconst 0, 1) := by decide +kernel
theorem dX0_queueWaiting_1 : decode cX0_queueWaiting 1 = .ok (.istore_n 1, 1) := by decide +kernel
theorem dX0_queueWaiting_2 : decode cX0_queueWaiting 2 = .ok (.iload_n 1, 1) := by decide +kernel
theorem dX0_queueWaiting_3 : decode cX0_queueWaiting 3 = .ok (.iconst 4, 1) := by decide +kernel
theorem dX0_queueWaiting_4 : decode cX0_queueWaiting 4 = .ok (.if_icmp .ge 31, 3) := by decide +kernel
theorem dX0_queueWaiting_7 : decode cX0_queueWaiting 7 = .ok (.aload_n 0, 1) := by decide +kernel
theorem dX0_queueWaiting_8 : decode cX0_queueWaiting 8 = .ok (.getfield 50, 3) := by decide +kernel
theorem dX0_queueWaiting_11 : decode cX0_queueWaiting 11 = .ok (.iload_n 1, 1) := by decide +kernel
theorem dX0_queueWaiting_12 : decode cX0_queueWaiting 12 = .ok (.aload_n 0, 1) := by decide +kernel
theorem dX0_queueWaiting_13 : decode cX0_queueWaiting 13 = .ok (.getfield 43, 3) := by decide +kernel
theorem dX0_queueWaiting_16 : decode cX0_queueWaiting 16 = .ok (.ifCond .eq 11, 3) := by decide +kernel
theorem dX0_queueWaiting_19 : decode cX0_queueWaiting 19 = .ok (.aload_n 0, 1) := by decide +kernel
theorem dX0_queueWaiting_20 : decode cX0_queueWaiting 20 = .ok (.iload_n 1, 1) := by decide +kernel
theorem dX0_queueWaiting_21 : decode cX0_queueWaiting 21 = .ok (.invokevirtual 147, 3) := by decide +kernel
theorem dX0_queueWaiting_24 : decode cX0_queueWaiting 24 = .ok (.goto 4, 3) := by decide +kernel
theorem dX0_queueWaiting_27 : decode cX0_queueWaiting 27 = .ok (.iconst 0, 1) := by decide +kernel
theorem dX0_queueWaiting_28 : decode cX0_queueWaiting 28 = .ok (.iastore, 1) := by decide +kernel
theorem dX0_queueWaiting_29 : decode cX0_queueWaiting 29 = .ok (.iinc 1 1, 3) := by decide +kernel
theorem dX0_queueWaiting_32 : decode cX0_queueWaiting 32 = .ok (.goto (-30), 3) := by decide +kernel
theorem dX0_queueWaiting_35 : decode cX0_queueWaiting 35 = .ok (.iconst 0, 1) := by decide +kernel
theorem dX0_queueWaiting_36 : decode cX0_queueWaiting 36 = .ok (.istore_n 1, 1) := by decide +kernel
theorem dX0_queueWaiting_37 : decode cX0_queueWaiting 37 = .ok (.iconst 0, 1) := by decide +kernel
theorem dX0_queueWaiting_38 : decode cX0_queueWaiting 38 = .ok (.istore_n 2, 1) := by decide +kernel
theorem dX0_queueWaiting_39 : decode cX0_queueWaiting 39 = .ok (.iload_n 2, 1) := by decide +kernel
theorem dX0_queueWaiting_40 : decode cX0_queueWaiting 40 = .ok (.aload_n 0, 1) := by decide +kernel
theorem dX0_queueWaiting_41 : decode cX0_queueWaiting 41 = .ok (.getfield 21, 3) := by decide +kernel
theorem dX0_queueWaiting_44 : decode cX0_queueWaiting 44 = .ok (.getfield 109, 3) := by decide +kernel
theorem dX0_queueWaiting_47 : decode cX0_queueWaiting 47 = .ok (.if_icmp .ge 30, 3) := by decide +kernel
theorem dX0_queueWaiting_50 : decode cX0_queueWaiting 50 = .ok (.aload_n 0, 1) := by decide +kernel
theorem dX0_queueWaiting_51 : decode cX0_queueWaiting 51 = .ok (.getfield 21, 3) := by decide +kernel
theorem dX0_queueWaiting_54 : decode cX0_queueWaiting 54 = .ok (.getfield 94, 3) := by decide +kernel
theorem dX0_queueWaiting_57 : decode cX0_queueWaiting 57 = .ok (.iload_n 2, 1) := by decide +kernel
theorem dX0_queueWaiting_58 : decode cX0_queueWaiting 58 = .ok (.iaload, 1) := by decide +kernel
theorem dX0_queueWaiting_59 : decode cX0_queueWaiting 59 = .ok (.ifCond .ne 12, 3) := by decide +kernel
theorem dX0_queueWaiting_62 : decode cX0_queueWaiting 62 = .ok (.aload_n 0, 1) := by decide +kernel
theorem dX0_queueWaiting_63 : decode cX0_queueWaiting 63 = .ok (.iload_n 2, 1) := by decide +kernel
theorem dX0_queueWaiting_64 : decode cX0_queueWaiting 64 = .ok (.iload_n 1, 1) := by decide +kernel
theorem dX0_queueWaiting_65 : decode cX0_queueWaiting 65 = .ok (.invokevirtual 150, 3) := by decide +kernel
theorem dX0_queueWaiting_68 : decode cX0_queueWaiting 68 = .ok (.iinc 1 1, 3) := by decide +kernel
theorem dX0_queueWaiting_71 : decode cX0_queueWaiting 71 = .ok (.iinc 2 1, 3) := by decide +kernel
theorem dX0_queueWaiting_74 : decode cX0_queueWaiting 74 = .ok (.goto (-35), 3) := by decide +kernel
theorem dX0_queueWaiting_77 : decode cX0_queueWaiting 77 = .ok (.iload_n 1, 1) := by decide +kernel
theorem dX0_queueWaiting_78 : decode cX0_queueWaiting 78 = .ok (.ireturn, 1) := by decide +kernel
theorem dX0_insertIntoQueue_0 : decode cX0_insertIntoQueue 0 = .ok (.iload_n 2, 1) := by decide +kernel
theorem dX0_insertIntoQueue_1 : decode cX0_insertIntoQueue 1 = .ok (.istore_n 3, 1) := by decide +kernel
theorem dX0_insertIntoQueue_2 : decode cX0_insertIntoQueue 2 = .ok (.iload_n 3, 1) := by decide +kernel
theorem dX0_insertIntoQueue_3 : decode cX0_insertIntoQueue 3 = .ok (.ifCond .le 39, 3) := by decide +kernel
theorem dX0_insertIntoQueue_6 : decode cX0_insertIntoQueue 6 = .ok (.aload_n 0, 1) := by decide +kernel
theorem dX0_insertIntoQueue_7 : decode cX0_insertIntoQueue 7 = .ok (.iload_n 1, 1) := by decide +kernel
theorem dX0_insertIntoQueue_8 : decode cX0_insertIntoQueue 8 = .ok (.aload_n 0, 1) := by decide +kernel
theorem dX0_insertIntoQueue_9 : decode cX0_insertIntoQueue 9 = .ok (.getfield 47, 3) := by decide +kernel
theorem dX0_insertIntoQueue_12 : decode cX0_insertIntoQueue 12 = .ok (.iload_n 3, 1) := by decide +kernel
theorem dX0_insertIntoQueue_13 : decode cX0_insertIntoQueue 13 = .ok (.iconst 1, 1) := by decide +kernel
theorem dX0_insertIntoQueue_14 : decode cX0_insertIntoQueue 14 = .ok (.isub, 1) := by decide +kernel
theorem dX0_insertIntoQueue_15 : decode cX0_insertIntoQueue 15 = .ok (.iaload, 1) := by decide +kernel
theorem dX0_insertIntoQueue_16 : decode cX0_insertIntoQueue 16 = .ok (.invokevirtual 153, 3) := by decide +kernel
theorem dX0_insertIntoQueue_19 : decode cX0_insertIntoQueue 19 = .ok (.ifCond .eq 23, 3) := by decide +kernel
theorem dX0_insertIntoQueue_22 : decode cX0_insertIntoQueue 22 = .ok (.aload_n 0, 1) := by decide +kernel
theorem dX0_insertIntoQueue_23 : decode cX0_insertIntoQueue 23 = .ok (.getfield 47, 3) := by decide +kernel
theorem dX0_insertIntoQueue_26 : decode cX0_insertIntoQueue 26 = .ok (.iload_n 3, 1) := by decide +kernel
theorem dX0_insertIntoQueue_27 : decode cX0_insertIntoQueue 27 = .ok (.aload_n 0, 1) := by decide +kernel
theorem dX0_insertIntoQueue_28 : decode cX0_insertIntoQueue 28 = .ok (.getfield 47, 3) := by decide +kernel
theorem dX0_insertIntoQueue_31 : decode cX0_insertIntoQueue 31 = .ok (.iload_n 3, 1) := by decide +kernel
theorem dX0_insertIntoQueue_32 : decode cX0_insertIntoQueue 32 = .ok (.iconst 1, 1) := by decide +kernel
theorem dX0_insertIntoQueue_33 : decode cX0_insertIntoQueue 33 = .ok (.isub, 1) := by decide +kernel
theorem dX0_insertIntoQueue_34 : decode cX0_insertIntoQueue 34 = .ok (.iaload, 1) := by decide +kernel
theorem dX0_insertIntoQueue_35 : decode cX0_insertIntoQueue 35 = .ok (.iastore, 1) := by decide +kernel
theorem dX0_insertIntoQueue_36 : decode cX0_insertIntoQueue 36 = .ok (.iinc 3 (-1), 3) := by decide +kernel
theorem dX0_insertIntoQueue_39 : decode cX0_insertIntoQueue 39 = .ok (.goto (-37), 3) := by decide +kernel
theorem dX0_insertIntoQueue_42 : decode cX0_insertIntoQueue 42 = .ok (.aload_n 0, 1) := by decide +kernel
theorem dX0_insertIntoQueue_43 : decode cX0_insertIntoQueue 43 = .ok (.getfield 47, 3) := by decide +kernel
theorem dX0_insertIntoQueue_46 : decode cX0_insertIntoQueue 46 = .ok (.iload_n 3, 1) := by decide +kernel
theorem dX0_insertIntoQueue_47 : decode cX0_insertIntoQueue 47 = .ok (.iload_n 1, 1) := by decide +kernel
theorem dX0_insertIntoQueue_48 : decode cX0_insertIntoQueue 48 = .ok (.iastore, 1) := by decide +kernel
theorem dX0_insertIntoQueue_49 : decode cX0_insertIntoQueue 49 = .ok (.return_, 1) := by decide +kernel
theorem dX0_goesBefore_0 : decode cX0_goesBefore 0 = .ok (.aload_n 0, 1) := by decide +kernel
theorem dX0_goesBefore_1 : decode cX0_goesBefore 1 = .ok (.getfield 50, 3) := by decide +kernel
theorem dX0_goesBefore_4 : decode cX0_goesBefore 4 = .ok (.aload_n 0, 1) := by decide +kernel
theorem dX0_goesBefore_5 : decode cX0_goesBefore 5 = .ok (.getfield 21, 3) := by decide +kernel
theorem dX0_goesBefore_8 : decode cX0_goesBefore 8 = .ok (.getfield 138, 3) := by decide +kernel
theorem dX0_goesBefore_11 : decode cX0_goesBefore 11 = .ok (.iload_n 1, 1) := by decide +kernel
theorem dX0_goesBefore_12 : decode cX0_goesBefore 12 = .ok (.iaload, 1) := by decide +kernel
theorem dX0_goesBefore_13 : decode cX0_goesBefore 13 = .ok (.iaload, 1) := by decide +kernel
theorem dX0_goesBefore_14 : decode cX0_goesBefore 14 = .ok (.istore_n 3, 1) := by decide +kernel
theorem dX0_goesBefore_15 : decode cX0_goesBefore 15 = .ok (.aload_n 0, 1) := by decide +kernel
theorem dX0_goesBefore_16 : decode cX0_goesBefore 16 = .ok (.getfield 50, 3) := by decide +kernel
theorem dX0_goesBefore_19 : decode cX0_goesBefore 19 = .ok (.aload_n 0, 1) := by decide +kernel
theorem dX0_goesBefore_20 : decode cX0_goesBefore 20 = .ok (.getfield 21, 3) := by decide +kernel
theorem dX0_goesBefore_23 : decode cX0_goesBefore 23 = .ok (.getfield 138, 3) := by decide +kernel
theorem dX0_goesBefore_26 : decode cX0_goesBefore 26 = .ok (.iload_n 2, 1) := by decide +kernel
theorem dX0_goesBefore_27 : decode cX0_goesBefore 27 = .ok (.iaload, 1) := by decide +kernel
theorem dX0_goesBefore_28 : decode cX0_goesBefore 28 = .ok (.iaload, 1) := by decide +kernel
theorem dX0_goesBefore_29 : decode cX0_goesBefore 29 = .ok (.istore 4, 2) := by decide +kernel
theorem dX0_goesBefore_31 : decode cX0_goesBefore 31 = .ok (.iload_n 3, 1) := by decide +kernel
theorem dX0_goesBefore_32 : decode cX0_goesBefore 32 = .ok (.iload 4, 2) := by decide +kernel
theorem dX0_goesBefore_34 : decode cX0_goesBefore 34 = .ok (.if_icmp .eq 15, 3) := by decide +kernel
theorem dX0_goesBefore_37 : decode cX0_goesBefore 37 = .ok (.iload_n 3, 1) := by decide +kernel
theorem dX0_goesBefore_38 : decode cX0_goesBefore 38 = .ok (.iload 4, 2) := by decide +kernel
theorem dX0_goesBefore_40 : decode cX0_goesBefore 40 = .ok (.if_icmp .ge 7, 3) := by decide +kernel
theorem dX0_goesBefore_43 : decode cX0_goesBefore 43 = .ok (.iconst 1, 1) := by decide +kernel
theorem dX0_goesBefore_44 : decode cX0_goesBefore 44 = .ok (.goto 4, 3) := by decide +kernel
theorem dX0_goesBefore_47 : decode cX0_goesBefore 47 = .ok (.iconst 0, 1) := by decide +kernel
theorem dX0_goesBefore_48 : decode cX0_goesBefore 48 = .ok (.ireturn, 1) := by decide +kernel
theorem dX0_goesBefore_49 : decode cX0_goesBefore 49 = .ok (.aload_n 0, 1) := by decide +kernel
theorem dX0_goesBefore_50 : decode cX0_goesBefore 50 = .ok (.getfield 12, 3) := by decide +kernel
theorem dX0_goesBefore_53 : decode cX0_goesBefore 53 = .ok (.getfield 82, 3) := by decide +kernel
theorem dX0_goesBefore_56 : decode cX0_goesBefore 56 = .ok (.iload_n 1, 1) := by decide +kernel
theorem dX0_goesBefore_57 : decode cX0_goesBefore 57 = .ok (.iaload, 1) := by decide +kernel
theorem dX0_goesBefore_58 : decode cX0_goesBefore 58 = .ok (.aload_n 0, 1) := by decide +kernel
theorem dX0_goesBefore_59 : decode cX0_goesBefore 59 = .ok (.getfield 12, 3) := by decide +kernel
theorem dX0_goesBefore_62 : decode cX0_goesBefore 62 = .ok (.getfield 82, 3) := by decide +kernel
theorem dX0_goesBefore_65 : decode cX0_goesBefore 65 = .ok (.iload_n 2, 1) := by decide +kernel
theorem dX0_goesBefore_66 : decode cX0_goesBefore 66 = .ok (.iaload, 1) := by decide +kernel
theorem dX0_goesBefore_67 : decode cX0_goesBefore 67 = .ok (.if_icmp .ge 7, 3) := by decide +kernel
theorem dX0_goesBefore_70 : decode cX0_goesBefore 70 = .ok (.iconst 1, 1) := by decide +kernel
theorem dX0_goesBefore_71 : decode cX0_goesBefore 71 = .ok (.goto 4, 3) := by decide +kernel
theorem dX0_goesBefore_74 : decode cX0_goesBefore 74 = .ok (.iconst 0, 1) := by decide +kernel
theorem dX0_goesBefore_75 : decode cX0_goesBefore 75 = .ok (.ireturn, 1) := by decide +kernel
theorem dX0_copyFrom_0 : decode cX0_copyFrom 0 = .ok (.aload_n 0, 1) := by decide +kernel
theorem dX0_copyFrom_1 : decode cX0_copyFrom 1 = .ok (.getfield 12, 3) := by decide +kernel
theorem dX0_copyFrom_4 : decode cX0_copyFrom 4 = .ok (.aload_n 1, 1) := by decide +kernel
theorem dX0_copyFrom_5 : decode cX0_copyFrom 5 = .ok (.getfield 12, 3) := by decide +kernel
theorem dX0_copyFrom_8 : decode cX0_copyFrom 8 = .ok (.invokevirtual 157, 3) := by decide +kernel
theorem dX0_copyFrom_11 : decode cX0_copyFrom 11 = .ok (.aload_n 0, 1) := by decide +kernel
theorem dX0_copyFrom_12 : decode cX0_copyFrom 12 = .ok (.getfield 21, 3) := by decide +kernel
theorem dX0_copyFrom_15 : decode cX0_copyFrom 15 = .ok (.aload_n 1, 1) := by decide +kernel
theorem dX0_copyFrom_16 : decode cX0_copyFrom 16 = .ok (.getfield 21, 3) := by decide +kernel
theorem dX0_copyFrom_19 : decode cX0_copyFrom 19 = .ok (.invokevirtual 161, 3) := by decide +kernel
theorem dX0_copyFrom_22 : decode cX0_copyFrom 22 = .ok (.aload_n 0, 1) := by decide +kernel
theorem dX0_copyFrom_23 : decode cX0_copyFrom 23 = .ok (.getfield 28, 3) := by decide +kernel
theorem dX0_copyFrom_26 : decode cX0_copyFrom 26 = .ok (.aload_n 1, 1) := by decide +kernel
theorem dX0_copyFrom_27 : decode cX0_copyFrom 27 = .ok (.getfield 28, 3) := by decide +kernel
theorem dX0_copyFrom_30 : decode cX0_copyFrom 30 = .ok (.invokevirtual 164, 3) := by decide +kernel
theorem dX0_copyFrom_33 : decode cX0_copyFrom 33 = .ok (.aload_n 1, 1) := by decide +kernel
theorem dX0_copyFrom_34 : decode cX0_copyFrom 34 = .ok (.getfield 32, 3) := by decide +kernel
theorem dX0_copyFrom_37 : decode cX0_copyFrom 37 = .ok (.iconst 0, 1) := by decide +kernel
theorem dX0_copyFrom_38 : decode cX0_copyFrom 38 = .ok (.aload_n 0, 1) := by decide +kernel
theorem dX0_copyFrom_39 : decode cX0_copyFrom 39 = .ok (.getfield 32, 3) := by decide +kernel
theorem dX0_copyFrom_42 : decode cX0_copyFrom 42 = .ok (.iconst 0, 1) := by decide +kernel
theorem dX0_copyFrom_43 : decode cX0_copyFrom 43 = .ok (.aload_n 0, 1) := by decide +kernel
theorem dX0_copyFrom_44 : decode cX0_copyFrom 44 = .ok (.getfield 32, 3) := by decide +kernel
theorem dX0_copyFrom_47 : decode cX0_copyFrom 47 = .ok (.arraylength, 1) := by decide +kernel
theorem dX0_copyFrom_48 : decode cX0_copyFrom 48 = .ok (.invokestatic 167, 3) := by decide +kernel
theorem dX0_copyFrom_51 : decode cX0_copyFrom 51 = .ok (.aload_n 0, 1) := by decide +kernel
theorem dX0_copyFrom_52 : decode cX0_copyFrom 52 = .ok (.aload_n 1, 1) := by decide +kernel
theorem dX0_copyFrom_53 : decode cX0_copyFrom 53 = .ok (.getfield 36, 3) := by decide +kernel
theorem dX0_copyFrom_56 : decode cX0_copyFrom 56 = .ok (.putfield 36, 3) := by decide +kernel
theorem dX0_copyFrom_59 : decode cX0_copyFrom 59 = .ok (.aload_n 0, 1) := by decide +kernel
theorem dX0_copyFrom_60 : decode cX0_copyFrom 60 = .ok (.aload_n 1, 1) := by decide +kernel
theorem dX0_copyFrom_61 : decode cX0_copyFrom 61 = .ok (.getfield 40, 3) := by decide +kernel
theorem dX0_copyFrom_64 : decode cX0_copyFrom 64 = .ok (.putfield 40, 3) := by decide +kernel
theorem dX0_copyFrom_67 : decode cX0_copyFrom 67 = .ok (.aload_n 0, 1) := by decide +kernel
theorem dX0_copyFrom_68 : decode cX0_copyFrom 68 = .ok (.aload_n 1, 1) := by decide +kernel
theorem dX0_copyFrom_69 : decode cX0_copyFrom 69 = .ok (.getfield 43, 3) := by decide +kernel
theorem dX0_copyFrom_72 : decode cX0_copyFrom 72 = .ok (.putfield 43, 3) := by decide +kernel
theorem dX0_copyFrom_75 : decode cX0_copyFrom 75 = .ok (.return_, 1) := by decide +kernel
theorem dX1_init_0 : decode cX1_init 0 = .ok (.aload_n 0, 1) := by decide +kernel
theorem dX1_init_1 : decode cX1_init 1 = .ok (.invokespecial 3, 3) := by decide +kernel
theorem dX1_init_4 : decode cX1_init 4 = .ok (.aload_n 0, 1) := by decide +kernel
theorem dX1_init_5 : decode cX1_init 5 = .ok (.iconst 0, 1) := by decide +kernel
theorem dX1_init_6 : decode cX1_init 6 = .ok (.putfield 9, 3) := by decide +kernel
theorem dX1_init_9 : decode cX1_init 9 = .ok (.aload_n 0, 1) := by decide +kernel
theorem dX1_init_10 : decode cX1_init 10 = .ok (.iconst 0, 1) := by decide +kernel
theorem dX1_init_11 : decode cX1_init 11 = .ok (.putfield 15, 3) := by decide +kernel
theorem dX1_init_14 : decode cX1_init 14 = .ok (.aload_n 0, 1) := by decide +kernel
theorem dX1_init_15 : decode cX1_init 15 = .ok (.bipush 60, 2) := by decide +kernel
theorem dX1_init_17 : decode cX1_init 17 = .ok (.newarray .int, 2) := by decide +kernel
theorem dX1_init_19 : decode cX1_init 19 = .ok (.putfield 18, 3) := by decide +kernel
theorem dX1_init_22 : decode cX1_init 22 = .ok (.aload_n 0, 1) := by decide +kernel
theorem dX1_init_23 : decode cX1_init 23 = .ok (.bipush 60, 2) := by decide +kernel
theorem dX1_init_25 : decode cX1_init 25 = .ok (.newarray .int, 2) := by decide +kernel
theorem dX1_init_27 : decode cX1_init 27 = .ok (.putfield 22, 3) := by decide +kernel
theorem dX1_init_30 : decode cX1_init 30 = .ok (.aload_n 0, 1) := by decide +kernel
theorem dX1_init_31 : decode cX1_init 31 = .ok (.bipush 60, 2) := by decide +kernel
theorem dX1_init_33 : decode cX1_init 33 = .ok (.newarray .int, 2) := by decide +kernel
theorem dX1_init_35 : decode cX1_init 35 = .ok (.putfield 25, 3) := by decide +kernel
theorem dX1_init_38 : decode cX1_init 38 = .ok (.return_, 1) := by decide +kernel
theorem dX1_note_0 : decode cX1_note 0 = .ok (.aload_n 0, 1) := by decide +kernel
theorem dX1_note_1 : decode cX1_note 1 = .ok (.getfield 15, 3) := by decide +kernel
theorem dX1_note_4 : decode cX1_note 4 = .ok (.aload_n 0, 1) := by decide +kernel
theorem dX1_note_5 : decode cX1_note 5 = .ok (.getfield 9, 3) := by decide +kernel
theorem dX1_note_8 : decode cX1_note 8 = .ok (.iadd, 1) := by decide +kernel
theorem dX1_note_9 : decode cX1_note 9 = .ok (.bipush 60, 2) := by decide +kernel
theorem dX1_note_11 : decode cX1_note 11 = .ok (.irem, 1) := by decide +kernel
theorem dX1_note_12 : decode cX1_note 12 = .ok (.istore 4, 2) := by decide +kernel
theorem dX1_note_14 : decode cX1_note 14 = .ok (.aload_n 0, 1) := by decide +kernel
theorem dX1_note_15 : decode cX1_note 15 = .ok (.getfield 18, 3) := by decide +kernel
theorem dX1_note_18 : decode cX1_note 18 = .ok (.iload 4, 2) := by decide +kernel
theorem dX1_note_20 : decode cX1_note 20 = .ok (.iload_n 1, 1) := by decide +kernel
theorem dX1_note_21 : decode cX1_note 21 = .ok (.iastore, 1) := by decide +kernel
theorem dX1_note_22 : decode cX1_note 22 = .ok (.aload_n 0, 1) := by decide +kernel
theorem dX1_note_23 : decode cX1_note 23 = .ok (.getfield 22, 3) := by decide +kernel
theorem dX1_note_26 : decode cX1_note 26 = .ok (.iload 4, 2) := by decide +kernel
theorem dX1_note_28 : decode cX1_note 28 = .ok (.iload_n 2, 1) := by decide +kernel
theorem dX1_note_29 : decode cX1_note 29 = .ok (.iastore, 1) := by decide +kernel
theorem dX1_note_30 : decode cX1_note 30 = .ok (.aload_n 0, 1) := by decide +kernel
theorem dX1_note_31 : decode cX1_note 31 = .ok (.getfield 25, 3) := by decide +kernel
theorem dX1_note_34 : decode cX1_note 34 = .ok (.iload 4, 2) := by decide +kernel
theorem dX1_note_36 : decode cX1_note 36 = .ok (.iload_n 3, 1) := by decide +kernel
theorem dX1_note_37 : decode cX1_note 37 = .ok (.iastore, 1) := by decide +kernel
theorem dX1_note_38 : decode cX1_note 38 = .ok (.aload_n 0, 1) := by decide +kernel
theorem dX1_note_39 : decode cX1_note 39 = .ok (.getfield 9, 3) := by decide +kernel
theorem dX1_note_42 : decode cX1_note 42 = .ok (.bipush 60, 2) := by decide +kernel
theorem dX1_note_44 : decode cX1_note 44 = .ok (.if_icmp .ge 16, 3) := by decide +kernel
theorem dX1_note_47 : decode cX1_note 47 = .ok (.aload_n 0, 1) := by decide +kernel
theorem dX1_note_48 : decode cX1_note 48 = .ok (.dup, 1) := by decide +kernel
theorem dX1_note_49 : decode cX1_note 49 = .ok (.getfield 9, 3) := by decide +kernel
theorem dX1_note_52 : decode cX1_note 52 = .ok (.iconst 1, 1) := by decide +kernel
theorem dX1_note_53 : decode cX1_note 53 = .ok (.iadd, 1) := by decide +kernel
theorem dX1_note_54 : decode cX1_note 54 = .ok (.putfield 9, 3) := by decide +kernel
theorem dX1_note_57 : decode cX1_note 57 = .ok (.goto 16, 3) := by decide +kernel
theorem dX1_note_60 : decode cX1_note 60 = .ok (.aload_n 0, 1) := by decide +kernel
theorem dX1_note_61 : decode cX1_note 61 = .ok (.aload_n 0, 1) := by decide +kernel
theorem dX1_note_62 : decode cX1_note 62 = .ok (.getfield 15, 3) := by decide +kernel
theorem dX1_note_65 : decode cX1_note 65 = .ok (.iconst 1, 1) := by decide +kernel
theorem dX1_note_66 : decode cX1_note 66 = .ok (.iadd, 1) := by decide +kernel
theorem dX1_note_67 : decode cX1_note 67 = .ok (.bipush 60, 2) := by decide +kernel
theorem dX1_note_69 : decode cX1_note 69 = .ok (.irem, 1) := by decide +kernel
theorem dX1_note_70 : decode cX1_note 70 = .ok (.putfield 15, 3) := by decide +kernel
theorem dX1_note_73 : decode cX1_note 73 = .ok (.return_, 1) := by decide +kernel
theorem dX1_entry_0 : decode cX1_entry 0 = .ok (.aload_n 0, 1) := by decide +kernel
theorem dX1_entry_1 : decode cX1_entry 1 = .ok (.getfield 15, 3) := by decide +kernel
theorem dX1_entry_4 : decode cX1_entry 4 = .ok (.iload_n 1, 1) := by decide +kernel
theorem dX1_entry_5 : decode cX1_entry 5 = .ok (.iadd, 1) := by decide +kernel
theorem dX1_entry_6 : decode cX1_entry 6 = .ok (.bipush 60, 2) := by decide +kernel
theorem dX1_entry_8 : decode cX1_entry 8 = .ok (.irem, 1) := by decide +kernel
theorem dX1_entry_9 : decode cX1_entry 9 = .ok (.istore_n 3, 1) := by decide +kernel
theorem dX1_entry_10 : decode cX1_entry 10 = .ok (.iload_n 2, 1) := by decide +kernel
theorem dX1_entry_11 : decode cX1_entry 11 = .ok (.ifCond .ne 10, 3) := by decide +kernel
theorem dX1_entry_14 : decode cX1_entry 14 = .ok (.aload_n 0, 1) := by decide +kernel
theorem dX1_entry_15 : decode cX1_entry 15 = .ok (.getfield 18, 3) := by decide +kernel
theorem dX1_entry_18 : decode cX1_entry 18 = .ok (.iload_n 3, 1) := by decide +kernel
theorem dX1_entry_19 : decode cX1_entry 19 = .ok (.iaload, 1) := by decide +kernel
theorem dX1_entry_20 : decode cX1_entry 20 = .ok (.ireturn, 1) := by decide +kernel
theorem dX1_entry_21 : decode cX1_entry 21 = .ok (.iload_n 2, 1) := by decide +kernel
theorem dX1_entry_22 : decode cX1_entry 22 = .ok (.iconst 1, 1) := by decide +kernel
theorem dX1_entry_23 : decode cX1_entry 23 = .ok (.if_icmp .ne 12, 3) := by decide +kernel
theorem dX1_entry_26 : decode cX1_entry 26 = .ok (.aload_n 0, 1) := by decide +kernel
theorem dX1_entry_27 : decode cX1_entry 27 = .ok (.getfield 22, 3) := by decide +kernel
theorem dX1_entry_30 : decode cX1_entry 30 = .ok (.iload_n 3, 1) := by decide +kernel
theorem dX1_entry_31 : decode cX1_entry 31 = .ok (.iaload, 1) := by decide +kernel
theorem dX1_entry_32 : decode cX1_entry 32 = .ok (.goto 9, 3) := by decide +kernel
theorem dX1_entry_35 : decode cX1_entry 35 = .ok (.aload_n 0, 1) := by decide +kernel
theorem dX1_entry_36 : decode cX1_entry 36 = .ok (.getfield 25, 3) := by decide +kernel
theorem dX1_entry_39 : decode cX1_entry 39 = .ok (.iload_n 3, 1) := by decide +kernel
theorem dX1_entry_40 : decode cX1_entry 40 = .ok (.iaload, 1) := by decide +kernel
theorem dX1_entry_41 : decode cX1_entry 41 = .ok (.ireturn, 1) := by decide +kernel
theorem dX1_copyFrom_0 : decode cX1_copyFrom 0 = .ok (.aload_n 0, 1) := by decide +kernel
theorem dX1_copyFrom_1 : decode cX1_copyFrom 1 = .ok (.aload_n 1, 1) := by decide +kernel
theorem dX1_copyFrom_2 : decode cX1_copyFrom 2 = .ok (.getfield 9, 3) := by decide +kernel
theorem dX1_copyFrom_5 : decode cX1_copyFrom 5 = .ok (.putfield 9, 3) := by decide +kernel
theorem dX1_copyFrom_8 : decode cX1_copyFrom 8 = .ok (.aload_n 0, 1) := by decide +kernel
theorem dX1_copyFrom_9 : decode cX1_copyFrom 9 = .ok (.aload_n 1, 1) := by decide +kernel
theorem dX1_copyFrom_10 : decode cX1_copyFrom 10 = .ok (.getfield 15, 3) := by decide +kernel
theorem dX1_copyFrom_13 : decode cX1_copyFrom 13 = .ok (.putfield 15, 3) := by decide +kernel
theorem dX1_copyFrom_16 : decode cX1_copyFrom 16 = .ok (.aload_n 1, 1) := by decide +kernel
theorem dX1_copyFrom_17 : decode cX1_copyFrom 17 = .ok (.getfield 18, 3) := by decide +kernel
theorem dX1_copyFrom_20 : decode cX1_copyFrom 20 = .ok (.iconst 0, 1) := by decide +kernel
theorem dX1_copyFrom_21 : decode cX1_copyFrom 21 = .ok (.aload_n 0, 1) := by decide +kernel
theorem dX1_copyFrom_22 : decode cX1_copyFrom 22 = .ok (.getfield 18, 3) := by decide +kernel
theorem dX1_copyFrom_25 : decode cX1_copyFrom 25 = .ok (.iconst 0, 1) := by decide +kernel
theorem dX1_copyFrom_26 : decode cX1_copyFrom 26 = .ok (.bipush 60, 2) := by decide +kernel
theorem dX1_copyFrom_28 : decode cX1_copyFrom 28 = .ok (.invokestatic 28, 3) := by decide +kernel
theorem dX1_copyFrom_31 : decode cX1_copyFrom 31 = .ok (.aload_n 1, 1) := by decide +kernel
theorem dX1_copyFrom_32 : decode cX1_copyFrom 32 = .ok (.getfield 22, 3) := by decide +kernel
theorem dX1_copyFrom_35 : decode cX1_copyFrom 35 = .ok (.iconst 0, 1) := by decide +kernel
theorem dX1_copyFrom_36 : decode cX1_copyFrom 36 = .ok (.aload_n 0, 1) := by decide +kernel
theorem dX1_copyFrom_37 : decode cX1_copyFrom 37 = .ok (.getfield 22, 3) := by decide +kernel
theorem dX1_copyFrom_40 : decode cX1_copyFrom 40 = .ok (.iconst 0, 1) := by decide +kernel
theorem dX1_copyFrom_41 : decode cX1_copyFrom 41 = .ok (.bipush 60, 2) := by decide +kernel
theorem dX1_copyFrom_43 : decode cX1_copyFrom 43 = .ok (.invokestatic 28, 3) := by decide +kernel
theorem dX1_copyFrom_46 : decode cX1_copyFrom 46 = .ok (.aload_n 1, 1) := by decide +kernel
theorem dX1_copyFrom_47 : decode cX1_copyFrom 47 = .ok (.getfield 25, 3) := by decide +kernel
theorem dX1_copyFrom_50 : decode cX1_copyFrom 50 = .ok (.iconst 0, 1) := by decide +kernel
theorem dX1_copyFrom_51 : decode cX1_copyFrom 51 = .ok (.aload_n 0, 1) := by decide +kernel
theorem dX1_copyFrom_52 : decode cX1_copyFrom 52 = .ok (.getfield 25, 3) := by decide +kernel
theorem dX1_copyFrom_55 : decode cX1_copyFrom 55 = .ok (.iconst 0, 1) := by decide +kernel
theorem dX1_copyFrom_56 : decode cX1_copyFrom 56 = .ok (.bipush 60, 2) := by decide +kernel
theorem dX1_copyFrom_58 : decode cX1_copyFrom 58 = .ok (.invokestatic 28, 3) := by decide +kernel
theorem dX1_copyFrom_61 : decode cX1_copyFrom 61 = .ok (.return_, 1) := by decide +kernel
theorem dX2_init_0 : decode cX2_init 0 = .ok (.aload_n 0, 1) := by decide +kernel
theorem dX2_init_1 : decode cX2_init 1 = .ok (.invokespecial 3, 3) := by decide +kernel
theorem dX2_init_4 : decode cX2_init 4 = .ok (.aload_n 0, 1) := by decide +kernel
theorem dX2_init_5 : decode cX2_init 5 = .ok (.iconst 0, 1) := by decide +kernel
theorem dX2_init_6 : decode cX2_init 6 = .ok (.putfield 9, 3) := by decide +kernel
theorem dX2_init_9 : decode cX2_init 9 = .ok (.aload_n 0, 1) := by decide +kernel
theorem dX2_init_10 : decode cX2_init 10 = .ok (.bipush 24, 2) := by decide +kernel
theorem dX2_init_12 : decode cX2_init 12 = .ok (.newarray .int, 2) := by decide +kernel
theorem dX2_init_14 : decode cX2_init 14 = .ok (.putfield 15, 3) := by decide +kernel
theorem dX2_init_17 : decode cX2_init 17 = .ok (.aload_n 0, 1) := by decide +kernel
theorem dX2_init_18 : decode cX2_init 18 = .ok (.bipush 24, 2) := by decide +kernel
theorem dX2_init_20 : decode cX2_init 20 = .ok (.newarray .int, 2) := by decide +kernel
theorem dX2_init_22 : decode cX2_init 22 = .ok (.putfield 19, 3) := by decide +kernel
theorem dX2_init_25 : decode cX2_init 25 = .ok (.aload_n 0, 1) := by decide +kernel
theorem dX2_init_26 : decode cX2_init 26 = .ok (.bipush 24, 2) := by decide +kernel
theorem dX2_init_28 : decode cX2_init 28 = .ok (.newarray .int, 2) := by decide +kernel
theorem dX2_init_30 : decode cX2_init 30 = .ok (.putfield 22, 3) := by decide +kernel
theorem dX2_init_33 : decode cX2_init 33 = .ok (.aload_n 0, 1) := by decide +kernel
theorem dX2_init_34 : decode cX2_init 34 = .ok (.bipush 24, 2) := by decide +kernel
theorem dX2_init_36 : decode cX2_init 36 = .ok (.newarray .int, 2) := by decide +kernel
theorem dX2_init_38 : decode cX2_init 38 = .ok (.putfield 25, 3) := by decide +kernel
theorem dX2_init_41 : decode cX2_init 41 = .ok (.aload_n 0, 1) := by decide +kernel
theorem dX2_init_42 : decode cX2_init 42 = .ok (.bipush 24, 2) := by decide +kernel
theorem dX2_init_44 : decode cX2_init 44 = .ok (.newarray .int, 2) := by decide +kernel
theorem dX2_init_46 : decode cX2_init 46 = .ok (.putfield 28, 3) := by decide +kernel
theorem dX2_init_49 : decode cX2_init 49 = .ok (.aload_n 0, 1) := by decide +kernel
theorem dX2_init_50 : decode cX2_init 50 = .ok (.bipush 24, 2) := by decide +kernel
theorem dX2_init_52 : decode cX2_init 52 = .ok (.newarray .int, 2) := by decide +kernel
theorem dX2_init_54 : decode cX2_init 54 = .ok (.putfield 31, 3) := by decide +kernel
theorem dX2_init_57 : decode cX2_init 57 = .ok (.aload_n 0, 1) := by decide +kernel
theorem dX2_init_58 : decode cX2_init 58 = .ok (.bipush 24, 2) := by decide +kernel
theorem dX2_init_60 : decode cX2_init 60 = .ok (.newarray .int, 2) := by decide +kernel
theorem dX2_init_62 : decode cX2_init 62 = .ok (.putfield 34, 3) := by decide +kernel
theorem dX2_init_65 : decode cX2_init 65 = .ok (.aload_n 0, 1) := by decide +kernel
theorem dX2_init_66 : decode cX2_init 66 = .ok (.bipush 24, 2) := by decide +kernel
theorem dX2_init_68 : decode cX2_init 68 = .ok (.newarray .int, 2) := by decide +kernel
theorem dX2_init_70 : decode cX2_init 70 = .ok (.putfield 37, 3) := by decide +kernel
theorem dX2_init_73 : decode cX2_init 73 = .ok (.aload_n 0, 1) := by decide +kernel
theorem dX2_init_74 : decode cX2_init 74 = .ok (.bipush 24, 2) := by decide +kernel
theorem dX2_init_76 : decode cX2_init 76 = .ok (.newarray .int, 2) := by decide +kernel
theorem dX2_init_78 : decode cX2_init 78 = .ok (.putfield 40, 3) := by decide +kernel
theorem dX2_init_81 : decode cX2_init 81 = .ok (.aload_n 0, 1) := by decide +kernel
theorem dX2_init_82 : decode cX2_init 82 = .ok (.bipush 24, 2) := by decide +kernel
theorem dX2_init_84 : decode cX2_init 84 = .ok (.newarray .int, 2) := by decide +kernel
theorem dX2_init_86 : decode cX2_init 86 = .ok (.putfield 43, 3) := by decide +kernel
theorem dX2_init_89 : decode cX2_init 89 = .ok (.aload_n 0, 1) := by decide +kernel
theorem dX2_init_90 : decode cX2_init 90 = .ok (.bipush 24, 2) := by decide +kernel
theorem dX2_init_92 : decode cX2_init 92 = .ok (.newarray .int, 2) := by decide +kernel
theorem dX2_init_94 : decode cX2_init 94 = .ok (.putfield 46, 3) := by decide +kernel
theorem dX2_init_97 : decode cX2_init 97 = .ok (.aload_n 0, 1) := by decide +kernel
theorem dX2_init_98 : decode cX2_init 98 = .ok (.bipush 24, 2) := by decide +kernel
theorem dX2_init_100 : decode cX2_init 100 = .ok (.newarray .int, 2) := by decide +kernel
theorem dX2_init_102 : decode cX2_init 102 = .ok (.putfield 49, 3) := by decide +kernel
theorem dX2_init_105 : decode cX2_init 105 = .ok (.return_, 1) := by decide +kernel
theorem dX2_wasStarted_0 : decode cX2_wasStarted 0 = .ok (.aload_n 0, 1) := by decide +kernel
theorem dX2_wasStarted_1 : decode cX2_wasStarted 1 = .ok (.getfield 40, 3) := by decide +kernel
theorem dX2_wasStarted_4 : decode cX2_wasStarted 4 = .ok (.iload_n 1, 1) := by decide +kernel
theorem dX2_wasStarted_5 : decode cX2_wasStarted 5 = .ok (.iaload, 1) := by decide +kernel
theorem dX2_wasStarted_6 : decode cX2_wasStarted 6 = .ok (.iconst (-1), 1) := by decide +kernel
theorem dX2_wasStarted_7 : decode cX2_wasStarted 7 = .ok (.if_icmp .eq 7, 3) := by decide +kernel
theorem dX2_wasStarted_10 : decode cX2_wasStarted 10 = .ok (.iconst 1, 1) := by decide +kernel
theorem dX2_wasStarted_11 : decode cX2_wasStarted 11 = .ok (.goto 4, 3) := by decide +kernel
theorem dX2_wasStarted_14 : decode cX2_wasStarted 14 = .ok (.iconst 0, 1) := by decide +kernel
theorem dX2_wasStarted_15 : decode cX2_wasStarted 15 = .ok (.ireturn, 1) := by decide +kernel
theorem dX2_waited_0 : decode cX2_waited 0 = .ok (.aload_n 0, 1) := by decide +kernel
theorem dX2_waited_1 : decode cX2_waited 1 = .ok (.getfield 40, 3) := by decide +kernel
theorem dX2_waited_4 : decode cX2_waited 4 = .ok (.iload_n 1, 1) := by decide +kernel
theorem dX2_waited_5 : decode cX2_waited 5 = .ok (.iaload, 1) := by decide +kernel
theorem dX2_waited_6 : decode cX2_waited 6 = .ok (.aload_n 0, 1) := by decide +kernel
theorem dX2_waited_7 : decode cX2_waited 7 = .ok (.getfield 34, 3) := by decide +kernel
theorem dX2_waited_10 : decode cX2_waited 10 = .ok (.iload_n 1, 1) := by decide +kernel
theorem dX2_waited_11 : decode cX2_waited 11 = .ok (.iaload, 1) := by decide +kernel
theorem dX2_waited_12 : decode cX2_waited 12 = .ok (.isub, 1) := by decide +kernel
theorem dX2_waited_13 : decode cX2_waited 13 = .ok (.ireturn, 1) := by decide +kernel
theorem dX2_append_0 : decode cX2_append 0 = .ok (.aload_n 0, 1) := by decide +kernel
theorem dX2_append_1 : decode cX2_append 1 = .ok (.getfield 9, 3) := by decide +kernel
theorem dX2_append_4 : decode cX2_append 4 = .ok (.istore 6, 2) := by decide +kernel
theorem dX2_append_6 : decode cX2_append 6 = .ok (.aload_n 0, 1) := by decide +kernel
theorem dX2_append_7 : decode cX2_append 7 = .ok (.getfield 15, 3) := by decide +kernel
theorem dX2_append_10 : decode cX2_append 10 = .ok (.iload 6, 2) := by decide +kernel
theorem dX2_append_12 : decode cX2_append 12 = .ok (.iload_n 1, 1) := by decide +kernel
theorem dX2_append_13 : decode cX2_append 13 = .ok (.iastore, 1) := by decide +kernel
theorem dX2_append_14 : decode cX2_append 14 = .ok (.aload_n 0, 1) := by decide +kernel
theorem dX2_append_15 : decode cX2_append 15 = .ok (.getfield 19, 3) := by decide +kernel
theorem dX2_append_18 : decode cX2_append 18 = .ok (.iload 6, 2) := by decide +kernel
theorem dX2_append_20 : decode cX2_append 20 = .ok (.iload_n 2, 1) := by decide +kernel
theorem dX2_append_21 : decode cX2_append 21 = .ok (.iastore, 1) := by decide +kernel
theorem dX2_append_22 : decode cX2_append 22 = .ok (.aload_n 0, 1) := by decide +kernel
theorem dX2_append_23 : decode cX2_append 23 = .ok (.getfield 22, 3) := by decide +kernel
theorem dX2_append_26 : decode cX2_append 26 = .ok (.iload 6, 2) := by decide +kernel
theorem dX2_append_28 : decode cX2_append 28 = .ok (.iload_n 3, 1) := by decide +kernel
theorem dX2_append_29 : decode cX2_append 29 = .ok (.iastore, 1) := by decide +kernel
theorem dX2_append_30 : decode cX2_append 30 = .ok (.aload_n 0, 1) := by decide +kernel
theorem dX2_append_31 : decode cX2_append 31 = .ok (.getfield 25, 3) := by decide +kernel
theorem dX2_append_34 : decode cX2_append 34 = .ok (.iload 6, 2) := by decide +kernel
theorem dX2_append_36 : decode cX2_append 36 = .ok (.iload 4, 2) := by decide +kernel
theorem dX2_append_38 : decode cX2_append 38 = .ok (.iastore, 1) := by decide +kernel
theorem dX2_append_39 : decode cX2_append 39 = .ok (.aload_n 0, 1) := by decide +kernel
theorem dX2_append_40 : decode cX2_append 40 = .ok (.getfield 28, 3) := by decide +kernel
theorem dX2_append_43 : decode cX2_append 43 = .ok (.iload 6, 2) := by decide +kernel
theorem dX2_append_45 : decode cX2_append 45 = .ok (.iconst 0, 1) := by decide +kernel
theorem dX2_append_46 : decode cX2_append 46 = .ok (.iastore, 1) := by decide +kernel
theorem dX2_append_47 : decode cX2_append 47 = .ok (.aload_n 0, 1) := by decide +kernel
theorem dX2_append_48 : decode cX2_append 48 = .ok (.getfield 31, 3) := by decide +kernel
theorem dX2_append_51 : decode cX2_append 51 = .ok (.iload 6, 2) := by decide +kernel
theorem dX2_append_53 : decode cX2_append 53 = .ok (.iload 4, 2) := by decide +kernel
theorem dX2_append_55 : decode cX2_append 55 = .ok (.iastore, 1) := by decide +kernel
theorem dX2_append_56 : decode cX2_append 56 = .ok (.aload_n 0, 1) := by decide +kernel
theorem dX2_append_57 : decode cX2_append 57 = .ok (.getfield 34, 3) := by decide +kernel
theorem dX2_append_60 : decode cX2_append 60 = .ok (.iload 6, 2) := by decide +kernel
theorem dX2_append_62 : decode cX2_append 62 = .ok (.iload 5, 2) := by decide +kernel
theorem dX2_append_64 : decode cX2_append 64 = .ok (.iastore, 1) := by decide +kernel
theorem dX2_append_65 : decode cX2_append 65 = .ok (.aload_n 0, 1) := by decide +kernel
theorem dX2_append_66 : decode cX2_append 66 = .ok (.getfield 37, 3) := by decide +kernel
theorem dX2_append_69 : decode cX2_append 69 = .ok (.iload 6, 2) := by decide +kernel
theorem dX2_append_71 : decode cX2_append 71 = .ok (.iconst (-1), 1) := by decide +kernel
theorem dX2_append_72 : decode cX2_append 72 = .ok (.iastore, 1) := by decide +kernel
theorem dX2_append_73 : decode cX2_append 73 = .ok (.aload_n 0, 1) := by decide +kernel
theorem dX2_append_74 : decode cX2_append 74 = .ok (.getfield 40, 3) := by decide +kernel
theorem dX2_append_77 : decode cX2_append 77 = .ok (.iload 6, 2) := by decide +kernel
theorem dX2_append_79 : decode cX2_append 79 = .ok (.iconst (-1), 1) := by decide +kernel
theorem dX2_append_80 : decode cX2_append 80 = .ok (.iastore, 1) := by decide +kernel
theorem dX2_append_81 : decode cX2_append 81 = .ok (.aload_n 0, 1) := by decide +kernel
theorem dX2_append_82 : decode cX2_append 82 = .ok (.getfield 43, 3) := by decide +kernel
theorem dX2_append_85 : decode cX2_append 85 = .ok (.iload 6, 2) := by decide +kernel
theorem dX2_append_87 : decode cX2_append 87 = .ok (.iconst (-1), 1) := by decide +kernel
theorem dX2_append_88 : decode cX2_append 88 = .ok (.iastore, 1) := by decide +kernel
theorem dX2_append_89 : decode cX2_append 89 = .ok (.aload_n 0, 1) := by decide +kernel
theorem dX2_append_90 : decode cX2_append 90 = .ok (.getfield 46, 3) := by decide +kernel
theorem dX2_append_93 : decode cX2_append 93 = .ok (.iload 6, 2) := by decide +kernel
theorem dX2_append_95 : decode cX2_append 95 = .ok (.iconst 0, 1) := by decide +kernel
theorem dX2_append_96 : decode cX2_append 96 = .ok (.iastore, 1) := by decide +kernel
theorem dX2_append_97 : decode cX2_append 97 = .ok (.aload_n 0, 1) := by decide +kernel
theorem dX2_append_98 : decode cX2_append 98 = .ok (.getfield 49, 3) := by decide +kernel
theorem dX2_append_101 : decode cX2_append 101 = .ok (.iload 6, 2) := by decide +kernel
theorem dX2_append_103 : decode cX2_append 103 = .ok (.iconst 0, 1) := by decide +kernel
theorem dX2_append_104 : decode cX2_append 104 = .ok (.iastore, 1) := by decide +kernel
theorem dX2_append_105 : decode cX2_append 105 = .ok (.aload_n 0, 1) := by decide +kernel
theorem dX2_append_106 : decode cX2_append 106 = .ok (.dup, 1) := by decide +kernel
theorem dX2_append_107 : decode cX2_append 107 = .ok (.getfield 9, 3) := by decide +kernel
theorem dX2_append_110 : decode cX2_append 110 = .ok (.iconst 1, 1) := by decide +kernel
theorem dX2_append_111 : decode cX2_append 111 = .ok (.iadd, 1) := by decide +kernel
theorem dX2_append_112 : decode cX2_append 112 = .ok (.putfield 9, 3) := by decide +kernel
theorem dX2_append_115 : decode cX2_append 115 = .ok (.iload 6, 2) := by decide +kernel
theorem dX2_append_117 : decode cX2_append 117 = .ok (.ireturn, 1) := by decide +kernel
theorem dX2_copyFrom_0 : decode cX2_copyFrom 0 = .ok (.aload_n 0, 1) := by decide +kernel
theorem dX2_copyFrom_1 : decode cX2_copyFrom 1 = .ok (.aload_n 1, 1) := by decide +kernel
theorem dX2_copyFrom_2 : decode cX2_copyFrom 2 = .ok (.getfield 9, 3) := by decide +kernel
theorem dX2_copyFrom_5 : decode cX2_copyFrom 5 = .ok (.putfield 9, 3) := by decide +kernel
theorem dX2_copyFrom_8 : decode cX2_copyFrom 8 = .ok (.aload_n 1, 1) := by decide +kernel
theorem dX2_copyFrom_9 : decode cX2_copyFrom 9 = .ok (.getfield 15, 3) := by decide +kernel
theorem dX2_copyFrom_12 : decode cX2_copyFrom 12 = .ok (.iconst 0, 1) := by decide +kernel
theorem dX2_copyFrom_13 : decode cX2_copyFrom 13 = .ok (.aload_n 0, 1) := by decide +kernel
theorem dX2_copyFrom_14 : decode cX2_copyFrom 14 = .ok (.getfield 15, 3) := by decide +kernel
theorem dX2_copyFrom_17 : decode cX2_copyFrom 17 = .ok (.iconst 0, 1) := by decide +kernel
theorem dX2_copyFrom_18 : decode cX2_copyFrom 18 = .ok (.bipush 24, 2) := by decide +kernel
theorem dX2_copyFrom_20 : decode cX2_copyFrom 20 = .ok (.invokestatic 52, 3) := by decide +kernel
theorem dX2_copyFrom_23 : decode cX2_copyFrom 23 = .ok (.aload_n 1, 1) := by decide +kernel
theorem dX2_copyFrom_24 : decode cX2_copyFrom 24 = .ok (.getfield 19, 3) := by decide +kernel
theorem dX2_copyFrom_27 : decode cX2_copyFrom 27 = .ok (.iconst 0, 1) := by decide +kernel
theorem dX2_copyFrom_28 : decode cX2_copyFrom 28 = .ok (.aload_n 0, 1) := by decide +kernel
theorem dX2_copyFrom_29 : decode cX2_copyFrom 29 = .ok (.getfield 19, 3) := by decide +kernel
theorem dX2_copyFrom_32 : decode cX2_copyFrom 32 = .ok (.iconst 0, 1) := by decide +kernel
theorem dX2_copyFrom_33 : decode cX2_copyFrom 33 = .ok (.bipush 24, 2) := by decide +kernel
theorem dX2_copyFrom_35 : decode cX2_copyFrom 35 = .ok (.invokestatic 52, 3) := by decide +kernel
theorem dX2_copyFrom_38 : decode cX2_copyFrom 38 = .ok (.aload_n 1, 1) := by decide +kernel
theorem dX2_copyFrom_39 : decode cX2_copyFrom 39 = .ok (.getfield 22, 3) := by decide +kernel
theorem dX2_copyFrom_42 : decode cX2_copyFrom 42 = .ok (.iconst 0, 1) := by decide +kernel
theorem dX2_copyFrom_43 : decode cX2_copyFrom 43 = .ok (.aload_n 0, 1) := by decide +kernel
theorem dX2_copyFrom_44 : decode cX2_copyFrom 44 = .ok (.getfield 22, 3) := by decide +kernel
theorem dX2_copyFrom_47 : decode cX2_copyFrom 47 = .ok (.iconst 0, 1) := by decide +kernel
theorem dX2_copyFrom_48 : decode cX2_copyFrom 48 = .ok (.bipush 24, 2) := by decide +kernel
theorem dX2_copyFrom_50 : decode cX2_copyFrom 50 = .ok (.invokestatic 52, 3) := by decide +kernel
theorem dX2_copyFrom_53 : decode cX2_copyFrom 53 = .ok (.aload_n 1, 1) := by decide +kernel
theorem dX2_copyFrom_54 : decode cX2_copyFrom 54 = .ok (.getfield 25, 3) := by decide +kernel
theorem dX2_copyFrom_57 : decode cX2_copyFrom 57 = .ok (.iconst 0, 1) := by decide +kernel
theorem dX2_copyFrom_58 : decode cX2_copyFrom 58 = .ok (.aload_n 0, 1) := by decide +kernel
theorem dX2_copyFrom_59 : decode cX2_copyFrom 59 = .ok (.getfield 25, 3) := by decide +kernel
theorem dX2_copyFrom_62 : decode cX2_copyFrom 62 = .ok (.iconst 0, 1) := by decide +kernel
theorem dX2_copyFrom_63 : decode cX2_copyFrom 63 = .ok (.bipush 24, 2) := by decide +kernel
theorem dX2_copyFrom_65 : decode cX2_copyFrom 65 = .ok (.invokestatic 52, 3) := by decide +kernel
theorem dX2_copyFrom_68 : decode cX2_copyFrom 68 = .ok (.aload_n 1, 1) := by decide +kernel
theorem dX2_copyFrom_69 : decode cX2_copyFrom 69 = .ok (.getfield 28, 3) := by decide +kernel
theorem dX2_copyFrom_72 : decode cX2_copyFrom 72 = .ok (.iconst 0, 1) := by decide +kernel
theorem dX2_copyFrom_73 : decode cX2_copyFrom 73 = .ok (.aload_n 0, 1) := by decide +kernel
theorem dX2_copyFrom_74 : decode cX2_copyFrom 74 = .ok (.getfield 28, 3) := by decide +kernel
theorem dX2_copyFrom_77 : decode cX2_copyFrom 77 = .ok (.iconst 0, 1) := by decide +kernel
theorem dX2_copyFrom_78 : decode cX2_copyFrom 78 = .ok (.bipush 24, 2) := by decide +kernel
theorem dX2_copyFrom_80 : decode cX2_copyFrom 80 = .ok (.invokestatic 52, 3) := by decide +kernel
theorem dX2_copyFrom_83 : decode cX2_copyFrom 83 = .ok (.aload_n 1, 1) := by decide +kernel
theorem dX2_copyFrom_84 : decode cX2_copyFrom 84 = .ok (.getfield 31, 3) := by decide +kernel
theorem dX2_copyFrom_87 : decode cX2_copyFrom 87 = .ok (.iconst 0, 1) := by decide +kernel
theorem dX2_copyFrom_88 : decode cX2_copyFrom 88 = .ok (.aload_n 0, 1) := by decide +kernel
theorem dX2_copyFrom_89 : decode cX2_copyFrom 89 = .ok (.getfield 31, 3) := by decide +kernel
theorem dX2_copyFrom_92 : decode cX2_copyFrom 92 = .ok (.iconst 0, 1) := by decide +kernel
theorem dX2_copyFrom_93 : decode cX2_copyFrom 93 = .ok (.bipush 24, 2) := by decide +kernel
theorem dX2_copyFrom_95 : decode cX2_copyFrom 95 = .ok (.invokestatic 52, 3) := by decide +kernel
theorem dX2_copyFrom_98 : decode cX2_copyFrom 98 = .ok (.aload_n 1, 1) := by decide +kernel
theorem dX2_copyFrom_99 : decode cX2_copyFrom 99 = .ok (.getfield 34, 3) := by decide +kernel
theorem dX2_copyFrom_102 : decode cX2_copyFrom 102 = .ok (.iconst 0, 1) := by decide +kernel
theorem dX2_copyFrom_103 : decode cX2_copyFrom 103 = .ok (.aload_n 0, 1) := by decide +kernel
theorem dX2_copyFrom_104 : decode cX2_copyFrom 104 = .ok (.getfield 34, 3) := by decide +kernel
theorem dX2_copyFrom_107 : decode cX2_copyFrom 107 = .ok (.iconst 0, 1) := by decide +kernel
theorem dX2_copyFrom_108 : decode cX2_copyFrom 108 = .ok (.bipush 24, 2) := by decide +kernel
theorem dX2_copyFrom_110 : decode cX2_copyFrom 110 = .ok (.invokestatic 52, 3) := by decide +kernel
theorem dX2_copyFrom_113 : decode cX2_copyFrom 113 = .ok (.aload_n 1, 1) := by decide +kernel
theorem dX2_copyFrom_114 : decode cX2_copyFrom 114 = .ok (.getfield 37, 3) := by decide +kernel
theorem dX2_copyFrom_117 : decode cX2_copyFrom 117 = .ok (.iconst 0, 1) := by decide +kernel
theorem dX2_copyFrom_118 : decode cX2_copyFrom 118 = .ok (.aload_n 0, 1) := by decide +kernel
theorem dX2_copyFrom_119 : decode cX2_copyFrom 119 = .ok (.getfield 37, 3) := by decide +kernel
theorem dX2_copyFrom_122 : decode cX2_copyFrom 122 = .ok (.iconst 0, 1) := by decide +kernel
theorem dX2_copyFrom_123 : decode cX2_copyFrom 123 = .ok (.bipush 24, 2) := by decide +kernel
theorem dX2_copyFrom_125 : decode cX2_copyFrom 125 = .ok (.invokestatic 52, 3) := by decide +kernel
theorem dX2_copyFrom_128 : decode cX2_copyFrom 128 = .ok (.aload_n 1, 1) := by decide +kernel
theorem dX2_copyFrom_129 : decode cX2_copyFrom 129 = .ok (.getfield 40, 3) := by decide +kernel
theorem dX2_copyFrom_132 : decode cX2_copyFrom 132 = .ok (.iconst 0, 1) := by decide +kernel
theorem dX2_copyFrom_133 : decode cX2_copyFrom 133 = .ok (.aload_n 0, 1) := by decide +kernel
theorem dX2_copyFrom_134 : decode cX2_copyFrom 134 = .ok (.getfield 40, 3) := by decide +kernel
theorem dX2_copyFrom_137 : decode cX2_copyFrom 137 = .ok (.iconst 0, 1) := by decide +kernel
theorem dX2_copyFrom_138 : decode cX2_copyFrom 138 = .ok (.bipush 24, 2) := by decide +kernel
theorem dX2_copyFrom_140 : decode cX2_copyFrom 140 = .ok (.invokestatic 52, 3) := by decide +kernel
theorem dX2_copyFrom_143 : decode cX2_copyFrom 143 = .ok (.aload_n 1, 1) := by decide +kernel
theorem dX2_copyFrom_144 : decode cX2_copyFrom 144 = .ok (.getfield 43, 3) := by decide +kernel
theorem dX2_copyFrom_147 : decode cX2_copyFrom 147 = .ok (.iconst 0, 1) := by decide +kernel
theorem dX2_copyFrom_148 : decode cX2_copyFrom 148 = .ok (.aload_n 0, 1) := by decide +kernel
theorem dX2_copyFrom_149 : decode cX2_copyFrom 149 = .ok (.getfield 43, 3) := by decide +kernel
theorem dX2_copyFrom_152 : decode cX2_copyFrom 152 = .ok (.iconst 0, 1) := by decide +kernel
theorem dX2_copyFrom_153 : decode cX2_copyFrom 153 = .ok (.bipush 24, 2) := by decide +kernel
theorem dX2_copyFrom_155 : decode cX2_copyFrom 155 = .ok (.invokestatic 52, 3) := by decide +kernel
theorem dX2_copyFrom_158 : decode cX2_copyFrom 158 = .ok (.aload_n 1, 1) := by decide +kernel
theorem dX2_copyFrom_159 : decode cX2_copyFrom 159 = .ok (.getfield 46, 3) := by decide +kernel
theorem dX2_copyFrom_162 : decode cX2_copyFrom 162 = .ok (.iconst 0, 1) := by decide +kernel
theorem dX2_copyFrom_163 : decode cX2_copyFrom 163 = .ok (.aload_n 0, 1) := by decide +kernel
theorem dX2_copyFrom_164 : decode cX2_copyFrom 164 = .ok (.getfield 46, 3) := by decide +kernel
theorem dX2_copyFrom_167 : decode cX2_copyFrom 167 = .ok (.iconst 0, 1) := by decide +kernel
theorem dX2_copyFrom_168 : decode cX2_copyFrom 168 = .ok (.bipush 24, 2) := by decide +kernel
theorem dX2_copyFrom_170 : decode cX2_copyFrom 170 = .ok (.invokestatic 52, 3) := by decide +kernel
theorem dX2_copyFrom_173 : decode cX2_copyFrom 173 = .ok (.aload_n 1, 1) := by decide +kernel
theorem dX2_copyFrom_174 : decode cX2_copyFrom 174 = .ok (.getfield 49, 3) := by decide +kernel
theorem dX2_copyFrom_177 : decode cX2_copyFrom 177 = .ok (.iconst 0, 1) := by decide +kernel
theorem dX2_copyFrom_178 : decode cX2_copyFrom 178 = .ok (.aload_n 0, 1) := by decide +kernel
theorem dX2_copyFrom_179 : decode cX2_copyFrom 179 = .ok (.getfield 49, 3) := by decide +kernel
theorem dX2_copyFrom_182 : decode cX2_copyFrom 182 = .ok (.iconst 0, 1) := by decide +kernel
theorem dX2_copyFrom_183 : decode cX2_copyFrom 183 = .ok (.bipush 24, 2) := by decide +kernel
theorem dX2_copyFrom_185 : decode cX2_copyFrom 185 = .ok (.invokestatic 52, 3) := by decide +kernel
theorem dX2_copyFrom_188 : decode cX2_copyFrom 188 = .ok (.return_, 1) := by decide +kernel
theorem dX3_init_0 : decode cX3_init 0 = .ok (.aload_n 0, 1) := by decide +kernel
theorem dX3_init_1 : decode cX3_init 1 = .ok (.invokespecial 3, 3) := by decide +kernel
theorem dX3_init_4 : decode cX3_init 4 = .ok (.aload_n 0, 1) := by decide +kernel
theorem dX3_init_5 : decode cX3_init 5 = .ok (.bipush 30, 2) := by decide +kernel
theorem dX3_init_7 : decode cX3_init 7 = .ok (.newarray .int, 2) := by decide +kernel
theorem dX3_init_9 : decode cX3_init 9 = .ok (.putfield 11, 3) := by decide +kernel
theorem dX3_init_12 : decode cX3_init 12 = .ok (.aload_n 0, 1) := by decide +kernel
theorem dX3_init_13 : decode cX3_init 13 = .ok (.bipush 30, 2) := by decide +kernel
theorem dX3_init_15 : decode cX3_init 15 = .ok (.newarray .int, 2) := by decide +kernel
theorem dX3_init_17 : decode cX3_init 17 = .ok (.putfield 15, 3) := by decide +kernel
theorem dX3_init_20 : decode cX3_init 20 = .ok (.aload_n 0, 1) := by decide +kernel
theorem dX3_init_21 : decode cX3_init 21 = .ok (.bipush 30, 2) := by decide +kernel
theorem dX3_init_23 : decode cX3_init 23 = .ok (.newarray .int, 2) := by decide +kernel
theorem dX3_init_25 : decode cX3_init 25 = .ok (.putfield 18, 3) := by decide +kernel
theorem dX3_init_28 : decode cX3_init 28 = .ok (.aload_n 0, 1) := by decide +kernel
theorem dX3_init_29 : decode cX3_init 29 = .ok (.bipush 30, 2) := by decide +kernel
theorem dX3_init_31 : decode cX3_init 31 = .ok (.newarray .int, 2) := by decide +kernel
theorem dX3_init_33 : decode cX3_init 33 = .ok (.putfield 21, 3) := by decide +kernel
theorem dX3_init_36 : decode cX3_init 36 = .ok (.return_, 1) := by decide +kernel
theorem dX3_give_0 : decode cX3_give 0 = .ok (.aload_n 0, 1) := by decide +kernel
theorem dX3_give_1 : decode cX3_give 1 = .ok (.getfield 11, 3) := by decide +kernel
theorem dX3_give_4 : decode cX3_give 4 = .ok (.iload_n 1, 1) := by decide +kernel
theorem dX3_give_5 : decode cX3_give 5 = .ok (.iload_n 2, 1) := by decide +kernel
theorem dX3_give_6 : decode cX3_give 6 = .ok (.iload_n 3, 1) := by decide +kernel
theorem dX3_give_7 : decode cX3_give 7 = .ok (.invokestatic 24, 3) := by decide +kernel
theorem dX3_give_10 : decode cX3_give 10 = .ok (.iastore, 1) := by decide +kernel
theorem dX3_give_11 : decode cX3_give 11 = .ok (.aload_n 0, 1) := by decide +kernel
theorem dX3_give_12 : decode cX3_give 12 = .ok (.getfield 15, 3) := by decide +kernel
theorem dX3_give_15 : decode cX3_give 15 = .ok (.iload_n 1, 1) := by decide +kernel
theorem dX3_give_16 : decode cX3_give 16 = .ok (.iload_n 3, 1) := by decide +kernel
theorem dX3_give_17 : decode cX3_give 17 = .ok (.iastore, 1) := by decide +kernel
theorem dX3_give_18 : decode cX3_give 18 = .ok (.aload_n 0, 1) := by decide +kernel
theorem dX3_give_19 : decode cX3_give 19 = .ok (.getfield 18, 3) := by decide +kernel
theorem dX3_give_22 : decode cX3_give 22 = .ok (.iload_n 1, 1) := by decide +kernel
theorem dX3_give_23 : decode cX3_give 23 = .ok (.iload 4, 2) := by decide +kernel
theorem dX3_give_25 : decode cX3_give 25 = .ok (.iastore, 1) := by decide +kernel
theorem dX3_give_26 : decode cX3_give 26 = .ok (.aload_n 0, 1) := by decide +kernel
theorem dX3_give_27 : decode cX3_give 27 = .ok (.getfield 21, 3) := by decide +kernel
theorem dX3_give_30 : decode cX3_give 30 = .ok (.iload_n 1, 1) := by decide +kernel
theorem dX3_give_31 : decode cX3_give 31 = .ok (.iload 4, 2) := by decide +kernel
theorem dX3_give_33 : decode cX3_give 33 = .ok (.iload 5, 2) := by decide +kernel
theorem dX3_give_35 : decode cX3_give 35 = .ok (.iadd, 1) := by decide +kernel
theorem dX3_give_36 : decode cX3_give 36 = .ok (.iastore, 1) := by decide +kernel
theorem dX3_give_37 : decode cX3_give 37 = .ok (.return_, 1) := by decide +kernel
theorem dX3_clearSlot_0 : decode cX3_clearSlot 0 = .ok (.aload_n 0, 1) := by decide +kernel
theorem dX3_clearSlot_1 : decode cX3_clearSlot 1 = .ok (.getfield 11, 3) := by decide +kernel
theorem dX3_clearSlot_4 : decode cX3_clearSlot 4 = .ok (.iload_n 1, 1) := by decide +kernel
theorem dX3_clearSlot_5 : decode cX3_clearSlot 5 = .ok (.iconst 0, 1) := by decide +kernel
theorem dX3_clearSlot_6 : decode cX3_clearSlot 6 = .ok (.iastore, 1) := by decide +kernel
theorem dX3_clearSlot_7 : decode cX3_clearSlot 7 = .ok (.return_, 1) := by decide +kernel
theorem dX3_isUsed_0 : decode cX3_isUsed 0 = .ok (.aload_n 0, 1) := by decide +kernel
theorem dX3_isUsed_1 : decode cX3_isUsed 1 = .ok (.getfield 11, 3) := by decide +kernel
theorem dX3_isUsed_4 : decode cX3_isUsed 4 = .ok (.iload_n 1, 1) := by decide +kernel
theorem dX3_isUsed_5 : decode cX3_isUsed 5 = .ok (.iaload, 1) := by decide +kernel
theorem dX3_isUsed_6 : decode cX3_isUsed 6 = .ok (.ifCond .eq 7, 3) := by decide +kernel
theorem dX3_isUsed_9 : decode cX3_isUsed 9 = .ok (.iconst 1, 1) := by decide +kernel
theorem dX3_isUsed_10 : decode cX3_isUsed 10 = .ok (.goto 4, 3) := by decide +kernel
theorem dX3_isUsed_13 : decode cX3_isUsed 13 = .ok (.iconst 0, 1) := by decide +kernel
theorem dX3_isUsed_14 : decode cX3_isUsed 14 = .ok (.ireturn, 1) := by decide +kernel
theorem dX3_takenIn_0 : decode cX3_takenIn 0 = .ok (.iconst 0, 1) := by decide +kernel
theorem dX3_takenIn_1 : decode cX3_takenIn 1 = .ok (.istore_n 3, 1) := by decide +kernel
theorem dX3_takenIn_2 : decode cX3_takenIn 2 = .ok (.iconst 0, 1) := by decide +kernel
theorem dX3_takenIn_3 : decode cX3_takenIn 3 = .ok (.istore 4, 2) := by decide +kernel
theorem dX3_takenIn_5 : decode cX3_takenIn 5 = .ok (.iload 4, 2) := by decide +kernel
theorem dX3_takenIn_7 : decode cX3_takenIn 7 = .ok (.bipush 30, 2) := by decide +kernel
theorem dX3_takenIn_9 : decode cX3_takenIn 9 = .ok (.if_icmp .ge 41, 3) := by decide +kernel
theorem dX3_takenIn_12 : decode cX3_takenIn 12 = .ok (.aload_n 0, 1) := by decide +kernel
theorem dX3_takenIn_13 : decode cX3_takenIn 13 = .ok (.getfield 18, 3) := by decide +kernel
theorem dX3_takenIn_16 : decode cX3_takenIn 16 = .ok (.iload 4, 2) := by decide +kernel
theorem dX3_takenIn_18 : decode cX3_takenIn 18 = .ok (.iaload, 1) := by decide +kernel
theorem dX3_takenIn_19 : decode cX3_takenIn 19 = .ok (.iload_n 2, 1) := by decide +kernel
theorem dX3_takenIn_20 : decode cX3_takenIn 20 = .ok (.if_icmp .gt 24, 3) := by decide +kernel
theorem dX3_takenIn_23 : decode cX3_takenIn 23 = .ok (.aload_n 0, 1) := by decide +kernel
theorem dX3_takenIn_24 : decode cX3_takenIn 24 = .ok (.getfield 21, 3) := by decide +kernel
theorem dX3_takenIn_27 : decode cX3_takenIn 27 = .ok (.iload 4, 2) := by decide +kernel
theorem dX3_takenIn_29 : decode cX3_takenIn 29 = .ok (.iaload, 1) := by decide +kernel
theorem dX3_takenIn_30 : decode cX3_takenIn 30 = .ok (.iload_n 1, 1) := by decide +kernel
theorem dX3_takenIn_31 : decode cX3_takenIn 31 = .ok (.if_icmp .le 13, 3) := by decide +kernel
theorem dX3_takenIn_34 : decode cX3_takenIn 34 = .ok (.iload_n 3, 1) := by decide +kernel
theorem dX3_takenIn_35 : decode cX3_takenIn 35 = .ok (.aload_n 0, 1) := by decide +kernel
theorem dX3_takenIn_36 : decode cX3_takenIn 36 = .ok (.getfield 11, 3) := by decide +kernel
theorem dX3_takenIn_39 : decode cX3_takenIn 39 = .ok (.iload 4, 2) := by decide +kernel
theorem dX3_takenIn_41 : decode cX3_takenIn 41 = .ok (.iaload, 1) := by decide +kernel
theorem dX3_takenIn_42 : decode cX3_takenIn 42 = .ok (.ior, 1) := by decide +kernel
theorem dX3_takenIn_43 : decode cX3_takenIn 43 = .ok (.istore_n 3, 1) := by decide +kernel
theorem dX3_takenIn_44 : decode cX3_takenIn 44 = .ok (.iinc 4 1, 3) := by decide +kernel
theorem dX3_takenIn_47 : decode cX3_takenIn 47 = .ok (.goto (-42), 3) := by decide +kernel
theorem dX3_takenIn_50 : decode cX3_takenIn 50 = .ok (.iload_n 3, 1) := by decide +kernel
theorem dX3_takenIn_51 : decode cX3_takenIn 51 = .ok (.ireturn, 1) := by decide +kernel
theorem dX3_lowestFree_0 : decode cX3_lowestFree 0 = .ok (.aload_n 0, 1) := by decide +kernel
theorem dX3_lowestFree_1 : decode cX3_lowestFree 1 = .ok (.iload_n 2, 1) := by decide +kernel
theorem dX3_lowestFree_2 : decode cX3_lowestFree 2 = .ok (.iload_n 2, 1) := by decide +kernel
theorem dX3_lowestFree_3 : decode cX3_lowestFree 3 = .ok (.iload_n 3, 1) := by decide +kernel
theorem dX3_lowestFree_4 : decode cX3_lowestFree 4 = .ok (.iadd, 1) := by decide +kernel
theorem dX3_lowestFree_5 : decode cX3_lowestFree 5 = .ok (.iconst 1, 1) := by decide +kernel
theorem dX3_lowestFree_6 : decode cX3_lowestFree 6 = .ok (.isub, 1) := by decide +kernel
theorem dX3_lowestFree_7 : decode cX3_lowestFree 7 = .ok (.invokevirtual 28, 3) := by decide +kernel
theorem dX3_lowestFree_10 : decode cX3_lowestFree 10 = .ok (.iload_n 1, 1) := by decide +kernel
theorem dX3_lowestFree_11 : decode cX3_lowestFree 11 = .ok (.invokestatic 31, 3) := by decide +kernel
theorem dX3_lowestFree_14 : decode cX3_lowestFree 14 = .ok (.ireturn, 1) := by decide +kernel
theorem dX3_earliest_0 : decode cX3_earliest 0 = .ok (.iload_n 2, 1) := by decide +kernel
theorem dX3_earliest_1 : decode cX3_earliest 1 = .ok (.istore 4, 2) := by decide +kernel
theorem dX3_earliest_3 : decode cX3_earliest 3 = .ok (.iconst 0, 1) := by decide +kernel
theorem dX3_earliest_4 : decode cX3_earliest 4 = .ok (.istore 5, 2) := by decide +kernel
theorem dX3_earliest_6 : decode cX3_earliest 6 = .ok (.iload 5, 2) := by decide +kernel
theorem dX3_earliest_8 : decode cX3_earliest 8 = .ok (.bipush 30, 2) := by decide +kernel
theorem dX3_earliest_10 : decode cX3_earliest 10 = .ok (.if_icmp .ge 44, 3) := by decide +kernel
theorem dX3_earliest_13 : decode cX3_earliest 13 = .ok (.aload_n 0, 1) := by decide +kernel
theorem dX3_earliest_14 : decode cX3_earliest 14 = .ok (.iload 4, 2) := by decide +kernel
theorem dX3_earliest_16 : decode cX3_earliest 16 = .ok (.iload 4, 2) := by decide +kernel
theorem dX3_earliest_18 : decode cX3_earliest 18 = .ok (.iload_n 3, 1) := by decide +kernel
theorem dX3_earliest_19 : decode cX3_earliest 19 = .ok (.iadd, 1) := by decide +kernel
theorem dX3_earliest_20 : decode cX3_earliest 20 = .ok (.iconst 1, 1) := by decide +kernel
theorem dX3_earliest_21 : decode cX3_earliest 21 = .ok (.isub, 1) := by decide +kernel
theorem dX3_earliest_22 : decode cX3_earliest 22 = .ok (.invokevirtual 28, 3) := by decide +kernel
theorem dX3_earliest_25 : decode cX3_earliest 25 = .ok (.istore 6, 2) := by decide +kernel
theorem dX3_earliest_27 : decode cX3_earliest 27 = .ok (.iload 6, 2) := by decide +kernel
theorem dX3_earliest_29 : decode cX3_earliest 29 = .ok (.iload_n 1, 1) := by decide +kernel
theorem dX3_earliest_30 : decode cX3_earliest 30 = .ok (.invokestatic 31, 3) := by decide +kernel
theorem dX3_earliest_33 : decode cX3_earliest 33 = .ok (.iconst (-1), 1) := by decide +kernel
theorem dX3_earliest_34 : decode cX3_earliest 34 = .ok (.if_icmp .eq 6, 3) := by decide +kernel
theorem dX3_earliest_37 : decode cX3_earliest 37 = .ok (.iload 4, 2) := by decide +kernel
theorem dX3_earliest_39 : decode cX3_earliest 39 = .ok (.ireturn, 1) := by decide +kernel
theorem dX3_earliest_40 : decode cX3_earliest 40 = .ok (.aload_n 0, 1) := by decide +kernel
theorem dX3_earliest_41 : decode cX3_earliest 41 = .ok (.iload 4, 2) := by decide +kernel
theorem dX3_earliest_43 : decode cX3_earliest 43 = .ok (.invokevirtual 34, 3) := by decide +kernel
theorem dX3_earliest_46 : decode cX3_earliest 46 = .ok (.istore 4, 2) := by decide +kernel
theorem dX3_earliest_48 : decode cX3_earliest 48 = .ok (.iinc 5 1, 3) := by decide +kernel
theorem dX3_earliest_51 : decode cX3_earliest 51 = .ok (.goto (-45), 3) := by decide +kernel
theorem dX3_earliest_54 : decode cX3_earliest 54 = .ok (.iload 4, 2) := by decide +kernel
theorem dX3_earliest_56 : decode cX3_earliest 56 = .ok (.ireturn, 1) := by decide +kernel
theorem dX3_nextEnd_0 : decode cX3_nextEnd 0 = .ok (.iload_n 1, 1) := by decide +kernel
theorem dX3_nextEnd_1 : decode cX3_nextEnd 1 = .ok (.istore_n 2, 1) := by decide +kernel
theorem dX3_nextEnd_2 : decode cX3_nextEnd 2 = .ok (.iconst 0, 1) := by decide +kernel
theorem dX3_nextEnd_3 : decode cX3_nextEnd 3 = .ok (.istore_n 3, 1) := by decide +kernel
theorem dX3_nextEnd_4 : decode cX3_nextEnd 4 = .ok (.iload_n 3, 1) := by decide +kernel
theorem dX3_nextEnd_5 : decode cX3_nextEnd 5 = .ok (.bipush 30, 2) := by decide +kernel
theorem dX3_nextEnd_7 : decode cX3_nextEnd 7 = .ok (.if_icmp .ge 50, 3) := by decide +kernel
theorem dX3_nextEnd_10 : decode cX3_nextEnd 10 = .ok (.aload_n 0, 1) := by decide +kernel
theorem dX3_nextEnd_11 : decode cX3_nextEnd 11 = .ok (.getfield 11, 3) := by decide +kernel
theorem dX3_nextEnd_14 : decode cX3_nextEnd 14 = .ok (.iload_n 3, 1) := by decide +kernel
theorem dX3_nextEnd_15 : decode cX3_nextEnd 15 = .ok (.iaload, 1) := by decide +kernel
theorem dX3_nextEnd_16 : decode cX3_nextEnd 16 = .ok (.ifCond .eq 35, 3) := by decide +kernel
theorem dX3_nextEnd_19 : decode cX3_nextEnd 19 = .ok (.aload_n 0, 1) := by decide +kernel
theorem dX3_nextEnd_20 : decode cX3_nextEnd 20 = .ok (.getfield 21, 3) := by decide +kernel
theorem dX3_nextEnd_23 : decode cX3_nextEnd 23 = .ok (.iload_n 3, 1) := by decide +kernel
theorem dX3_nextEnd_24 : decode cX3_nextEnd 24 = .ok (.iaload, 1) := by decide +kernel
theorem dX3_nextEnd_25 : decode cX3_nextEnd 25 = .ok (.iload_n 1, 1) := by decide +kernel
theorem dX3_nextEnd_26 : decode cX3_nextEnd 26 = .ok (.if_icmp .le 25, 3) := by decide +kernel
theorem dX3_nextEnd_29 : decode cX3_nextEnd 29 = .ok (.iload_n 2, 1) := by decide +kernel
theorem dX3_nextEnd_30 : decode cX3_nextEnd 30 = .ok (.iload_n 1, 1) := by decide +kernel
theorem dX3_nextEnd_31 : decode cX3_nextEnd 31 = .ok (.if_icmp .eq 13, 3) := by decide +kernel
theorem dX3_nextEnd_34 : decode cX3_nextEnd 34 = .ok (.aload_n 0, 1) := by decide +kernel
theorem dX3_nextEnd_35 : decode cX3_nextEnd 35 = .ok (.getfield 21, 3) := by decide +kernel
theorem dX3_nextEnd_38 : decode cX3_nextEnd 38 = .ok (.iload_n 3, 1) := by decide +kernel
theorem dX3_nextEnd_39 : decode cX3_nextEnd 39 = .ok (.iaload, 1) := by decide +kernel
theorem dX3_nextEnd_40 : decode cX3_nextEnd 40 = .ok (.iload_n 2, 1) := by decide +kernel
theorem dX3_nextEnd_41 : decode cX3_nextEnd 41 = .ok (.if_icmp .ge 10, 3) := by decide +kernel
theorem dX3_nextEnd_44 : decode cX3_nextEnd 44 = .ok (.aload_n 0, 1) := by decide +kernel
theorem dX3_nextEnd_45 : decode cX3_nextEnd 45 = .ok (.getfield 21, 3) := by decide +kernel
theorem dX3_nextEnd_48 : decode cX3_nextEnd 48 = .ok (.iload_n 3, 1) := by decide +kernel
theorem dX3_nextEnd_49 : decode cX3_nextEnd 49 = .ok (.iaload, 1) := by decide +kernel
theorem dX3_nextEnd_50 : decode cX3_nextEnd 50 = .ok (.istore_n 2, 1) := by decide +kernel
theorem dX3_nextEnd_51 : decode cX3_nextEnd 51 = .ok (.iinc 3 1, 3) := by decide +kernel
theorem dX3_nextEnd_54 : decode cX3_nextEnd 54 = .ok (.goto (-50), 3) := by decide +kernel
theorem dX3_nextEnd_57 : decode cX3_nextEnd 57 = .ok (.iload_n 2, 1) := by decide +kernel
theorem dX3_nextEnd_58 : decode cX3_nextEnd 58 = .ok (.ireturn, 1) := by decide +kernel
theorem dX3_slotAt_0 : decode cX3_slotAt 0 = .ok (.iconst 0, 1) := by decide +kernel
theorem dX3_slotAt_1 : decode cX3_slotAt 1 = .ok (.istore_n 3, 1) := by decide +kernel
theorem dX3_slotAt_2 : decode cX3_slotAt 2 = .ok (.iload_n 3, 1) := by decide +kernel
theorem dX3_slotAt_3 : decode cX3_slotAt 3 = .ok (.bipush 30, 2) := by decide +kernel
theorem dX3_slotAt_5 : decode cX3_slotAt 5 = .ok (.if_icmp .ge 56, 3) := by decide +kernel
theorem dX3_slotAt_8 : decode cX3_slotAt 8 = .ok (.aload_n 0, 1) := by decide +kernel
theorem dX3_slotAt_9 : decode cX3_slotAt 9 = .ok (.getfield 18, 3) := by decide +kernel
theorem dX3_slotAt_12 : decode cX3_slotAt 12 = .ok (.iload_n 3, 1) := by decide +kernel
theorem dX3_slotAt_13 : decode cX3_slotAt 13 = .ok (.iaload, 1) := by decide +kernel
theorem dX3_slotAt_14 : decode cX3_slotAt 14 = .ok (.iload_n 2, 1) := by decide +kernel
theorem dX3_slotAt_15 : decode cX3_slotAt 15 = .ok (.if_icmp .gt 17, 3) := by decide +kernel
theorem dX3_slotAt_18 : decode cX3_slotAt 18 = .ok (.iload_n 2, 1) := by decide +kernel
theorem dX3_slotAt_19 : decode cX3_slotAt 19 = .ok (.aload_n 0, 1) := by decide +kernel
theorem dX3_slotAt_20 : decode cX3_slotAt 20 = .ok (.getfield 21, 3) := by decide +kernel
theorem dX3_slotAt_23 : decode cX3_slotAt 23 = .ok (.iload_n 3, 1) := by decide +kernel
theorem dX3_slotAt_24 : decode cX3_slotAt 24 = .ok (.iaload, 1) := by decide +kernel
theorem dX3_slotAt_25 : decode cX3_slotAt 25 = .ok (.if_icmp .ge 7, 3) := by decide +kernel
theorem dX3_slotAt_28 : decode cX3_slotAt 28 = .ok (.iconst 1, 1) := by decide +kernel
theorem dX3_slotAt_29 : decode cX3_slotAt 29 = .ok (.goto 4, 3) := by decide +kernel
theorem dX3_slotAt_32 : decode cX3_slotAt 32 = .ok (.iconst 0, 1) := by decide +kernel
theorem dX3_slotAt_33 : decode cX3_slotAt 33 = .ok (.istore 4, 2) := by decide +kernel
theorem dX3_slotAt_35 : decode cX3_slotAt 35 = .ok (.iload 4, 2) := by decide +kernel
theorem dX3_slotAt_37 : decode cX3_slotAt 37 = .ok (.ifCond .eq 18, 3) := by decide +kernel
theorem dX3_slotAt_40 : decode cX3_slotAt 40 = .ok (.aload_n 0, 1) := by decide +kernel
theorem dX3_slotAt_41 : decode cX3_slotAt 41 = .ok (.getfield 11, 3) := by decide +kernel
theorem dX3_slotAt_44 : decode cX3_slotAt 44 = .ok (.iload_n 3, 1) := by decide +kernel
theorem dX3_slotAt_45 : decode cX3_slotAt 45 = .ok (.iaload, 1) := by decide +kernel
theorem dX3_slotAt_46 : decode cX3_slotAt 46 = .ok (.iload_n 1, 1) := by decide +kernel
theorem dX3_slotAt_47 : decode cX3_slotAt 47 = .ok (.iushr, 1) := by decide +kernel
theorem dX3_slotAt_48 : decode cX3_slotAt 48 = .ok (.iconst 1, 1) := by decide +kernel
theorem dX3_slotAt_49 : decode cX3_slotAt 49 = .ok (.iand, 1) := by decide +kernel
theorem dX3_slotAt_50 : decode cX3_slotAt 50 = .ok (.ifCond .eq 5, 3) := by decide +kernel
theorem dX3_slotAt_53 : decode cX3_slotAt 53 = .ok (.iload_n 3, 1) := by decide +kernel
theorem dX3_slotAt_54 : decode cX3_slotAt 54 = .ok (.ireturn, 1) := by decide +kernel
theorem dX3_slotAt_55 : decode cX3_slotAt 55 = .ok (.iinc 3 1, 3) := by decide +kernel
theorem dX3_slotAt_58 : decode cX3_slotAt 58 = .ok (.goto (-56), 3) := by decide +kernel
theorem dX3_slotAt_61 : decode cX3_slotAt 61 = .ok (.iconst (-1), 1) := by decide +kernel
theorem dX3_slotAt_62 : decode cX3_slotAt 62 = .ok (.ireturn, 1) := by decide +kernel
theorem dX3_endOfJobs_0 : decode cX3_endOfJobs 0 = .ok (.iconst 0, 1) := by decide +kernel
theorem dX3_endOfJobs_1 : decode cX3_endOfJobs 1 = .ok (.istore_n 1, 1) := by decide +kernel
theorem dX3_endOfJobs_2 : decode cX3_endOfJobs 2 = .ok (.iconst 0, 1) := by decide +kernel
theorem dX3_endOfJobs_3 : decode cX3_endOfJobs 3 = .ok (.istore_n 2, 1) := by decide +kernel
theorem dX3_endOfJobs_4 : decode cX3_endOfJobs 4 = .ok (.iload_n 2, 1) := by decide +kernel
theorem dX3_endOfJobs_5 : decode cX3_endOfJobs 5 = .ok (.bipush 24, 2) := by decide +kernel
theorem dX3_endOfJobs_7 : decode cX3_endOfJobs 7 = .ok (.if_icmp .ge 29, 3) := by decide +kernel
theorem dX3_endOfJobs_10 : decode cX3_endOfJobs 10 = .ok (.aload_n 0, 1) := by decide +kernel
theorem dX3_endOfJobs_11 : decode cX3_endOfJobs 11 = .ok (.getfield 11, 3) := by decide +kernel
theorem dX3_endOfJobs_14 : decode cX3_endOfJobs 14 = .ok (.iload_n 2, 1) := by decide +kernel
theorem dX3_endOfJobs_15 : decode cX3_endOfJobs 15 = .ok (.iaload, 1) := by decide +kernel
theorem dX3_endOfJobs_16 : decode cX3_endOfJobs 16 = .ok (.ifCond .eq 14, 3) := by decide +kernel
theorem dX3_endOfJobs_19 : decode cX3_endOfJobs 19 = .ok (.iload_n 1, 1) := by decide +kernel
theorem dX3_endOfJobs_20 : decode cX3_endOfJobs 20 = .ok (.aload_n 0, 1) := by decide +kernel
theorem dX3_endOfJobs_21 : decode cX3_endOfJobs 21 = .ok (.getfield 21, 3) := by decide +kernel
theorem dX3_endOfJobs_24 : decode cX3_endOfJobs 24 = .ok (.iload_n 2, 1) := by decide +kernel
theorem dX3_endOfJobs_25 : decode cX3_endOfJobs 25 = .ok (.iaload, 1) := by decide +kernel
theorem dX3_endOfJobs_26 : decode cX3_endOfJobs 26 = .ok (.invokestatic 38, 3) := by decide +kernel
theorem dX3_endOfJobs_29 : decode cX3_endOfJobs 29 = .ok (.istore_n 1, 1) := by decide +kernel
theorem dX3_endOfJobs_30 : decode cX3_endOfJobs 30 = .ok (.iinc 2 1, 3) := by decide +kernel
theorem dX3_endOfJobs_33 : decode cX3_endOfJobs 33 = .ok (.goto (-29), 3) := by decide +kernel
theorem dX3_endOfJobs_36 : decode cX3_endOfJobs 36 = .ok (.iload_n 1, 1) := by decide +kernel
theorem dX3_endOfJobs_37 : decode cX3_endOfJobs 37 = .ok (.ireturn, 1) := by decide +kernel
theorem dX3_copyFrom_0 : decode cX3_copyFrom 0 = .ok (.aload_n 1, 1) := by decide +kernel
theorem dX3_copyFrom_1 : decode cX3_copyFrom 1 = .ok (.getfield 11, 3) := by decide +kernel
theorem dX3_copyFrom_4 : decode cX3_copyFrom 4 = .ok (.iconst 0, 1) := by decide +kernel
theorem dX3_copyFrom_5 : decode cX3_copyFrom 5 = .ok (.aload_n 0, 1) := by decide +kernel
theorem dX3_copyFrom_6 : decode cX3_copyFrom 6 = .ok (.getfield 11, 3) := by decide +kernel
theorem dX3_copyFrom_9 : decode cX3_copyFrom 9 = .ok (.iconst 0, 1) := by decide +kernel
theorem dX3_copyFrom_10 : decode cX3_copyFrom 10 = .ok (.bipush 30, 2) := by decide +kernel
theorem dX3_copyFrom_12 : decode cX3_copyFrom 12 = .ok (.invokestatic 43, 3) := by decide +kernel
theorem dX3_copyFrom_15 : decode cX3_copyFrom 15 = .ok (.aload_n 1, 1) := by decide +kernel
theorem dX3_copyFrom_16 : decode cX3_copyFrom 16 = .ok (.getfield 15, 3) := by decide +kernel
theorem dX3_copyFrom_19 : decode cX3_copyFrom 19 = .ok (.iconst 0, 1) := by decide +kernel
theorem dX3_copyFrom_20 : decode cX3_copyFrom 20 = .ok (.aload_n 0, 1) := by decide +kernel
theorem dX3_copyFrom_21 : decode cX3_copyFrom 21 = .ok (.getfield 15, 3) := by decide +kernel
theorem dX3_copyFrom_24 : decode cX3_copyFrom 24 = .ok (.iconst 0, 1) := by decide +kernel
theorem dX3_copyFrom_25 : decode cX3_copyFrom 25 = .ok (.bipush 30, 2) := by decide +kernel
theorem dX3_copyFrom_27 : decode cX3_copyFrom 27 = .ok (.invokestatic 43, 3) := by decide +kernel
theorem dX3_copyFrom_30 : decode cX3_copyFrom 30 = .ok (.aload_n 1, 1) := by decide +kernel
theorem dX3_copyFrom_31 : decode cX3_copyFrom 31 = .ok (.getfield 18, 3) := by decide +kernel
theorem dX3_copyFrom_34 : decode cX3_copyFrom 34 = .ok (.iconst 0, 1) := by decide +kernel
theorem dX3_copyFrom_35 : decode cX3_copyFrom 35 = .ok (.aload_n 0, 1) := by decide +kernel
theorem dX3_copyFrom_36 : decode cX3_copyFrom 36 = .ok (.getfield 18, 3) := by decide +kernel
theorem dX3_copyFrom_39 : decode cX3_copyFrom 39 = .ok (.iconst 0, 1) := by decide +kernel
theorem dX3_copyFrom_40 : decode cX3_copyFrom 40 = .ok (.bipush 30, 2) := by decide +kernel
theorem dX3_copyFrom_42 : decode cX3_copyFrom 42 = .ok (.invokestatic 43, 3) := by decide +kernel
theorem dX3_copyFrom_45 : decode cX3_copyFrom 45 = .ok (.aload_n 1, 1) := by decide +kernel
theorem dX3_copyFrom_46 : decode cX3_copyFrom 46 = .ok (.getfield 21, 3) := by decide +kernel
theorem dX3_copyFrom_49 : decode cX3_copyFrom 49 = .ok (.iconst 0, 1) := by decide +kernel
theorem dX3_copyFrom_50 : decode cX3_copyFrom 50 = .ok (.aload_n 0, 1) := by decide +kernel
theorem dX3_copyFrom_51 : decode cX3_copyFrom 51 = .ok (.getfield 21, 3) := by decide +kernel
theorem dX3_copyFrom_54 : decode cX3_copyFrom 54 = .ok (.iconst 0, 1) := by decide +kernel
theorem dX3_copyFrom_55 : decode cX3_copyFrom 55 = .ok (.bipush 30, 2) := by decide +kernel
theorem dX3_copyFrom_57 : decode cX3_copyFrom 57 = .ok (.invokestatic 43, 3) := by decide +kernel
theorem dX3_copyFrom_60 : decode cX3_copyFrom 60 = .ok (.return_, 1) := by decide +kernel
theorem dX4_init_0 : decode cX4_init 0 = .ok (.aload_n 0, 1) := by decide +kernel
theorem dX4_init_1 : decode cX4_init 1 = .ok (.invokespecial 1, 3) := by decide +kernel
theorem dX4_init_4 : decode cX4_init 4 = .ok (.aload_n 0, 1) := by decide +kernel
theorem dX4_init_5 : decode cX4_init 5 = .ok (.new 7, 3) := by decide +kernel
theorem dX4_init_8 : decode cX4_init 8 = .ok (.dup, 1) := by decide +kernel
theorem dX4_init_9 : decode cX4_init 9 = .ok (.invokespecial 9, 3) := by decide +kernel
theorem dX4_init_12 : decode cX4_init 12 = .ok (.putfield 10, 3) := by decide +kernel
theorem dX4_init_15 : decode cX4_init 15 = .ok (.aload_n 0, 1) := by decide +kernel
theorem dX4_init_16 : decode cX4_init 16 = .ok (.new 7, 3) := by decide +kernel
theorem dX4_init_19 : decode cX4_init 19 = .ok (.dup, 1) := by decide +kernel
theorem dX4_init_20 : decode cX4_init 20 = .ok (.invokespecial 9, 3) := by decide +kernel
theorem dX4_init_23 : decode cX4_init 23 = .ok (.putfield 16, 3) := by decide +kernel
theorem dX4_init_26 : decode cX4_init 26 = .ok (.aload_n 0, 1) := by decide +kernel
theorem dX4_init_27 : decode cX4_init 27 = .ok (.iconst 0, 1) := by decide +kernel
theorem dX4_init_28 : decode cX4_init 28 = .ok (.putfield 19, 3) := by decide +kernel
theorem dX4_init_31 : decode cX4_init 31 = .ok (.aload_n 0, 1) := by decide +kernel
theorem dX4_init_32 : decode cX4_init 32 = .ok (.iconst 0, 1) := by decide +kernel
theorem dX4_init_33 : decode cX4_init 33 = .ok (.putfield 23, 3) := by decide +kernel
theorem dX4_init_36 : decode cX4_init 36 = .ok (.return_, 1) := by decide +kernel
theorem dX4_submit_0 : decode cX4_submit 0 = .ok (.iload_n 1, 1) := by decide +kernel
theorem dX4_submit_1 : decode cX4_submit 1 = .ok (.invokestatic 27, 3) := by decide +kernel
theorem dX4_submit_4 : decode cX4_submit 4 = .ok (.ifCond .eq 29, 3) := by decide +kernel
theorem dX4_submit_7 : decode cX4_submit 7 = .ok (.iload_n 2, 1) := by decide +kernel
theorem dX4_submit_8 : decode cX4_submit 8 = .ok (.invokestatic 31, 3) := by decide +kernel
theorem dX4_submit_11 : decode cX4_submit 11 = .ok (.ifCond .eq 22, 3) := by decide +kernel
theorem dX4_submit_14 : decode cX4_submit 14 = .ok (.iload_n 3, 1) := by decide +kernel
theorem dX4_submit_15 : decode cX4_submit 15 = .ok (.invokestatic 34, 3) := by decide +kernel
theorem dX4_submit_18 : decode cX4_submit 18 = .ok (.ifCond .eq 15, 3) := by decide +kernel
theorem dX4_submit_21 : decode cX4_submit 21 = .ok (.iload 4, 2) := by decide +kernel
theorem dX4_submit_23 : decode cX4_submit 23 = .ok (.iconst 1, 1) := by decide +kernel
theorem dX4_submit_24 : decode cX4_submit 24 = .ok (.if_icmp .lt 9, 3) := by decide +kernel
theorem dX4_submit_27 : decode cX4_submit 27 = .ok (.iload 4, 2) := by decide +kernel
theorem dX4_submit_29 : decode cX4_submit 29 = .ok (.iload_n 3, 1) := by decide +kernel
theorem dX4_submit_30 : decode cX4_submit 30 = .ok (.if_icmp .le 13, 3) := by decide +kernel
theorem dX4_submit_33 : decode cX4_submit 33 = .ok (.new 37, 3) := by decide +kernel
theorem dX4_submit_36 : decode cX4_submit 36 = .ok (.dup, 1) := by decide +kernel
theorem dX4_submit_37 : decode cX4_submit 37 = .ok (.ldc 39, 2) := by decide +kernel
theorem dX4_submit_39 : decode cX4_submit 39 = .ok (.invokespecial 41, 3) := by decide +kernel
theorem dX4_submit_42 : decode cX4_submit 42 = .ok (.athrow, 1) := by decide +kernel
theorem dX4_submit_43 : decode cX4_submit 43 = .ok (.aload_n 0, 1) := by decide +kernel
theorem dX4_submit_44 : decode cX4_submit 44 = .ok (.getfield 10, 3) := by decide +kernel
theorem dX4_submit_47 : decode cX4_submit 47 = .ok (.getfield 44, 3) := by decide +kernel
theorem dX4_submit_50 : decode cX4_submit 50 = .ok (.getfield 48, 3) := by decide +kernel
theorem dX4_submit_53 : decode cX4_submit 53 = .ok (.bipush 24, 2) := by decide +kernel
theorem dX4_submit_55 : decode cX4_submit 55 = .ok (.if_icmp .lt 13, 3) := by decide +kernel
theorem dX4_submit_58 : decode cX4_submit 58 = .ok (.new 53, 3) := by decide +kernel
theorem dX4_submit_61 : decode cX4_submit 61 = .ok (.dup, 1) := by decide +kernel
theorem dX4_submit_62 : decode cX4_submit 62 = .ok (.ldc 55, 2) := by decide +kernel
theorem dX4_submit_64 : decode cX4_submit 64 = .ok (.invokespecial 57, 3) := by decide +kernel
theorem dX4_submit_67 : decode cX4_submit 67 = .ok (.athrow, 1) := by decide +kernel
theorem dX4_submit_68 : decode cX4_submit 68 = .ok (.aload_n 0, 1) := by decide +kernel
theorem dX4_submit_69 : decode cX4_submit 69 = .ok (.getfield 10, 3) := by decide +kernel
theorem dX4_submit_72 : decode cX4_submit 72 = .ok (.iload_n 1, 1) := by decide +kernel
theorem dX4_submit_73 : decode cX4_submit 73 = .ok (.iload_n 2, 1) := by decide +kernel
theorem dX4_submit_74 : decode cX4_submit 74 = .ok (.iload_n 3, 1) := by decide +kernel
theorem dX4_submit_75 : decode cX4_submit 75 = .ok (.iload 4, 2) := by decide +kernel
theorem dX4_submit_77 : decode cX4_submit 77 = .ok (.invokevirtual 58, 3) := by decide +kernel
theorem dX4_submit_80 : decode cX4_submit 80 = .ok (.ireturn, 1) := by decide +kernel
theorem dX4_advance_0 : decode cX4_advance 0 = .ok (.iload_n 1, 1) := by decide +kernel
theorem dX4_advance_1 : decode cX4_advance 1 = .ok (.iconst 1, 1) := by decide +kernel
theorem dX4_advance_2 : decode cX4_advance 2 = .ok (.if_icmp .lt 9, 3) := by decide +kernel
theorem dX4_advance_5 : decode cX4_advance 5 = .ok (.iload_n 1, 1) := by decide +kernel
theorem dX4_advance_6 : decode cX4_advance 6 = .ok (.bipush 50, 2) := by decide +kernel
theorem dX4_advance_8 : decode cX4_advance 8 = .ok (.if_icmp .le 13, 3) := by decide +kernel
theorem dX4_advance_11 : decode cX4_advance 11 = .ok (.new 37, 3) := by decide +kernel
theorem dX4_advance_14 : decode cX4_advance 14 = .ok (.dup, 1) := by decide +kernel
theorem dX4_advance_15 : decode cX4_advance 15 = .ok (.ldc 62, 2) := by decide +kernel
theorem dX4_advance_17 : decode cX4_advance 17 = .ok (.invokespecial 41, 3) := by decide +kernel
theorem dX4_advance_20 : decode cX4_advance 20 = .ok (.athrow, 1) := by decide +kernel
theorem dX4_advance_21 : decode cX4_advance 21 = .ok (.aload_n 0, 1) := by decide +kernel
theorem dX4_advance_22 : decode cX4_advance 22 = .ok (.getfield 10, 3) := by decide +kernel
theorem dX4_advance_25 : decode cX4_advance 25 = .ok (.getfield 64, 3) := by decide +kernel
theorem dX4_advance_28 : decode cX4_advance 28 = .ok (.iload_n 1, 1) := by decide +kernel
theorem dX4_advance_29 : decode cX4_advance 29 = .ok (.iadd, 1) := by decide +kernel
theorem dX4_advance_30 : decode cX4_advance 30 = .ok (.sipush 1000, 3) := by decide +kernel
theorem dX4_advance_33 : decode cX4_advance 33 = .ok (.if_icmp .le 13, 3) := by decide +kernel
theorem dX4_advance_36 : decode cX4_advance 36 = .ok (.new 53, 3) := by decide +kernel
theorem dX4_advance_39 : decode cX4_advance 39 = .ok (.dup, 1) := by decide +kernel
theorem dX4_advance_40 : decode cX4_advance 40 = .ok (.ldc 67, 2) := by decide +kernel
theorem dX4_advance_42 : decode cX4_advance 42 = .ok (.invokespecial 57, 3) := by decide +kernel
theorem dX4_advance_45 : decode cX4_advance 45 = .ok (.athrow, 1) := by decide +kernel
theorem dX4_advance_46 : decode cX4_advance 46 = .ok (.iconst 0, 1) := by decide +kernel
theorem dX4_advance_47 : decode cX4_advance 47 = .ok (.istore_n 2, 1) := by decide +kernel
theorem dX4_advance_48 : decode cX4_advance 48 = .ok (.iconst 0, 1) := by decide +kernel
theorem dX4_advance_49 : decode cX4_advance 49 = .ok (.istore_n 3, 1) := by decide +kernel
theorem dX4_advance_50 : decode cX4_advance 50 = .ok (.iload_n 3, 1) := by decide +kernel
theorem dX4_advance_51 : decode cX4_advance 51 = .ok (.iload_n 1, 1) := by decide +kernel
theorem dX4_advance_52 : decode cX4_advance 52 = .ok (.if_icmp .ge 19, 3) := by decide +kernel
theorem dX4_advance_55 : decode cX4_advance 55 = .ok (.iload_n 2, 1) := by decide +kernel
theorem dX4_advance_56 : decode cX4_advance 56 = .ok (.aload_n 0, 1) := by decide +kernel
theorem dX4_advance_57 : decode cX4_advance 57 = .ok (.getfield 10, 3) := by decide +kernel
theorem dX4_advance_60 : decode cX4_advance 60 = .ok (.invokevirtual 69, 3) := by decide +kernel
theorem dX4_advance_63 : decode cX4_advance 63 = .ok (.iadd, 1) := by decide +kernel
theorem dX4_advance_64 : decode cX4_advance 64 = .ok (.istore_n 2, 1) := by decide +kernel
theorem dX4_advance_65 : decode cX4_advance 65 = .ok (.iinc 3 1, 3) := by decide +kernel
theorem dX4_advance_68 : decode cX4_advance 68 = .ok (.goto (-18), 3) := by decide +kernel
theorem dX4_advance_71 : decode cX4_advance 71 = .ok (.iload_n 2, 1) := by decide +kernel
theorem dX4_advance_72 : decode cX4_advance 72 = .ok (.ireturn, 1) := by decide +kernel
theorem dX4_cancel_0 : decode cX4_cancel 0 = .ok (.aload_n 0, 1) := by decide +kernel
theorem dX4_cancel_1 : decode cX4_cancel 1 = .ok (.iload_n 1, 1) := by decide +kernel
theorem dX4_cancel_2 : decode cX4_cancel 2 = .ok (.invokevirtual 73, 3) := by decide +kernel
theorem dX4_cancel_5 : decode cX4_cancel 5 = .ok (.aload_n 0, 1) := by decide +kernel
theorem dX4_cancel_6 : decode cX4_cancel 6 = .ok (.iload_n 1, 1) := by decide +kernel
theorem dX4_cancel_7 : decode cX4_cancel 7 = .ok (.invokevirtual 77, 3) := by decide +kernel
theorem dX4_cancel_10 : decode cX4_cancel 10 = .ok (.aload_n 0, 1) := by decide +kernel
theorem dX4_cancel_11 : decode cX4_cancel 11 = .ok (.getfield 10, 3) := by decide +kernel
theorem dX4_cancel_14 : decode cX4_cancel 14 = .ok (.getfield 44, 3) := by decide +kernel
theorem dX4_cancel_17 : decode cX4_cancel 17 = .ok (.getfield 80, 3) := by decide +kernel
theorem dX4_cancel_20 : decode cX4_cancel 20 = .ok (.iload_n 1, 1) := by decide +kernel
theorem dX4_cancel_21 : decode cX4_cancel 21 = .ok (.iaload, 1) := by decide +kernel
theorem dX4_cancel_22 : decode cX4_cancel 22 = .ok (.istore_n 2, 1) := by decide +kernel
theorem dX4_cancel_23 : decode cX4_cancel 23 = .ok (.aload_n 0, 1) := by decide +kernel
theorem dX4_cancel_24 : decode cX4_cancel 24 = .ok (.getfield 10, 3) := by decide +kernel
theorem dX4_cancel_27 : decode cX4_cancel 27 = .ok (.iload_n 1, 1) := by decide +kernel
theorem dX4_cancel_28 : decode cX4_cancel 28 = .ok (.invokevirtual 84, 3) := by decide +kernel
theorem dX4_cancel_31 : decode cX4_cancel 31 = .ok (.iload_n 2, 1) := by decide +kernel
theorem dX4_cancel_32 : decode cX4_cancel 32 = .ok (.ireturn, 1) := by decide +kernel
theorem dX4_preempt_0 : decode cX4_preempt 0 = .ok (.aload_n 0, 1) := by decide +kernel
theorem dX4_preempt_1 : decode cX4_preempt 1 = .ok (.iload_n 1, 1) := by decide +kernel
theorem dX4_preempt_2 : decode cX4_preempt 2 = .ok (.invokevirtual 73, 3) := by decide +kernel
theorem dX4_preempt_5 : decode cX4_preempt 5 = .ok (.iload_n 2, 1) := by decide +kernel
theorem dX4_preempt_6 : decode cX4_preempt 6 = .ok (.ifCond .lt 9, 3) := by decide +kernel
theorem dX4_preempt_9 : decode cX4_preempt 9 = .ok (.iload_n 2, 1) := by decide +kernel
theorem dX4_preempt_10 : decode cX4_preempt 10 = .ok (.bipush 9, 2) := by decide +kernel
theorem dX4_preempt_12 : decode cX4_preempt 12 = .ok (.if_icmp .le 13, 3) := by decide +kernel
theorem dX4_preempt_15 : decode cX4_preempt 15 = .ok (.new 37, 3) := by decide +kernel
theorem dX4_preempt_18 : decode cX4_preempt 18 = .ok (.dup, 1) := by decide +kernel
theorem dX4_preempt_19 : decode cX4_preempt 19 = .ok (.ldc 87, 2) := by decide +kernel
theorem dX4_preempt_21 : decode cX4_preempt 21 = .ok (.invokespecial 41, 3) := by decide +kernel
theorem dX4_preempt_24 : decode cX4_preempt 24 = .ok (.athrow, 1) := by decide +kernel
theorem dX4_preempt_25 : decode cX4_preempt 25 = .ok (.aload_n 0, 1) := by decide +kernel
theorem dX4_preempt_26 : decode cX4_preempt 26 = .ok (.getfield 10, 3) := by decide +kernel
theorem dX4_preempt_29 : decode cX4_preempt 29 = .ok (.getfield 44, 3) := by decide +kernel
theorem dX4_preempt_32 : decode cX4_preempt 32 = .ok (.getfield 80, 3) := by decide +kernel
theorem dX4_preempt_35 : decode cX4_preempt 35 = .ok (.iload_n 1, 1) := by decide +kernel
theorem dX4_preempt_36 : decode cX4_preempt 36 = .ok (.iaload, 1) := by decide +kernel
theorem dX4_preempt_37 : decode cX4_preempt 37 = .ok (.iconst 1, 1) := by decide +kernel
theorem dX4_preempt_38 : decode cX4_preempt 38 = .ok (.if_icmp .eq 13, 3) := by decide +kernel
theorem dX4_preempt_41 : decode cX4_preempt 41 = .ok (.new 53, 3) := by decide +kernel
theorem dX4_preempt_44 : decode cX4_preempt 44 = .ok (.dup, 1) := by decide +kernel
theorem dX4_preempt_45 : decode cX4_preempt 45 = .ok (.ldc 89, 2) := by decide +kernel
theorem dX4_preempt_47 : decode cX4_preempt 47 = .ok (.invokespecial 57, 3) := by decide +kernel
theorem dX4_preempt_50 : decode cX4_preempt 50 = .ok (.athrow, 1) := by decide +kernel
theorem dX4_preempt_51 : decode cX4_preempt 51 = .ok (.aload_n 0, 1) := by decide +kernel
theorem dX4_preempt_52 : decode cX4_preempt 52 = .ok (.getfield 10, 3) := by decide +kernel
theorem dX4_preempt_55 : decode cX4_preempt 55 = .ok (.iload_n 1, 1) := by decide +kernel
theorem dX4_preempt_56 : decode cX4_preempt 56 = .ok (.iload_n 2, 1) := by decide +kernel
theorem dX4_preempt_57 : decode cX4_preempt 57 = .ok (.invokevirtual 91, 3) := by decide +kernel
theorem dX4_preempt_60 : decode cX4_preempt 60 = .ok (.ireturn, 1) := by decide +kernel
theorem dX4_reserve_0 : decode cX4_reserve 0 = .ok (.iload_n 1, 1) := by decide +kernel
theorem dX4_reserve_1 : decode cX4_reserve 1 = .ok (.iload_n 2, 1) := by decide +kernel
theorem dX4_reserve_2 : decode cX4_reserve 2 = .ok (.iload_n 3, 1) := by decide +kernel
theorem dX4_reserve_3 : decode cX4_reserve 3 = .ok (.invokestatic 95, 3) := by decide +kernel
theorem dX4_reserve_6 : decode cX4_reserve 6 = .ok (.aload_n 0, 1) := by decide +kernel
theorem dX4_reserve_7 : decode cX4_reserve 7 = .ok (.aload_n 0, 1) := by decide +kernel
theorem dX4_reserve_8 : decode cX4_reserve 8 = .ok (.iload_n 1, 1) := by decide +kernel
theorem dX4_reserve_9 : decode cX4_reserve 9 = .ok (.iload_n 2, 1) := by decide +kernel
theorem dX4_reserve_10 : decode cX4_reserve 10 = .ok (.iload_n 3, 1) := by decide +kernel
theorem dX4_reserve_11 : decode cX4_reserve 11 = .ok (.invokevirtual 99, 3) := by decide +kernel
theorem dX4_reserve_14 : decode cX4_reserve 14 = .ok (.putfield 23, 3) := by decide +kernel
theorem dX4_reserve_17 : decode cX4_reserve 17 = .ok (.aload_n 0, 1) := by decide +kernel
theorem dX4_reserve_18 : decode cX4_reserve 18 = .ok (.getfield 23, 3) := by decide +kernel
theorem dX4_reserve_21 : decode cX4_reserve 21 = .ok (.ifCond .eq 13, 3) := by decide +kernel
theorem dX4_reserve_24 : decode cX4_reserve 24 = .ok (.new 53, 3) := by decide +kernel
theorem dX4_reserve_27 : decode cX4_reserve 27 = .ok (.dup, 1) := by decide +kernel
theorem dX4_reserve_28 : decode cX4_reserve 28 = .ok (.ldc 103, 2) := by decide +kernel
theorem dX4_reserve_30 : decode cX4_reserve 30 = .ok (.invokespecial 57, 3) := by decide +kernel
theorem dX4_reserve_33 : decode cX4_reserve 33 = .ok (.athrow, 1) := by decide +kernel
theorem dX4_reserve_34 : decode cX4_reserve 34 = .ok (.aload_n 0, 1) := by decide +kernel
theorem dX4_reserve_35 : decode cX4_reserve 35 = .ok (.getfield 10, 3) := by decide +kernel
theorem dX4_reserve_38 : decode cX4_reserve 38 = .ok (.iload_n 1, 1) := by decide +kernel
theorem dX4_reserve_39 : decode cX4_reserve 39 = .ok (.iload_n 2, 1) := by decide +kernel
theorem dX4_reserve_40 : decode cX4_reserve 40 = .ok (.iload_n 3, 1) := by decide +kernel
theorem dX4_reserve_41 : decode cX4_reserve 41 = .ok (.invokevirtual 105, 3) := by decide +kernel
theorem dX4_reserve_44 : decode cX4_reserve 44 = .ok (.ireturn, 1) := by decide +kernel
theorem dX4_refusal_0 : decode cX4_refusal 0 = .ok (.aload_n 0, 1) := by decide +kernel
theorem dX4_refusal_1 : decode cX4_refusal 1 = .ok (.getfield 23, 3) := by decide +kernel
theorem dX4_refusal_4 : decode cX4_refusal 4 = .ok (.ireturn, 1) := by decide +kernel
theorem dX4_cancelReservation_0 : decode cX4_cancelReservation 0 = .ok (.aload_n 0, 1) := by decide +kernel
theorem dX4_cancelReservation_1 : decode cX4_cancelReservation 1 = .ok (.iload_n 1, 1) := by decide +kernel
theorem dX4_cancelReservation_2 : decode cX4_cancelReservation 2 = .ok (.invokevirtual 108, 3) := by decide +kernel
theorem dX4_cancelReservation_5 : decode cX4_cancelReservation 5 = .ok (.aload_n 0, 1) := by decide +kernel
theorem dX4_cancelReservation_6 : decode cX4_cancelReservation 6 = .ok (.getfield 10, 3) := by decide +kernel
theorem dX4_cancelReservation_9 : decode cX4_cancelReservation 9 = .ok (.iload_n 1, 1) := by decide +kernel
theorem dX4_cancelReservation_10 : decode cX4_cancelReservation 10 = .ok (.invokevirtual 111, 3) := by decide +kernel
theorem dX4_cancelReservation_13 : decode cX4_cancelReservation 13 = .ok (.return_, 1) := by decide +kernel
theorem dX4_reservedProcessor_0 : decode cX4_reservedProcessor 0 = .ok (.aload_n 0, 1) := by decide +kernel
theorem dX4_reservedProcessor_1 : decode cX4_reservedProcessor 1 = .ok (.iload_n 1, 1) := by decide +kernel
theorem dX4_reservedProcessor_2 : decode cX4_reservedProcessor 2 = .ok (.invokevirtual 108, 3) := by decide +kernel
theorem dX4_reservedProcessor_5 : decode cX4_reservedProcessor 5 = .ok (.aload_n 0, 1) := by decide +kernel
theorem dX4_reservedProcessor_6 : decode cX4_reservedProcessor 6 = .ok (.getfield 10, 3) := by decide +kernel
theorem dX4_reservedProcessor_9 : decode cX4_reservedProcessor 9 = .ok (.getfield 114, 3) := by decide +kernel
theorem dX4_reservedProcessor_12 : decode cX4_reservedProcessor 12 = .ok (.getfield 118, 3) := by decide +kernel
theorem dX4_reservedProcessor_15 : decode cX4_reservedProcessor 15 = .ok (.bipush 24, 2) := by decide +kernel
theorem dX4_reservedProcessor_17 : decode cX4_reservedProcessor 17 = .ok (.iload_n 1, 1) := by decide +kernel
theorem dX4_reservedProcessor_18 : decode cX4_reservedProcessor 18 = .ok (.iadd, 1) := by decide +kernel
theorem dX4_reservedProcessor_19 : decode cX4_reservedProcessor 19 = .ok (.iaload, 1) := by decide +kernel
theorem dX4_reservedProcessor_20 : decode cX4_reservedProcessor 20 = .ok (.ireturn, 1) := by decide +kernel
theorem dX4_setFair_0 : decode cX4_setFair 0 = .ok (.aload_n 0, 1) := by decide +kernel
theorem dX4_setFair_1 : decode cX4_setFair 1 = .ok (.getfield 10, 3) := by decide +kernel
theorem dX4_setFair_4 : decode cX4_setFair 4 = .ok (.getfield 123, 3) := by decide +kernel
theorem dX4_setFair_7 : decode cX4_setFair 7 = .ok (.istore_n 2, 1) := by decide +kernel
theorem dX4_setFair_8 : decode cX4_setFair 8 = .ok (.aload_n 0, 1) := by decide +kernel
theorem dX4_setFair_9 : decode cX4_setFair 9 = .ok (.getfield 10, 3) := by decide +kernel
theorem dX4_setFair_12 : decode cX4_setFair 12 = .ok (.iload_n 1, 1) := by decide +kernel
theorem dX4_setFair_13 : decode cX4_setFair 13 = .ok (.putfield 123, 3) := by decide +kernel
theorem dX4_setFair_16 : decode cX4_setFair 16 = .ok (.iload_n 2, 1) := by decide +kernel
theorem dX4_setFair_17 : decode cX4_setFair 17 = .ok (.ireturn, 1) := by decide +kernel
theorem dX4_clock_0 : decode cX4_clock 0 = .ok (.aload_n 0, 1) := by decide +kernel
theorem dX4_clock_1 : decode cX4_clock 1 = .ok (.getfield 10, 3) := by decide +kernel
theorem dX4_clock_4 : decode cX4_clock 4 = .ok (.getfield 64, 3) := by decide +kernel
theorem dX4_clock_7 : decode cX4_clock 7 = .ok (.ireturn, 1) := by decide +kernel
theorem dX4_jobCount_0 : decode cX4_jobCount 0 = .ok (.aload_n 0, 1) := by decide +kernel
theorem dX4_jobCount_1 : decode cX4_jobCount 1 = .ok (.getfield 10, 3) := by decide +kernel
theorem dX4_jobCount_4 : decode cX4_jobCount 4 = .ok (.getfield 44, 3) := by decide +kernel
theorem dX4_jobCount_7 : decode cX4_jobCount 7 = .ok (.getfield 48, 3) := by decide +kernel
theorem dX4_jobCount_10 : decode cX4_jobCount 10 = .ok (.ireturn, 1) := by decide +kernel
theorem dX4_state_0 : decode cX4_state 0 = .ok (.aload_n 0, 1) := by decide +kernel
theorem dX4_state_1 : decode cX4_state 1 = .ok (.iload_n 1, 1) := by decide +kernel
theorem dX4_state_2 : decode cX4_state 2 = .ok (.invokevirtual 73, 3) := by decide +kernel
theorem dX4_state_5 : decode cX4_state 5 = .ok (.aload_n 0, 1) := by decide +kernel
theorem dX4_state_6 : decode cX4_state 6 = .ok (.getfield 10, 3) := by decide +kernel
theorem dX4_state_9 : decode cX4_state 9 = .ok (.getfield 44, 3) := by decide +kernel
theorem dX4_state_12 : decode cX4_state 12 = .ok (.getfield 80, 3) := by decide +kernel
theorem dX4_state_15 : decode cX4_state 15 = .ok (.iload_n 1, 1) := by decide +kernel
theorem dX4_state_16 : decode cX4_state 16 = .ok (.iaload, 1) := by decide +kernel
theorem dX4_state_17 : decode cX4_state 17 = .ok (.ireturn, 1) := by decide +kernel
theorem dX4_startTime_0 : decode cX4_startTime 0 = .ok (.aload_n 0, 1) := by decide +kernel
theorem dX4_startTime_1 : decode cX4_startTime 1 = .ok (.iload_n 1, 1) := by decide +kernel
theorem dX4_startTime_2 : decode cX4_startTime 2 = .ok (.invokevirtual 73, 3) := by decide +kernel
theorem dX4_startTime_5 : decode cX4_startTime 5 = .ok (.aload_n 0, 1) := by decide +kernel
theorem dX4_startTime_6 : decode cX4_startTime 6 = .ok (.iload_n 1, 1) := by decide +kernel
theorem dX4_startTime_7 : decode cX4_startTime 7 = .ok (.invokevirtual 77, 3) := by decide +kernel
theorem dX4_startTime_10 : decode cX4_startTime 10 = .ok (.aload_n 0, 1) := by decide +kernel
theorem dX4_startTime_11 : decode cX4_startTime 11 = .ok (.getfield 10, 3) := by decide +kernel
theorem dX4_startTime_14 : decode cX4_startTime 14 = .ok (.getfield 114, 3) := by decide +kernel
theorem dX4_startTime_17 : decode cX4_startTime 17 = .ok (.getfield 126, 3) := by decide +kernel
theorem dX4_startTime_20 : decode cX4_startTime 20 = .ok (.iload_n 1, 1) := by decide +kernel
theorem dX4_startTime_21 : decode cX4_startTime 21 = .ok (.iaload, 1) := by decide +kernel
theorem dX4_startTime_22 : decode cX4_startTime 22 = .ok (.ireturn, 1) := by decide +kernel
theorem dX4_firstProcessor_0 : decode cX4_firstProcessor 0 = .ok (.aload_n 0, 1) := by decide +kernel
theorem dX4_firstProcessor_1 : decode cX4_firstProcessor 1 = .ok (.iload_n 1, 1) := by decide +kernel
theorem dX4_firstProcessor_2 : decode cX4_firstProcessor 2 = .ok (.invokevirtual 73, 3) := by decide +kernel
theorem dX4_firstProcessor_5 : decode cX4_firstProcessor 5 = .ok (.aload_n 0, 1) := by decide +kernel
theorem dX4_firstProcessor_6 : decode cX4_firstProcessor 6 = .ok (.iload_n 1, 1) := by decide +kernel
theorem dX4_firstProcessor_7 : decode cX4_firstProcessor 7 = .ok (.invokevirtual 77, 3) := by decide +kernel
theorem dX4_firstProcessor_10 : decode cX4_firstProcessor 10 = .ok (.aload_n 0, 1) := by decide +kernel
theorem dX4_firstProcessor_11 : decode cX4_firstProcessor 11 = .ok (.getfield 10, 3) := by decide +kernel
theorem dX4_firstProcessor_14 : decode cX4_firstProcessor 14 = .ok (.getfield 114, 3) := by decide +kernel
theorem dX4_firstProcessor_17 : decode cX4_firstProcessor 17 = .ok (.getfield 118, 3) := by decide +kernel
theorem dX4_firstProcessor_20 : decode cX4_firstProcessor 20 = .ok (.iload_n 1, 1) := by decide +kernel
theorem dX4_firstProcessor_21 : decode cX4_firstProcessor 21 = .ok (.iaload, 1) := by decide +kernel
theorem dX4_firstProcessor_22 : decode cX4_firstProcessor 22 = .ok (.ireturn, 1) := by decide +kernel
theorem dX4_promise_0 : decode cX4_promise 0 = .ok (.aload_n 0, 1) := by decide +kernel
theorem dX4_promise_1 : decode cX4_promise 1 = .ok (.iload_n 1, 1) := by decide +kernel
theorem dX4_promise_2 : decode cX4_promise 2 = .ok (.invokevirtual 73, 3) := by decide +kernel
theorem dX4_promise_5 : decode cX4_promise 5 = .ok (.aload_n 0, 1) := by decide +kernel
theorem dX4_promise_6 : decode cX4_promise 6 = .ok (.getfield 10, 3) := by decide +kernel
theorem dX4_promise_9 : decode cX4_promise 9 = .ok (.getfield 44, 3) := by decide +kernel
theorem dX4_promise_12 : decode cX4_promise 12 = .ok (.getfield 129, 3) := by decide +kernel
theorem dX4_promise_15 : decode cX4_promise 15 = .ok (.iload_n 1, 1) := by decide +kernel
theorem dX4_promise_16 : decode cX4_promise 16 = .ok (.iaload, 1) := by decide +kernel
theorem dX4_promise_17 : decode cX4_promise 17 = .ok (.ireturn, 1) := by decide +kernel
theorem dX4_finishTime_0 : decode cX4_finishTime 0 = .ok (.aload_n 0, 1) := by decide +kernel
theorem dX4_finishTime_1 : decode cX4_finishTime 1 = .ok (.iload_n 1, 1) := by decide +kernel
theorem dX4_finishTime_2 : decode cX4_finishTime 2 = .ok (.invokevirtual 73, 3) := by decide +kernel
theorem dX4_finishTime_5 : decode cX4_finishTime 5 = .ok (.aload_n 0, 1) := by decide +kernel
theorem dX4_finishTime_6 : decode cX4_finishTime 6 = .ok (.iload_n 1, 1) := by decide +kernel
theorem dX4_finishTime_7 : decode cX4_finishTime 7 = .ok (.invokevirtual 132, 3) := by decide +kernel
theorem dX4_finishTime_10 : decode cX4_finishTime 10 = .ok (.aload_n 0, 1) := by decide +kernel
theorem dX4_finishTime_11 : decode cX4_finishTime 11 = .ok (.getfield 10, 3) := by decide +kernel
theorem dX4_finishTime_14 : decode cX4_finishTime 14 = .ok (.getfield 44, 3) := by decide +kernel
theorem dX4_finishTime_17 : decode cX4_finishTime 17 = .ok (.getfield 135, 3) := by decide +kernel
theorem dX4_finishTime_20 : decode cX4_finishTime 20 = .ok (.iload_n 1, 1) := by decide +kernel
theorem dX4_finishTime_21 : decode cX4_finishTime 21 = .ok (.iaload, 1) := by decide +kernel
theorem dX4_finishTime_22 : decode cX4_finishTime 22 = .ok (.ireturn, 1) := by decide +kernel
theorem dX4_preemptions_0 : decode cX4_preemptions 0 = .ok (.aload_n 0, 1) := by decide +kernel
theorem dX4_preemptions_1 : decode cX4_preemptions 1 = .ok (.iload_n 1, 1) := by decide +kernel
theorem dX4_preemptions_2 : decode cX4_preemptions 2 = .ok (.invokevirtual 73, 3) := by decide +kernel
theorem dX4_preemptions_5 : decode cX4_preemptions 5 = .ok (.aload_n 0, 1) := by decide +kernel
theorem dX4_preemptions_6 : decode cX4_preemptions 6 = .ok (.getfield 10, 3) := by decide +kernel
theorem dX4_preemptions_9 : decode cX4_preemptions 9 = .ok (.getfield 44, 3) := by decide +kernel
theorem dX4_preemptions_12 : decode cX4_preemptions 12 = .ok (.getfield 138, 3) := by decide +kernel
theorem dX4_preemptions_15 : decode cX4_preemptions 15 = .ok (.iload_n 1, 1) := by decide +kernel
theorem dX4_preemptions_16 : decode cX4_preemptions 16 = .ok (.iaload, 1) := by decide +kernel
theorem dX4_preemptions_17 : decode cX4_preemptions 17 = .ok (.ireturn, 1) := by decide +kernel
theorem dX4_waitTime_0 : decode cX4_waitTime 0 = .ok (.aload_n 0, 1) := by decide +kernel
theorem dX4_waitTime_1 : decode cX4_waitTime 1 = .ok (.iload_n 1, 1) := by decide +kernel
theorem dX4_waitTime_2 : decode cX4_waitTime 2 = .ok (.invokevirtual 73, 3) := by decide +kernel
theorem dX4_waitTime_5 : decode cX4_waitTime 5 = .ok (.aload_n 0, 1) := by decide +kernel
theorem dX4_waitTime_6 : decode cX4_waitTime 6 = .ok (.getfield 10, 3) := by decide +kernel
theorem dX4_waitTime_9 : decode cX4_waitTime 9 = .ok (.getfield 44, 3) := by decide +kernel
theorem dX4_waitTime_12 : decode cX4_waitTime 12 = .ok (.iload_n 1, 1) := by decide +kernel
theorem dX4_waitTime_13 : decode cX4_waitTime 13 = .ok (.invokevirtual 141, 3) := by decide +kernel
theorem dX4_waitTime_16 : decode cX4_waitTime 16 = .ok (.ifCond .ne 13, 3) := by decide +kernel
theorem dX4_waitTime_19 : decode cX4_waitTime 19 = .ok (.new 53, 3) := by decide +kernel
theorem dX4_waitTime_22 : decode cX4_waitTime 22 = .ok (.dup, 1) := by decide +kernel
theorem dX4_waitTime_23 : decode cX4_waitTime 23 = .ok (.ldc 144, 2) := by decide +kernel
theorem dX4_waitTime_25 : decode cX4_waitTime 25 = .ok (.invokespecial 57, 3) := by decide +kernel
theorem dX4_waitTime_28 : decode cX4_waitTime 28 = .ok (.athrow, 1) := by decide +kernel
theorem dX4_waitTime_29 : decode cX4_waitTime 29 = .ok (.aload_n 0, 1) := by decide +kernel
theorem dX4_waitTime_30 : decode cX4_waitTime 30 = .ok (.getfield 10, 3) := by decide +kernel
theorem dX4_waitTime_33 : decode cX4_waitTime 33 = .ok (.getfield 44, 3) := by decide +kernel
theorem dX4_waitTime_36 : decode cX4_waitTime 36 = .ok (.iload_n 1, 1) := by decide +kernel
theorem dX4_waitTime_37 : decode cX4_waitTime 37 = .ok (.invokevirtual 146, 3) := by decide +kernel
theorem dX4_waitTime_40 : decode cX4_waitTime 40 = .ok (.ireturn, 1) := by decide +kernel
theorem dX4_averageWait_0 : decode cX4_averageWait 0 = .ok (.iconst 0, 1) := by decide +kernel
theorem dX4_averageWait_1 : decode cX4_averageWait 1 = .ok (.istore_n 1, 1) := by decide +kernel
theorem dX4_averageWait_2 : decode cX4_averageWait 2 = .ok (.iconst 0, 1) := by decide +kernel
theorem dX4_averageWait_3 : decode cX4_averageWait 3 = .ok (.istore_n 2, 1) := by decide +kernel
theorem dX4_averageWait_4 : decode cX4_averageWait 4 = .ok (.iconst 0, 1) := by decide +kernel
theorem dX4_averageWait_5 : decode cX4_averageWait 5 = .ok (.istore_n 3, 1) := by decide +kernel
theorem dX4_averageWait_6 : decode cX4_averageWait 6 = .ok (.iload_n 3, 1) := by decide +kernel
theorem dX4_averageWait_7 : decode cX4_averageWait 7 = .ok (.aload_n 0, 1) := by decide +kernel
theorem dX4_averageWait_8 : decode cX4_averageWait 8 = .ok (.getfield 10, 3) := by decide +kernel
theorem dX4_averageWait_11 : decode cX4_averageWait 11 = .ok (.getfield 44, 3) := by decide +kernel
theorem dX4_averageWait_14 : decode cX4_averageWait 14 = .ok (.getfield 48, 3) := by decide +kernel
theorem dX4_averageWait_17 : decode cX4_averageWait 17 = .ok (.if_icmp .ge 40, 3) := by decide +kernel
theorem dX4_averageWait_20 : decode cX4_averageWait 20 = .ok (.aload_n 0, 1) := by decide +kernel
theorem dX4_averageWait_21 : decode cX4_averageWait 21 = .ok (.getfield 10, 3) := by decide +kernel
theorem dX4_averageWait_24 : decode cX4_averageWait 24 = .ok (.getfield 44, 3) := by decide +kernel
theorem dX4_averageWait_27 : decode cX4_averageWait 27 = .ok (.iload_n 3, 1) := by decide +kernel
theorem dX4_averageWait_28 : decode cX4_averageWait 28 = .ok (.invokevirtual 141, 3) := by decide +kernel
theorem dX4_averageWait_31 : decode cX4_averageWait 31 = .ok (.ifCond .eq 20, 3) := by decide +kernel
theorem dX4_averageWait_34 : decode cX4_averageWait 34 = .ok (.iload_n 1, 1) := by decide +kernel
theorem dX4_averageWait_35 : decode cX4_averageWait 35 = .ok (.aload_n 0, 1) := by decide +kernel
theorem dX4_averageWait_36 : decode cX4_averageWait 36 = .ok (.getfield 10, 3) := by decide +kernel
theorem dX4_averageWait_39 : decode cX4_averageWait 39 = .ok (.getfield 44, 3) := by decide +kernel
theorem dX4_averageWait_42 : decode cX4_averageWait 42 = .ok (.iload_n 3, 1) := by decide +kernel
theorem dX4_averageWait_43 : decode cX4_averageWait 43 = .ok (.invokevirtual 146, 3) := by decide +kernel
theorem dX4_averageWait_46 : decode cX4_averageWait 46 = .ok (.iadd, 1) := by decide +kernel
theorem dX4_averageWait_47 : decode cX4_averageWait 47 = .ok (.istore_n 1, 1) := by decide +kernel
theorem dX4_averageWait_48 : decode cX4_averageWait 48 = .ok (.iinc 2 1, 3) := by decide +kernel
theorem dX4_averageWait_51 : decode cX4_averageWait 51 = .ok (.iinc 3 1, 3) := by decide +kernel
theorem dX4_averageWait_54 : decode cX4_averageWait 54 = .ok (.goto (-48), 3) := by decide +kernel
theorem dX4_averageWait_57 : decode cX4_averageWait 57 = .ok (.iload_n 2, 1) := by decide +kernel
theorem dX4_averageWait_58 : decode cX4_averageWait 58 = .ok (.ifCond .ne 13, 3) := by decide +kernel
theorem dX4_averageWait_61 : decode cX4_averageWait 61 = .ok (.new 150, 3) := by decide +kernel
theorem dX4_averageWait_64 : decode cX4_averageWait 64 = .ok (.dup, 1) := by decide +kernel
theorem dX4_averageWait_65 : decode cX4_averageWait 65 = .ok (.ldc 152, 2) := by decide +kernel
theorem dX4_averageWait_67 : decode cX4_averageWait 67 = .ok (.invokespecial 154, 3) := by decide +kernel
theorem dX4_averageWait_70 : decode cX4_averageWait 70 = .ok (.athrow, 1) := by decide +kernel
theorem dX4_averageWait_71 : decode cX4_averageWait 71 = .ok (.iload_n 1, 1) := by decide +kernel
theorem dX4_averageWait_72 : decode cX4_averageWait 72 = .ok (.i2d, 1) := by decide +kernel
theorem dX4_averageWait_73 : decode cX4_averageWait 73 = .ok (.iload_n 2, 1) := by decide +kernel
theorem dX4_averageWait_74 : decode cX4_averageWait 74 = .ok (.i2d, 1) := by decide +kernel
theorem dX4_averageWait_75 : decode cX4_averageWait 75 = .ok (.ddiv, 1) := by decide +kernel
theorem dX4_averageWait_76 : decode cX4_averageWait 76 = .ok (.dreturn, 1) := by decide +kernel
theorem dX4_slowdown_0 : decode cX4_slowdown 0 = .ok (.aload_n 0, 1) := by decide +kernel
theorem dX4_slowdown_1 : decode cX4_slowdown 1 = .ok (.iload_n 1, 1) := by decide +kernel
theorem dX4_slowdown_2 : decode cX4_slowdown 2 = .ok (.invokevirtual 73, 3) := by decide +kernel
theorem dX4_slowdown_5 : decode cX4_slowdown 5 = .ok (.aload_n 0, 1) := by decide +kernel
theorem dX4_slowdown_6 : decode cX4_slowdown 6 = .ok (.iload_n 1, 1) := by decide +kernel
theorem dX4_slowdown_7 : decode cX4_slowdown 7 = .ok (.invokevirtual 132, 3) := by decide +kernel
theorem dX4_slowdown_10 : decode cX4_slowdown 10 = .ok (.aload_n 0, 1) := by decide +kernel
theorem dX4_slowdown_11 : decode cX4_slowdown 11 = .ok (.getfield 10, 3) := by decide +kernel
theorem dX4_slowdown_14 : decode cX4_slowdown 14 = .ok (.getfield 44, 3) := by decide +kernel
theorem dX4_slowdown_17 : decode cX4_slowdown 17 = .ok (.getfield 135, 3) := by decide +kernel
theorem dX4_slowdown_20 : decode cX4_slowdown 20 = .ok (.iload_n 1, 1) := by decide +kernel
theorem dX4_slowdown_21 : decode cX4_slowdown 21 = .ok (.iaload, 1) := by decide +kernel
theorem dX4_slowdown_22 : decode cX4_slowdown 22 = .ok (.aload_n 0, 1) := by decide +kernel
theorem dX4_slowdown_23 : decode cX4_slowdown 23 = .ok (.getfield 10, 3) := by decide +kernel
theorem dX4_slowdown_26 : decode cX4_slowdown 26 = .ok (.getfield 44, 3) := by decide +kernel
theorem dX4_slowdown_29 : decode cX4_slowdown 29 = .ok (.getfield 155, 3) := by decide +kernel
theorem dX4_slowdown_32 : decode cX4_slowdown 32 = .ok (.iload_n 1, 1) := by decide +kernel
theorem dX4_slowdown_33 : decode cX4_slowdown 33 = .ok (.iaload, 1) := by decide +kernel
theorem dX4_slowdown_34 : decode cX4_slowdown 34 = .ok (.isub, 1) := by decide +kernel
theorem dX4_slowdown_35 : decode cX4_slowdown 35 = .ok (.istore_n 2, 1) := by decide +kernel
theorem dX4_slowdown_36 : decode cX4_slowdown 36 = .ok (.iload_n 2, 1) := by decide +kernel
theorem dX4_slowdown_37 : decode cX4_slowdown 37 = .ok (.i2f, 1) := by decide +kernel
theorem dX4_slowdown_38 : decode cX4_slowdown 38 = .ok (.aload_n 0, 1) := by decide +kernel
theorem dX4_slowdown_39 : decode cX4_slowdown 39 = .ok (.getfield 10, 3) := by decide +kernel
theorem dX4_slowdown_42 : decode cX4_slowdown 42 = .ok (.getfield 44, 3) := by decide +kernel
theorem dX4_slowdown_45 : decode cX4_slowdown 45 = .ok (.getfield 158, 3) := by decide +kernel
theorem dX4_slowdown_48 : decode cX4_slowdown 48 = .ok (.iload_n 1, 1) := by decide +kernel
theorem dX4_slowdown_49 : decode cX4_slowdown 49 = .ok (.iaload, 1) := by decide +kernel
theorem dX4_slowdown_50 : decode cX4_slowdown 50 = .ok (.i2f, 1) := by decide +kernel
theorem dX4_slowdown_51 : decode cX4_slowdown 51 = .ok (.fdiv, 1) := by decide +kernel
theorem dX4_slowdown_52 : decode cX4_slowdown 52 = .ok (.freturn, 1) := by decide +kernel
theorem dX4_usage_0 : decode cX4_usage 0 = .ok (.iload_n 1, 1) := by decide +kernel
theorem dX4_usage_1 : decode cX4_usage 1 = .ok (.invokestatic 27, 3) := by decide +kernel
theorem dX4_usage_4 : decode cX4_usage 4 = .ok (.ifCond .ne 13, 3) := by decide +kernel
theorem dX4_usage_7 : decode cX4_usage 7 = .ok (.new 161, 3) := by decide +kernel
theorem dX4_usage_10 : decode cX4_usage 10 = .ok (.dup, 1) := by decide +kernel
theorem dX4_usage_11 : decode cX4_usage 11 = .ok (.ldc 163, 2) := by decide +kernel
theorem dX4_usage_13 : decode cX4_usage 13 = .ok (.invokespecial 165, 3) := by decide +kernel
theorem dX4_usage_16 : decode cX4_usage 16 = .ok (.athrow, 1) := by decide +kernel
theorem dX4_usage_17 : decode cX4_usage 17 = .ok (.aload_n 0, 1) := by decide +kernel
theorem dX4_usage_18 : decode cX4_usage 18 = .ok (.getfield 10, 3) := by decide +kernel
theorem dX4_usage_21 : decode cX4_usage 21 = .ok (.iload_n 1, 1) := by decide +kernel
theorem dX4_usage_22 : decode cX4_usage 22 = .ok (.invokevirtual 166, 3) := by decide +kernel
theorem dX4_usage_25 : decode cX4_usage 25 = .ok (.ireturn, 1) := by decide +kernel
theorem dX4_utilization_0 : decode cX4_utilization 0 = .ok (.aload_n 0, 1) := by decide +kernel
theorem dX4_utilization_1 : decode cX4_utilization 1 = .ok (.getfield 10, 3) := by decide +kernel
theorem dX4_utilization_4 : decode cX4_utilization 4 = .ok (.getfield 64, 3) := by decide +kernel
theorem dX4_utilization_7 : decode cX4_utilization 7 = .ok (.ifCond .ne 13, 3) := by decide +kernel
theorem dX4_utilization_10 : decode cX4_utilization 10 = .ok (.new 150, 3) := by decide +kernel
theorem dX4_utilization_13 : decode cX4_utilization 13 = .ok (.dup, 1) := by decide +kernel
theorem dX4_utilization_14 : decode cX4_utilization 14 = .ok (.ldc 169, 2) := by decide +kernel
theorem dX4_utilization_16 : decode cX4_utilization 16 = .ok (.invokespecial 154, 3) := by decide +kernel
theorem dX4_utilization_19 : decode cX4_utilization 19 = .ok (.athrow, 1) := by decide +kernel
theorem dX4_utilization_20 : decode cX4_utilization 20 = .ok (.iconst 0, 1) := by decide +kernel
theorem dX4_utilization_21 : decode cX4_utilization 21 = .ok (.istore_n 1, 1) := by decide +kernel
theorem dX4_utilization_22 : decode cX4_utilization 22 = .ok (.iconst 0, 1) := by decide +kernel
theorem dX4_utilization_23 : decode cX4_utilization 23 = .ok (.istore_n 2, 1) := by decide +kernel
theorem dX4_utilization_24 : decode cX4_utilization 24 = .ok (.iload_n 2, 1) := by decide +kernel
theorem dX4_utilization_25 : decode cX4_utilization 25 = .ok (.iconst 4, 1) := by decide +kernel
theorem dX4_utilization_26 : decode cX4_utilization 26 = .ok (.if_icmp .ge 20, 3) := by decide +kernel
theorem dX4_utilization_29 : decode cX4_utilization 29 = .ok (.iload_n 1, 1) := by decide +kernel
theorem dX4_utilization_30 : decode cX4_utilization 30 = .ok (.aload_n 0, 1) := by decide +kernel
theorem dX4_utilization_31 : decode cX4_utilization 31 = .ok (.getfield 10, 3) := by decide +kernel
theorem dX4_utilization_34 : decode cX4_utilization 34 = .ok (.iload_n 2, 1) := by decide +kernel
theorem dX4_utilization_35 : decode cX4_utilization 35 = .ok (.invokevirtual 166, 3) := by decide +kernel
theorem dX4_utilization_38 : decode cX4_utilization 38 = .ok (.iadd, 1) := by decide +kernel
theorem dX4_utilization_39 : decode cX4_utilization 39 = .ok (.istore_n 1, 1) := by decide +kernel
theorem dX4_utilization_40 : decode cX4_utilization 40 = .ok (.iinc 2 1, 3) := by decide +kernel
theorem dX4_utilization_43 : decode cX4_utilization 43 = .ok (.goto (-19), 3) := by decide +kernel
theorem dX4_utilization_46 : decode cX4_utilization 46 = .ok (.iload_n 1, 1) := by decide +kernel
theorem dX4_utilization_47 : decode cX4_utilization 47 = .ok (.i2d, 1) := by decide +kernel
theorem dX4_utilization_48 : decode cX4_utilization 48 = .ok (.bipush 32, 2) := by decide +kernel
theorem dX4_utilization_50 : decode cX4_utilization 50 = .ok (.aload_n 0, 1) := by decide +kernel
theorem dX4_utilization_51 : decode cX4_utilization 51 = .ok (.getfield 10, 3) := by decide +kernel
theorem dX4_utilization_54 : decode cX4_utilization 54 = .ok (.getfield 64, 3) := by decide +kernel
theorem dX4_utilization_57 : decode cX4_utilization 57 = .ok (.imul, 1) := by decide +kernel
theorem dX4_utilization_58 : decode cX4_utilization 58 = .ok (.i2d, 1) := by decide +kernel
theorem dX4_utilization_59 : decode cX4_utilization 59 = .ok (.ddiv, 1) := by decide +kernel
theorem dX4_utilization_60 : decode cX4_utilization 60 = .ok (.dreturn, 1) := by decide +kernel
theorem dX4_makespan_0 : decode cX4_makespan 0 = .ok (.aload_n 0, 1) := by decide +kernel
theorem dX4_makespan_1 : decode cX4_makespan 1 = .ok (.getfield 10, 3) := by decide +kernel
theorem dX4_makespan_4 : decode cX4_makespan 4 = .ok (.getfield 64, 3) := by decide +kernel
theorem dX4_makespan_7 : decode cX4_makespan 7 = .ok (.aload_n 0, 1) := by decide +kernel
theorem dX4_makespan_8 : decode cX4_makespan 8 = .ok (.getfield 10, 3) := by decide +kernel
theorem dX4_makespan_11 : decode cX4_makespan 11 = .ok (.getfield 114, 3) := by decide +kernel
theorem dX4_makespan_14 : decode cX4_makespan 14 = .ok (.invokevirtual 171, 3) := by decide +kernel
theorem dX4_makespan_17 : decode cX4_makespan 17 = .ok (.invokestatic 174, 3) := by decide +kernel
theorem dX4_makespan_20 : decode cX4_makespan 20 = .ok (.ireturn, 1) := by decide +kernel
theorem dX4_ownerAt_0 : decode cX4_ownerAt 0 = .ok (.iload_n 1, 1) := by decide +kernel
theorem dX4_ownerAt_1 : decode cX4_ownerAt 1 = .ok (.ifCond .lt 13, 3) := by decide +kernel
theorem dX4_ownerAt_4 : decode cX4_ownerAt 4 = .ok (.iload_n 1, 1) := by decide +kernel
theorem dX4_ownerAt_5 : decode cX4_ownerAt 5 = .ok (.bipush 32, 2) := by decide +kernel
theorem dX4_ownerAt_7 : decode cX4_ownerAt 7 = .ok (.if_icmp .ge 7, 3) := by decide +kernel
theorem dX4_ownerAt_10 : decode cX4_ownerAt 10 = .ok (.iload_n 2, 1) := by decide +kernel
theorem dX4_ownerAt_11 : decode cX4_ownerAt 11 = .ok (.ifCond .ge 13, 3) := by decide +kernel
theorem dX4_ownerAt_14 : decode cX4_ownerAt 14 = .ok (.new 161, 3) := by decide +kernel
theorem dX4_ownerAt_17 : decode cX4_ownerAt 17 = .ok (.dup, 1) := by decide +kernel
theorem dX4_ownerAt_18 : decode cX4_ownerAt 18 = .ok (.ldc 179, 2) := by decide +kernel
theorem dX4_ownerAt_20 : decode cX4_ownerAt 20 = .ok (.invokespecial 165, 3) := by decide +kernel
theorem dX4_ownerAt_23 : decode cX4_ownerAt 23 = .ok (.athrow, 1) := by decide +kernel
theorem dX4_ownerAt_24 : decode cX4_ownerAt 24 = .ok (.aload_n 0, 1) := by decide +kernel
theorem dX4_ownerAt_25 : decode cX4_ownerAt 25 = .ok (.getfield 10, 3) := by decide +kernel
theorem dX4_ownerAt_28 : decode cX4_ownerAt 28 = .ok (.getfield 114, 3) := by decide +kernel
theorem dX4_ownerAt_31 : decode cX4_ownerAt 31 = .ok (.iload_n 1, 1) := by decide +kernel
theorem dX4_ownerAt_32 : decode cX4_ownerAt 32 = .ok (.iload_n 2, 1) := by decide +kernel
theorem dX4_ownerAt_33 : decode cX4_ownerAt 33 = .ok (.invokevirtual 181, 3) := by decide +kernel
theorem dX4_ownerAt_36 : decode cX4_ownerAt 36 = .ok (.istore_n 3, 1) := by decide +kernel
theorem dX4_ownerAt_37 : decode cX4_ownerAt 37 = .ok (.iload_n 3, 1) := by decide +kernel
theorem dX4_ownerAt_38 : decode cX4_ownerAt 38 = .ok (.iconst (-1), 1) := by decide +kernel
theorem dX4_ownerAt_39 : decode cX4_ownerAt 39 = .ok (.if_icmp .ne 5, 3) := by decide +kernel
theorem dX4_ownerAt_42 : decode cX4_ownerAt 42 = .ok (.iconst (-1), 1) := by decide +kernel
theorem dX4_ownerAt_43 : decode cX4_ownerAt 43 = .ok (.ireturn, 1) := by decide +kernel
theorem dX4_ownerAt_44 : decode cX4_ownerAt 44 = .ok (.iload_n 3, 1) := by decide +kernel
theorem dX4_ownerAt_45 : decode cX4_ownerAt 45 = .ok (.bipush 24, 2) := by decide +kernel
theorem dX4_ownerAt_47 : decode cX4_ownerAt 47 = .ok (.if_icmp .ge 7, 3) := by decide +kernel
theorem dX4_ownerAt_50 : decode cX4_ownerAt 50 = .ok (.iload_n 3, 1) := by decide +kernel
theorem dX4_ownerAt_51 : decode cX4_ownerAt 51 = .ok (.goto 10, 3) := by decide +kernel
theorem dX4_ownerAt_54 : decode cX4_ownerAt 54 = .ok (.bipush 100, 2) := by decide +kernel
theorem dX4_ownerAt_56 : decode cX4_ownerAt 56 = .ok (.iload_n 3, 1) := by decide +kernel
theorem dX4_ownerAt_57 : decode cX4_ownerAt 57 = .ok (.iadd, 1) := by decide +kernel
theorem dX4_ownerAt_58 : decode cX4_ownerAt 58 = .ok (.bipush 24, 2) := by decide +kernel
theorem dX4_ownerAt_60 : decode cX4_ownerAt 60 = .ok (.isub, 1) := by decide +kernel
theorem dX4_ownerAt_61 : decode cX4_ownerAt 61 = .ok (.ireturn, 1) := by decide +kernel
theorem dX4_freeProcessors_0 : decode cX4_freeProcessors 0 = .ok (.iload_n 1, 1) := by decide +kernel
theorem dX4_freeProcessors_1 : decode cX4_freeProcessors 1 = .ok (.ifCond .ge 13, 3) := by decide +kernel
theorem dX4_freeProcessors_4 : decode cX4_freeProcessors 4 = .ok (.new 161, 3) := by decide +kernel
theorem dX4_freeProcessors_7 : decode cX4_freeProcessors 7 = .ok (.dup, 1) := by decide +kernel
theorem dX4_freeProcessors_8 : decode cX4_freeProcessors 8 = .ok (.ldc 184, 2) := by decide +kernel
theorem dX4_freeProcessors_10 : decode cX4_freeProcessors 10 = .ok (.invokespecial 165, 3) := by decide +kernel
theorem dX4_freeProcessors_13 : decode cX4_freeProcessors 13 = .ok (.athrow, 1) := by decide +kernel
theorem dX4_freeProcessors_14 : decode cX4_freeProcessors 14 = .ok (.bipush 32, 2) := by decide +kernel
theorem dX4_freeProcessors_16 : decode cX4_freeProcessors 16 = .ok (.aload_n 0, 1) := by decide +kernel
theorem dX4_freeProcessors_17 : decode cX4_freeProcessors 17 = .ok (.getfield 10, 3) := by decide +kernel
theorem dX4_freeProcessors_20 : decode cX4_freeProcessors 20 = .ok (.getfield 114, 3) := by decide +kernel
theorem dX4_freeProcessors_23 : decode cX4_freeProcessors 23 = .ok (.iload_n 1, 1) := by decide +kernel
theorem dX4_freeProcessors_24 : decode cX4_freeProcessors 24 = .ok (.iload_n 1, 1) := by decide +kernel
theorem dX4_freeProcessors_25 : decode cX4_freeProcessors 25 = .ok (.invokevirtual 186, 3) := by decide +kernel
theorem dX4_freeProcessors_28 : decode cX4_freeProcessors 28 = .ok (.invokestatic 189, 3) := by decide +kernel
theorem dX4_freeProcessors_31 : decode cX4_freeProcessors 31 = .ok (.isub, 1) := by decide +kernel
theorem dX4_freeProcessors_32 : decode cX4_freeProcessors 32 = .ok (.ireturn, 1) := by decide +kernel
theorem dX4_freeBlocks_0 : decode cX4_freeBlocks 0 = .ok (.iload_n 1, 1) := by decide +kernel
theorem dX4_freeBlocks_1 : decode cX4_freeBlocks 1 = .ok (.invokestatic 31, 3) := by decide +kernel
theorem dX4_freeBlocks_4 : decode cX4_freeBlocks 4 = .ok (.ifCond .ne 13, 3) := by decide +kernel
theorem dX4_freeBlocks_7 : decode cX4_freeBlocks 7 = .ok (.new 161, 3) := by decide +kernel
theorem dX4_freeBlocks_10 : decode cX4_freeBlocks 10 = .ok (.dup, 1) := by decide +kernel
theorem dX4_freeBlocks_11 : decode cX4_freeBlocks 11 = .ok (.ldc 194, 2) := by decide +kernel
theorem dX4_freeBlocks_13 : decode cX4_freeBlocks 13 = .ok (.invokespecial 165, 3) := by decide +kernel
theorem dX4_freeBlocks_16 : decode cX4_freeBlocks 16 = .ok (.athrow, 1) := by decide +kernel
theorem dX4_freeBlocks_17 : decode cX4_freeBlocks 17 = .ok (.aload_n 0, 1) := by decide +kernel
theorem dX4_freeBlocks_18 : decode cX4_freeBlocks 18 = .ok (.invokevirtual 196, 3) := by decide +kernel
theorem dX4_freeBlocks_21 : decode cX4_freeBlocks 21 = .ok (.istore_n 2, 1) := by decide +kernel
theorem dX4_freeBlocks_22 : decode cX4_freeBlocks 22 = .ok (.iconst 0, 1) := by decide +kernel
theorem dX4_freeBlocks_23 : decode cX4_freeBlocks 23 = .ok (.istore_n 3, 1) := by decide +kernel
theorem dX4_freeBlocks_24 : decode cX4_freeBlocks 24 = .ok (.iconst 0, 1) := by decide +kernel
theorem dX4_freeBlocks_25 : decode cX4_freeBlocks 25 = .ok (.istore 4, 2) := by decide +kernel
theorem dX4_freeBlocks_27 : decode cX4_freeBlocks 27 = .ok (.iload 4, 2) := by decide +kernel
theorem dX4_freeBlocks_29 : decode cX4_freeBlocks 29 = .ok (.bipush 32, 2) := by decide +kernel
theorem dX4_freeBlocks_31 : decode cX4_freeBlocks 31 = .ok (.iload_n 1, 1) := by decide +kernel
theorem dX4_freeBlocks_32 : decode cX4_freeBlocks 32 = .ok (.ishr, 1) := by decide +kernel
theorem dX4_freeBlocks_33 : decode cX4_freeBlocks 33 = .ok (.if_icmp .ge 53, 3) := by decide +kernel
theorem dX4_freeBlocks_36 : decode cX4_freeBlocks 36 = .ok (.iload_n 1, 1) := by decide +kernel
theorem dX4_freeBlocks_37 : decode cX4_freeBlocks 37 = .ok (.iconst 5, 1) := by decide +kernel
theorem dX4_freeBlocks_38 : decode cX4_freeBlocks 38 = .ok (.if_icmp .ge 21, 3) := by decide +kernel
theorem dX4_freeBlocks_41 : decode cX4_freeBlocks 41 = .ok (.iload_n 2, 1) := by decide +kernel
theorem dX4_freeBlocks_42 : decode cX4_freeBlocks 42 = .ok (.iload_n 1, 1) := by decide +kernel
theorem dX4_freeBlocks_43 : decode cX4_freeBlocks 43 = .ok (.iconst 1, 1) := by decide +kernel
theorem dX4_freeBlocks_44 : decode cX4_freeBlocks 44 = .ok (.iadd, 1) := by decide +kernel
theorem dX4_freeBlocks_45 : decode cX4_freeBlocks 45 = .ok (.iload 4, 2) := by decide +kernel
theorem dX4_freeBlocks_47 : decode cX4_freeBlocks 47 = .ok (.iconst 1, 1) := by decide +kernel
theorem dX4_freeBlocks_48 : decode cX4_freeBlocks 48 = .ok (.ishr, 1) := by decide +kernel
theorem dX4_freeBlocks_49 : decode cX4_freeBlocks 49 = .ok (.invokestatic 199, 3) := by decide +kernel
theorem dX4_freeBlocks_52 : decode cX4_freeBlocks 52 = .ok (.ifCond .eq 7, 3) := by decide +kernel
theorem dX4_freeBlocks_55 : decode cX4_freeBlocks 55 = .ok (.iconst 1, 1) := by decide +kernel
theorem dX4_freeBlocks_56 : decode cX4_freeBlocks 56 = .ok (.goto 4, 3) := by decide +kernel
theorem dX4_freeBlocks_59 : decode cX4_freeBlocks 59 = .ok (.iconst 0, 1) := by decide +kernel
theorem dX4_freeBlocks_60 : decode cX4_freeBlocks 60 = .ok (.istore 5, 2) := by decide +kernel
theorem dX4_freeBlocks_62 : decode cX4_freeBlocks 62 = .ok (.iload_n 2, 1) := by decide +kernel
theorem dX4_freeBlocks_63 : decode cX4_freeBlocks 63 = .ok (.iload_n 1, 1) := by decide +kernel
theorem dX4_freeBlocks_64 : decode cX4_freeBlocks 64 = .ok (.iload 4, 2) := by decide +kernel
theorem dX4_freeBlocks_66 : decode cX4_freeBlocks 66 = .ok (.invokestatic 199, 3) := by decide +kernel
theorem dX4_freeBlocks_69 : decode cX4_freeBlocks 69 = .ok (.ifCond .eq 11, 3) := by decide +kernel
theorem dX4_freeBlocks_72 : decode cX4_freeBlocks 72 = .ok (.iload 5, 2) := by decide +kernel
theorem dX4_freeBlocks_74 : decode cX4_freeBlocks 74 = .ok (.ifCond .ne 6, 3) := by decide +kernel
theorem dX4_freeBlocks_77 : decode cX4_freeBlocks 77 = .ok (.iinc 3 1, 3) := by decide +kernel
theorem dX4_freeBlocks_80 : decode cX4_freeBlocks 80 = .ok (.iinc 4 1, 3) := by decide +kernel
theorem dX4_freeBlocks_83 : decode cX4_freeBlocks 83 = .ok (.goto (-56), 3) := by decide +kernel
theorem dX4_freeBlocks_86 : decode cX4_freeBlocks 86 = .ok (.iload_n 3, 1) := by decide +kernel
theorem dX4_freeBlocks_87 : decode cX4_freeBlocks 87 = .ok (.ireturn, 1) := by decide +kernel
theorem dX4_largestFree_0 : decode cX4_largestFree 0 = .ok (.aload_n 0, 1) := by decide +kernel
theorem dX4_largestFree_1 : decode cX4_largestFree 1 = .ok (.invokevirtual 196, 3) := by decide +kernel
theorem dX4_largestFree_4 : decode cX4_largestFree 4 = .ok (.invokestatic 203, 3) := by decide +kernel
theorem dX4_largestFree_7 : decode cX4_largestFree 7 = .ok (.istore_n 1, 1) := by decide +kernel
theorem dX4_largestFree_8 : decode cX4_largestFree 8 = .ok (.iload_n 1, 1) := by decide +kernel
theorem dX4_largestFree_9 : decode cX4_largestFree 9 = .ok (.iconst (-1), 1) := by decide +kernel
theorem dX4_largestFree_10 : decode cX4_largestFree 10 = .ok (.if_icmp .ne 13, 3) := by decide +kernel
theorem dX4_largestFree_13 : decode cX4_largestFree 13 = .ok (.new 206, 3) := by decide +kernel
theorem dX4_largestFree_16 : decode cX4_largestFree 16 = .ok (.dup, 1) := by decide +kernel
theorem dX4_largestFree_17 : decode cX4_largestFree 17 = .ok (.ldc 208, 2) := by decide +kernel
theorem dX4_largestFree_19 : decode cX4_largestFree 19 = .ok (.invokespecial 210, 3) := by decide +kernel
theorem dX4_largestFree_22 : decode cX4_largestFree 22 = .ok (.athrow, 1) := by decide +kernel
theorem dX4_largestFree_23 : decode cX4_largestFree 23 = .ok (.iload_n 1, 1) := by decide +kernel
theorem dX4_largestFree_24 : decode cX4_largestFree 24 = .ok (.ireturn, 1) := by decide +kernel
theorem dX4_fragmentation_0 : decode cX4_fragmentation 0 = .ok (.aload_n 0, 1) := by decide +kernel
theorem dX4_fragmentation_1 : decode cX4_fragmentation 1 = .ok (.invokevirtual 196, 3) := by decide +kernel
theorem dX4_fragmentation_4 : decode cX4_fragmentation 4 = .ok (.istore_n 1, 1) := by decide +kernel
theorem dX4_fragmentation_5 : decode cX4_fragmentation 5 = .ok (.iload_n 1, 1) := by decide +kernel
theorem dX4_fragmentation_6 : decode cX4_fragmentation 6 = .ok (.invokestatic 203, 3) := by decide +kernel
theorem dX4_fragmentation_9 : decode cX4_fragmentation 9 = .ok (.istore_n 2, 1) := by decide +kernel
theorem dX4_fragmentation_10 : decode cX4_fragmentation 10 = .ok (.bipush 32, 2) := by decide +kernel
theorem dX4_fragmentation_12 : decode cX4_fragmentation 12 = .ok (.iload_n 1, 1) := by decide +kernel
theorem dX4_fragmentation_13 : decode cX4_fragmentation 13 = .ok (.invokestatic 189, 3) := by decide +kernel
theorem dX4_fragmentation_16 : decode cX4_fragmentation 16 = .ok (.isub, 1) := by decide +kernel
theorem dX4_fragmentation_17 : decode cX4_fragmentation 17 = .ok (.istore_n 3, 1) := by decide +kernel
theorem dX4_fragmentation_18 : decode cX4_fragmentation 18 = .ok (.iload_n 2, 1) := by decide +kernel
theorem dX4_fragmentation_19 : decode cX4_fragmentation 19 = .ok (.iconst (-1), 1) := by decide +kernel
theorem dX4_fragmentation_20 : decode cX4_fragmentation 20 = .ok (.if_icmp .eq 7, 3) := by decide +kernel
theorem dX4_fragmentation_23 : decode cX4_fragmentation 23 = .ok (.iload_n 3, 1) := by decide +kernel
theorem dX4_fragmentation_24 : decode cX4_fragmentation 24 = .ok (.ifCond .ne 13, 3) := by decide +kernel
theorem dX4_fragmentation_27 : decode cX4_fragmentation 27 = .ok (.new 206, 3) := by decide +kernel
theorem dX4_fragmentation_30 : decode cX4_fragmentation 30 = .ok (.dup, 1) := by decide +kernel
theorem dX4_fragmentation_31 : decode cX4_fragmentation 31 = .ok (.ldc 208, 2) := by decide +kernel
theorem dX4_fragmentation_33 : decode cX4_fragmentation 33 = .ok (.invokespecial 210, 3) := by decide +kernel
theorem dX4_fragmentation_36 : decode cX4_fragmentation 36 = .ok (.athrow, 1) := by decide +kernel
theorem dX4_fragmentation_37 : decode cX4_fragmentation 37 = .ok (.dconst 1, 1) := by decide +kernel
theorem dX4_fragmentation_38 : decode cX4_fragmentation 38 = .ok (.iconst 1, 1) := by decide +kernel
theorem dX4_fragmentation_39 : decode cX4_fragmentation 39 = .ok (.iload_n 2, 1) := by decide +kernel
theorem dX4_fragmentation_40 : decode cX4_fragmentation 40 = .ok (.ishl, 1) := by decide +kernel
theorem dX4_fragmentation_41 : decode cX4_fragmentation 41 = .ok (.i2d, 1) := by decide +kernel
theorem dX4_fragmentation_42 : decode cX4_fragmentation 42 = .ok (.iload_n 3, 1) := by decide +kernel
theorem dX4_fragmentation_43 : decode cX4_fragmentation 43 = .ok (.i2d, 1) := by decide +kernel
theorem dX4_fragmentation_44 : decode cX4_fragmentation 44 = .ok (.ddiv, 1) := by decide +kernel
theorem dX4_fragmentation_45 : decode cX4_fragmentation 45 = .ok (.dsub, 1) := by decide +kernel
theorem dX4_fragmentation_46 : decode cX4_fragmentation 46 = .ok (.dreturn, 1) := by decide +kernel
theorem dX4_earliestStart_0 : decode cX4_earliestStart 0 = .ok (.iload_n 1, 1) := by decide +kernel
theorem dX4_earliestStart_1 : decode cX4_earliestStart 1 = .ok (.invokestatic 31, 3) := by decide +kernel
theorem dX4_earliestStart_4 : decode cX4_earliestStart 4 = .ok (.ifCond .eq 10, 3) := by decide +kernel
theorem dX4_earliestStart_7 : decode cX4_earliestStart 7 = .ok (.iload_n 2, 1) := by decide +kernel
theorem dX4_earliestStart_8 : decode cX4_earliestStart 8 = .ok (.invokestatic 34, 3) := by decide +kernel
theorem dX4_earliestStart_11 : decode cX4_earliestStart 11 = .ok (.ifCond .ne 13, 3) := by decide +kernel
theorem dX4_earliestStart_14 : decode cX4_earliestStart 14 = .ok (.new 37, 3) := by decide +kernel
theorem dX4_earliestStart_17 : decode cX4_earliestStart 17 = .ok (.dup, 1) := by decide +kernel
theorem dX4_earliestStart_18 : decode cX4_earliestStart 18 = .ok (.ldc 39, 2) := by decide +kernel
theorem dX4_earliestStart_20 : decode cX4_earliestStart 20 = .ok (.invokespecial 41, 3) := by decide +kernel
theorem dX4_earliestStart_23 : decode cX4_earliestStart 23 = .ok (.athrow, 1) := by decide +kernel
theorem dX4_earliestStart_24 : decode cX4_earliestStart 24 = .ok (.aload_n 0, 1) := by decide +kernel
theorem dX4_earliestStart_25 : decode cX4_earliestStart 25 = .ok (.getfield 10, 3) := by decide +kernel
theorem dX4_earliestStart_28 : decode cX4_earliestStart 28 = .ok (.getfield 114, 3) := by decide +kernel
theorem dX4_earliestStart_31 : decode cX4_earliestStart 31 = .ok (.iload_n 1, 1) := by decide +kernel
theorem dX4_earliestStart_32 : decode cX4_earliestStart 32 = .ok (.aload_n 0, 1) := by decide +kernel
theorem dX4_earliestStart_33 : decode cX4_earliestStart 33 = .ok (.getfield 10, 3) := by decide +kernel
theorem dX4_earliestStart_36 : decode cX4_earliestStart 36 = .ok (.getfield 64, 3) := by decide +kernel
theorem dX4_earliestStart_39 : decode cX4_earliestStart 39 = .ok (.iload_n 2, 1) := by decide +kernel
theorem dX4_earliestStart_40 : decode cX4_earliestStart 40 = .ok (.invokevirtual 211, 3) := by decide +kernel
theorem dX4_earliestStart_43 : decode cX4_earliestStart 43 = .ok (.ireturn, 1) := by decide +kernel
theorem dX4_lowestBlock_0 : decode cX4_lowestBlock 0 = .ok (.iload_n 1, 1) := by decide +kernel
theorem dX4_lowestBlock_1 : decode cX4_lowestBlock 1 = .ok (.iload_n 2, 1) := by decide +kernel
theorem dX4_lowestBlock_2 : decode cX4_lowestBlock 2 = .ok (.iload_n 3, 1) := by decide +kernel
theorem dX4_lowestBlock_3 : decode cX4_lowestBlock 3 = .ok (.invokestatic 95, 3) := by decide +kernel
theorem dX4_lowestBlock_6 : decode cX4_lowestBlock 6 = .ok (.aload_n 0, 1) := by decide +kernel
theorem dX4_lowestBlock_7 : decode cX4_lowestBlock 7 = .ok (.getfield 10, 3) := by decide +kernel
theorem dX4_lowestBlock_10 : decode cX4_lowestBlock 10 = .ok (.getfield 114, 3) := by decide +kernel
theorem dX4_lowestBlock_13 : decode cX4_lowestBlock 13 = .ok (.iload_n 1, 1) := by decide +kernel
theorem dX4_lowestBlock_14 : decode cX4_lowestBlock 14 = .ok (.iload_n 2, 1) := by decide +kernel
theorem dX4_lowestBlock_15 : decode cX4_lowestBlock 15 = .ok (.iload_n 3, 1) := by decide +kernel
theorem dX4_lowestBlock_16 : decode cX4_lowestBlock 16 = .ok (.invokevirtual 214, 3) := by decide +kernel
theorem dX4_lowestBlock_19 : decode cX4_lowestBlock 19 = .ok (.istore 4, 2) := by decide +kernel
theorem dX4_lowestBlock_21 : decode cX4_lowestBlock 21 = .ok (.iload 4, 2) := by decide +kernel
theorem dX4_lowestBlock_23 : decode cX4_lowestBlock 23 = .ok (.iconst (-1), 1) := by decide +kernel
theorem dX4_lowestBlock_24 : decode cX4_lowestBlock 24 = .ok (.if_icmp .ne 13, 3) := by decide +kernel
theorem dX4_lowestBlock_27 : decode cX4_lowestBlock 27 = .ok (.new 206, 3) := by decide +kernel
theorem dX4_lowestBlock_30 : decode cX4_lowestBlock 30 = .ok (.dup, 1) := by decide +kernel
theorem dX4_lowestBlock_31 : decode cX4_lowestBlock 31 = .ok (.ldc 217, 2) := by decide +kernel
theorem dX4_lowestBlock_33 : decode cX4_lowestBlock 33 = .ok (.invokespecial 210, 3) := by decide +kernel
theorem dX4_lowestBlock_36 : decode cX4_lowestBlock 36 = .ok (.athrow, 1) := by decide +kernel
theorem dX4_lowestBlock_37 : decode cX4_lowestBlock 37 = .ok (.iload 4, 2) := by decide +kernel
theorem dX4_lowestBlock_39 : decode cX4_lowestBlock 39 = .ok (.ireturn, 1) := by decide +kernel
theorem dX4_blockStarts_0 : decode cX4_blockStarts 0 = .ok (.iload_n 1, 1) := by decide +kernel
theorem dX4_blockStarts_1 : decode cX4_blockStarts 1 = .ok (.iload_n 2, 1) := by decide +kernel
theorem dX4_blockStarts_2 : decode cX4_blockStarts 2 = .ok (.invokestatic 219, 3) := by decide +kernel
theorem dX4_blockStarts_5 : decode cX4_blockStarts 5 = .ok (.ifCond .ne 13, 3) := by decide +kernel
theorem dX4_blockStarts_8 : decode cX4_blockStarts 8 = .ok (.new 37, 3) := by decide +kernel
theorem dX4_blockStarts_11 : decode cX4_blockStarts 11 = .ok (.dup, 1) := by decide +kernel
theorem dX4_blockStarts_12 : decode cX4_blockStarts 12 = .ok (.ldc 223, 2) := by decide +kernel
theorem dX4_blockStarts_14 : decode cX4_blockStarts 14 = .ok (.invokespecial 41, 3) := by decide +kernel
theorem dX4_blockStarts_17 : decode cX4_blockStarts 17 = .ok (.athrow, 1) := by decide +kernel
theorem dX4_blockStarts_18 : decode cX4_blockStarts 18 = .ok (.aload_n 0, 1) := by decide +kernel
theorem dX4_blockStarts_19 : decode cX4_blockStarts 19 = .ok (.getfield 10, 3) := by decide +kernel
theorem dX4_blockStarts_22 : decode cX4_blockStarts 22 = .ok (.getfield 225, 3) := by decide +kernel
theorem dX4_blockStarts_25 : decode cX4_blockStarts 25 = .ok (.iload_n 1, 1) := by decide +kernel
theorem dX4_blockStarts_26 : decode cX4_blockStarts 26 = .ok (.iload_n 2, 1) := by decide +kernel
theorem dX4_blockStarts_27 : decode cX4_blockStarts 27 = .ok (.invokestatic 228, 3) := by decide +kernel
theorem dX4_blockStarts_30 : decode cX4_blockStarts 30 = .ok (.iaload, 1) := by decide +kernel
theorem dX4_blockStarts_31 : decode cX4_blockStarts 31 = .ok (.ireturn, 1) := by decide +kernel
theorem dX4_busiestBlock_0 : decode cX4_busiestBlock 0 = .ok (.iconst 0, 1) := by decide +kernel
theorem dX4_busiestBlock_1 : decode cX4_busiestBlock 1 = .ok (.istore_n 1, 1) := by decide +kernel
theorem dX4_busiestBlock_2 : decode cX4_busiestBlock 2 = .ok (.iconst (-1), 1) := by decide +kernel
theorem dX4_busiestBlock_3 : decode cX4_busiestBlock 3 = .ok (.istore_n 2, 1) := by decide +kernel
theorem dX4_busiestBlock_4 : decode cX4_busiestBlock 4 = .ok (.iconst 0, 1) := by decide +kernel
theorem dX4_busiestBlock_5 : decode cX4_busiestBlock 5 = .ok (.istore_n 3, 1) := by decide +kernel
theorem dX4_busiestBlock_6 : decode cX4_busiestBlock 6 = .ok (.iload_n 3, 1) := by decide +kernel
theorem dX4_busiestBlock_7 : decode cX4_busiestBlock 7 = .ok (.iconst 5, 1) := by decide +kernel
theorem dX4_busiestBlock_8 : decode cX4_busiestBlock 8 = .ok (.if_icmp .gt 66, 3) := by decide +kernel
theorem dX4_busiestBlock_11 : decode cX4_busiestBlock 11 = .ok (.iconst 0, 1) := by decide +kernel
theorem dX4_busiestBlock_12 : decode cX4_busiestBlock 12 = .ok (.istore 4, 2) := by decide +kernel
theorem dX4_busiestBlock_14 : decode cX4_busiestBlock 14 = .ok (.iload 4, 2) := by decide +kernel
theorem dX4_busiestBlock_16 : decode cX4_busiestBlock 16 = .ok (.bipush 32, 2) := by decide +kernel
theorem dX4_busiestBlock_18 : decode cX4_busiestBlock 18 = .ok (.iload_n 3, 1) := by decide +kernel
theorem dX4_busiestBlock_19 : decode cX4_busiestBlock 19 = .ok (.ishr, 1) := by decide +kernel
theorem dX4_busiestBlock_20 : decode cX4_busiestBlock 20 = .ok (.if_icmp .ge 48, 3) := by decide +kernel
theorem dX4_busiestBlock_23 : decode cX4_busiestBlock 23 = .ok (.iload 4, 2) := by decide +kernel
theorem dX4_busiestBlock_25 : decode cX4_busiestBlock 25 = .ok (.iload_n 3, 1) := by decide +kernel
theorem dX4_busiestBlock_26 : decode cX4_busiestBlock 26 = .ok (.ishl, 1) := by decide +kernel
theorem dX4_busiestBlock_27 : decode cX4_busiestBlock 27 = .ok (.istore 5, 2) := by decide +kernel
theorem dX4_busiestBlock_29 : decode cX4_busiestBlock 29 = .ok (.aload_n 0, 1) := by decide +kernel
theorem dX4_busiestBlock_30 : decode cX4_busiestBlock 30 = .ok (.getfield 10, 3) := by decide +kernel
theorem dX4_busiestBlock_33 : decode cX4_busiestBlock 33 = .ok (.getfield 225, 3) := by decide +kernel
theorem dX4_busiestBlock_36 : decode cX4_busiestBlock 36 = .ok (.iload_n 3, 1) := by decide +kernel
theorem dX4_busiestBlock_37 : decode cX4_busiestBlock 37 = .ok (.iload 5, 2) := by decide +kernel
theorem dX4_busiestBlock_39 : decode cX4_busiestBlock 39 = .ok (.invokestatic 228, 3) := by decide +kernel
theorem dX4_busiestBlock_42 : decode cX4_busiestBlock 42 = .ok (.iaload, 1) := by decide +kernel
theorem dX4_busiestBlock_43 : decode cX4_busiestBlock 43 = .ok (.istore 6, 2) := by decide +kernel
theorem dX4_busiestBlock_45 : decode cX4_busiestBlock 45 = .ok (.iload 6, 2) := by decide +kernel
theorem dX4_busiestBlock_47 : decode cX4_busiestBlock 47 = .ok (.iload_n 1, 1) := by decide +kernel
theorem dX4_busiestBlock_48 : decode cX4_busiestBlock 48 = .ok (.if_icmp .le 14, 3) := by decide +kernel
theorem dX4_busiestBlock_51 : decode cX4_busiestBlock 51 = .ok (.iload 6, 2) := by decide +kernel
theorem dX4_busiestBlock_53 : decode cX4_busiestBlock 53 = .ok (.istore_n 1, 1) := by decide +kernel
theorem dX4_busiestBlock_54 : decode cX4_busiestBlock 54 = .ok (.bipush 100, 2) := by decide +kernel
theorem dX4_busiestBlock_56 : decode cX4_busiestBlock 56 = .ok (.iload_n 3, 1) := by decide +kernel
theorem dX4_busiestBlock_57 : decode cX4_busiestBlock 57 = .ok (.imul, 1) := by decide +kernel
theorem dX4_busiestBlock_58 : decode cX4_busiestBlock 58 = .ok (.iload 5, 2) := by decide +kernel
theorem dX4_busiestBlock_60 : decode cX4_busiestBlock 60 = .ok (.iadd, 1) := by decide +kernel
theorem dX4_busiestBlock_61 : decode cX4_busiestBlock 61 = .ok (.istore_n 2, 1) := by decide +kernel
theorem dX4_busiestBlock_62 : decode cX4_busiestBlock 62 = .ok (.iinc 4 1, 3) := by decide +kernel
theorem dX4_busiestBlock_65 : decode cX4_busiestBlock 65 = .ok (.goto (-51), 3) := by decide +kernel
theorem dX4_busiestBlock_68 : decode cX4_busiestBlock 68 = .ok (.iinc 3 1, 3) := by decide +kernel
theorem dX4_busiestBlock_71 : decode cX4_busiestBlock 71 = .ok (.goto (-65), 3) := by decide +kernel
theorem dX4_busiestBlock_74 : decode cX4_busiestBlock 74 = .ok (.iload_n 2, 1) := by decide +kernel
theorem dX4_busiestBlock_75 : decode cX4_busiestBlock 75 = .ok (.iconst (-1), 1) := by decide +kernel
theorem dX4_busiestBlock_76 : decode cX4_busiestBlock 76 = .ok (.if_icmp .ne 13, 3) := by decide +kernel
theorem dX4_busiestBlock_79 : decode cX4_busiestBlock 79 = .ok (.new 206, 3) := by decide +kernel
theorem dX4_busiestBlock_82 : decode cX4_busiestBlock 82 = .ok (.dup, 1) := by decide +kernel
theorem dX4_busiestBlock_83 : decode cX4_busiestBlock 83 = .ok (.ldc 152, 2) := by decide +kernel
theorem dX4_busiestBlock_85 : decode cX4_busiestBlock 85 = .ok (.invokespecial 210, 3) := by decide +kernel
theorem dX4_busiestBlock_88 : decode cX4_busiestBlock 88 = .ok (.athrow, 1) := by decide +kernel
theorem dX4_busiestBlock_89 : decode cX4_busiestBlock 89 = .ok (.iload_n 2, 1) := by decide +kernel
theorem dX4_busiestBlock_90 : decode cX4_busiestBlock 90 = .ok (.ireturn, 1) := by decide +kernel
theorem dX4_eventCount_0 : decode cX4_eventCount 0 = .ok (.aload_n 0, 1) := by decide +kernel
theorem dX4_eventCount_1 : decode cX4_eventCount 1 = .ok (.getfield 10, 3) := by decide +kernel
theorem dX4_eventCount_4 : decode cX4_eventCount 4 = .ok (.getfield 231, 3) := by decide +kernel
theorem dX4_eventCount_7 : decode cX4_eventCount 7 = .ok (.getfield 235, 3) := by decide +kernel
theorem dX4_eventCount_10 : decode cX4_eventCount 10 = .ok (.ireturn, 1) := by decide +kernel
theorem dX4_event_0 : decode cX4_event 0 = .ok (.iload_n 1, 1) := by decide +kernel
theorem dX4_event_1 : decode cX4_event 1 = .ok (.ifCond .lt 26, 3) := by decide +kernel
theorem dX4_event_4 : decode cX4_event 4 = .ok (.iload_n 1, 1) := by decide +kernel
theorem dX4_event_5 : decode cX4_event 5 = .ok (.aload_n 0, 1) := by decide +kernel
theorem dX4_event_6 : decode cX4_event 6 = .ok (.getfield 10, 3) := by decide +kernel
theorem dX4_event_9 : decode cX4_event 9 = .ok (.getfield 231, 3) := by decide +kernel
theorem dX4_event_12 : decode cX4_event 12 = .ok (.getfield 235, 3) := by decide +kernel
theorem dX4_event_15 : decode cX4_event 15 = .ok (.if_icmp .ge 12, 3) := by decide +kernel
theorem dX4_event_18 : decode cX4_event 18 = .ok (.iload_n 2, 1) := by decide +kernel
theorem dX4_event_19 : decode cX4_event 19 = .ok (.ifCond .lt 8, 3) := by decide +kernel
theorem dX4_event_22 : decode cX4_event 22 = .ok (.iload_n 2, 1) := by decide +kernel
theorem dX4_event_23 : decode cX4_event 23 = .ok (.iconst 2, 1) := by decide +kernel
theorem dX4_event_24 : decode cX4_event 24 = .ok (.if_icmp .le 13, 3) := by decide +kernel
theorem dX4_event_27 : decode cX4_event 27 = .ok (.new 161, 3) := by decide +kernel
theorem dX4_event_30 : decode cX4_event 30 = .ok (.dup, 1) := by decide +kernel
theorem dX4_event_31 : decode cX4_event 31 = .ok (.ldc 238, 2) := by decide +kernel
theorem dX4_event_33 : decode cX4_event 33 = .ok (.invokespecial 165, 3) := by decide +kernel
theorem dX4_event_36 : decode cX4_event 36 = .ok (.athrow, 1) := by decide +kernel
theorem dX4_event_37 : decode cX4_event 37 = .ok (.aload_n 0, 1) := by decide +kernel
theorem dX4_event_38 : decode cX4_event 38 = .ok (.getfield 10, 3) := by decide +kernel
theorem dX4_event_41 : decode cX4_event 41 = .ok (.getfield 231, 3) := by decide +kernel
theorem dX4_event_44 : decode cX4_event 44 = .ok (.iload_n 1, 1) := by decide +kernel
theorem dX4_event_45 : decode cX4_event 45 = .ok (.iload_n 2, 1) := by decide +kernel
theorem dX4_event_46 : decode cX4_event 46 = .ok (.invokevirtual 240, 3) := by decide +kernel
theorem dX4_event_49 : decode cX4_event 49 = .ok (.ireturn, 1) := by decide +kernel
theorem dX4_save_0 : decode cX4_save 0 = .ok (.aload_n 0, 1) := by decide +kernel
theorem dX4_save_1 : decode cX4_save 1 = .ok (.getfield 16, 3) := by decide +kernel
theorem dX4_save_4 : decode cX4_save 4 = .ok (.aload_n 0, 1) := by decide +kernel
theorem dX4_save_5 : decode cX4_save 5 = .ok (.getfield 10, 3) := by decide +kernel
theorem dX4_save_8 : decode cX4_save 8 = .ok (.invokevirtual 243, 3) := by decide +kernel
theorem dX4_save_11 : decode cX4_save 11 = .ok (.aload_n 0, 1) := by decide +kernel
theorem dX4_save_12 : decode cX4_save 12 = .ok (.iconst 1, 1) := by decide +kernel
theorem dX4_save_13 : decode cX4_save 13 = .ok (.putfield 19, 3) := by decide +kernel
theorem dX4_save_16 : decode cX4_save 16 = .ok (.return_, 1) := by decide +kernel
theorem dX4_restore_0 : decode cX4_restore 0 = .ok (.aload_n 0, 1) := by decide +kernel
theorem dX4_restore_1 : decode cX4_restore 1 = .ok (.getfield 19, 3) := by decide +kernel
theorem dX4_restore_4 : decode cX4_restore 4 = .ok (.ifCond .ne 13, 3) := by decide +kernel
theorem dX4_restore_7 : decode cX4_restore 7 = .ok (.new 53, 3) := by decide +kernel
theorem dX4_restore_10 : decode cX4_restore 10 = .ok (.dup, 1) := by decide +kernel
theorem dX4_restore_11 : decode cX4_restore 11 = .ok (.ldc 247, 2) := by decide +kernel
theorem dX4_restore_13 : decode cX4_restore 13 = .ok (.invokespecial 57, 3) := by decide +kernel
theorem dX4_restore_16 : decode cX4_restore 16 = .ok (.athrow, 1) := by decide +kernel
theorem dX4_restore_17 : decode cX4_restore 17 = .ok (.aload_n 0, 1) := by decide +kernel
theorem dX4_restore_18 : decode cX4_restore 18 = .ok (.getfield 10, 3) := by decide +kernel
theorem dX4_restore_21 : decode cX4_restore 21 = .ok (.aload_n 0, 1) := by decide +kernel
theorem dX4_restore_22 : decode cX4_restore 22 = .ok (.getfield 16, 3) := by decide +kernel
theorem dX4_restore_25 : decode cX4_restore 25 = .ok (.invokevirtual 243, 3) := by decide +kernel
theorem dX4_restore_28 : decode cX4_restore 28 = .ok (.aload_n 0, 1) := by decide +kernel
theorem dX4_restore_29 : decode cX4_restore 29 = .ok (.getfield 10, 3) := by decide +kernel
theorem dX4_restore_32 : decode cX4_restore 32 = .ok (.getfield 64, 3) := by decide +kernel
theorem dX4_restore_35 : decode cX4_restore 35 = .ok (.ireturn, 1) := by decide +kernel
theorem dX4_checkJob_0 : decode cX4_checkJob 0 = .ok (.iload_n 1, 1) := by decide +kernel
theorem dX4_checkJob_1 : decode cX4_checkJob 1 = .ok (.ifCond .lt 17, 3) := by decide +kernel
theorem dX4_checkJob_4 : decode cX4_checkJob 4 = .ok (.iload_n 1, 1) := by decide +kernel
theorem dX4_checkJob_5 : decode cX4_checkJob 5 = .ok (.aload_n 0, 1) := by decide +kernel
theorem dX4_checkJob_6 : decode cX4_checkJob 6 = .ok (.getfield 10, 3) := by decide +kernel
theorem dX4_checkJob_9 : decode cX4_checkJob 9 = .ok (.getfield 44, 3) := by decide +kernel
theorem dX4_checkJob_12 : decode cX4_checkJob 12 = .ok (.getfield 48, 3) := by decide +kernel
theorem dX4_checkJob_15 : decode cX4_checkJob 15 = .ok (.if_icmp .lt 13, 3) := by decide +kernel
theorem dX4_checkJob_18 : decode cX4_checkJob 18 = .ok (.new 161, 3) := by decide +kernel
theorem dX4_checkJob_21 : decode cX4_checkJob 21 = .ok (.dup, 1) := by decide +kernel
theorem dX4_checkJob_22 : decode cX4_checkJob 22 = .ok (.ldc 249, 2) := by decide +kernel
theorem dX4_checkJob_24 : decode cX4_checkJob 24 = .ok (.invokespecial 165, 3) := by decide +kernel
theorem dX4_checkJob_27 : decode cX4_checkJob 27 = .ok (.athrow, 1) := by decide +kernel
theorem dX4_checkJob_28 : decode cX4_checkJob 28 = .ok (.return_, 1) := by decide +kernel
theorem dX4_checkAllocated_0 : decode cX4_checkAllocated 0 = .ok (.aload_n 0, 1) := by decide +kernel
theorem dX4_checkAllocated_1 : decode cX4_checkAllocated 1 = .ok (.getfield 10, 3) := by decide +kernel
theorem dX4_checkAllocated_4 : decode cX4_checkAllocated 4 = .ok (.getfield 44, 3) := by decide +kernel
theorem dX4_checkAllocated_7 : decode cX4_checkAllocated 7 = .ok (.getfield 80, 3) := by decide +kernel
theorem dX4_checkAllocated_10 : decode cX4_checkAllocated 10 = .ok (.iload_n 1, 1) := by decide +kernel
theorem dX4_checkAllocated_11 : decode cX4_checkAllocated 11 = .ok (.iaload, 1) := by decide +kernel
theorem dX4_checkAllocated_12 : decode cX4_checkAllocated 12 = .ok (.istore_n 2, 1) := by decide +kernel
theorem dX4_checkAllocated_13 : decode cX4_checkAllocated 13 = .ok (.iload_n 2, 1) := by decide +kernel
theorem dX4_checkAllocated_14 : decode cX4_checkAllocated 14 = .ok (.ifCond .eq 18, 3) := by decide +kernel
theorem dX4_checkAllocated_17 : decode cX4_checkAllocated 17 = .ok (.iload_n 2, 1) := by decide +kernel
theorem dX4_checkAllocated_18 : decode cX4_checkAllocated 18 = .ok (.iconst 1, 1) := by decide +kernel
theorem dX4_checkAllocated_19 : decode cX4_checkAllocated 19 = .ok (.if_icmp .eq 13, 3) := by decide +kernel
theorem dX4_checkAllocated_22 : decode cX4_checkAllocated 22 = .ok (.new 53, 3) := by decide +kernel
theorem dX4_checkAllocated_25 : decode cX4_checkAllocated 25 = .ok (.dup, 1) := by decide +kernel
theorem dX4_checkAllocated_26 : decode cX4_checkAllocated 26 = .ok (.ldc 251, 2) := by decide +kernel
theorem dX4_checkAllocated_28 : decode cX4_checkAllocated 28 = .ok (.invokespecial 57, 3) := by decide +kernel
theorem dX4_checkAllocated_31 : decode cX4_checkAllocated 31 = .ok (.athrow, 1) := by decide +kernel
theorem dX4_checkAllocated_32 : decode cX4_checkAllocated 32 = .ok (.return_, 1) := by decide +kernel
theorem dX4_checkFinished_0 : decode cX4_checkFinished 0 = .ok (.aload_n 0, 1) := by decide +kernel
theorem dX4_checkFinished_1 : decode cX4_checkFinished 1 = .ok (.getfield 10, 3) := by decide +kernel
theorem dX4_checkFinished_4 : decode cX4_checkFinished 4 = .ok (.getfield 44, 3) := by decide +kernel
theorem dX4_checkFinished_7 : decode cX4_checkFinished 7 = .ok (.getfield 80, 3) := by decide +kernel
theorem dX4_checkFinished_10 : decode cX4_checkFinished 10 = .ok (.iload_n 1, 1) := by decide +kernel
theorem dX4_checkFinished_11 : decode cX4_checkFinished 11 = .ok (.iaload, 1) := by decide +kernel
theorem dX4_checkFinished_12 : decode cX4_checkFinished 12 = .ok (.iconst 2, 1) := by decide +kernel
theorem dX4_checkFinished_13 : decode cX4_checkFinished 13 = .ok (.if_icmp .eq 13, 3) := by decide +kernel
theorem dX4_checkFinished_16 : decode cX4_checkFinished 16 = .ok (.new 53, 3) := by decide +kernel
theorem dX4_checkFinished_19 : decode cX4_checkFinished 19 = .ok (.dup, 1) := by decide +kernel
theorem dX4_checkFinished_20 : decode cX4_checkFinished 20 = .ok (.ldc 253, 2) := by decide +kernel
theorem dX4_checkFinished_22 : decode cX4_checkFinished 22 = .ok (.invokespecial 57, 3) := by decide +kernel
theorem dX4_checkFinished_25 : decode cX4_checkFinished 25 = .ok (.athrow, 1) := by decide +kernel
theorem dX4_checkFinished_26 : decode cX4_checkFinished 26 = .ok (.return_, 1) := by decide +kernel
theorem dX4_checkReservation_0 : decode cX4_checkReservation 0 = .ok (.iload_n 1, 1) := by decide +kernel
theorem dX4_checkReservation_1 : decode cX4_checkReservation 1 = .ok (.ifCond .lt 14, 3) := by decide +kernel
theorem dX4_checkReservation_4 : decode cX4_checkReservation 4 = .ok (.iload_n 1, 1) := by decide +kernel
theorem dX4_checkReservation_5 : decode cX4_checkReservation 5 = .ok (.aload_n 0, 1) := by decide +kernel
theorem dX4_checkReservation_6 : decode cX4_checkReservation 6 = .ok (.getfield 10, 3) := by decide +kernel
theorem dX4_checkReservation_9 : decode cX4_checkReservation 9 = .ok (.getfield 255, 3) := by decide +kernel
theorem dX4_checkReservation_12 : decode cX4_checkReservation 12 = .ok (.if_icmp .lt 14, 3) := by decide +kernel
theorem dX4_checkReservation_15 : decode cX4_checkReservation 15 = .ok (.new 161, 3) := by decide +kernel
theorem dX4_checkReservation_18 : decode cX4_checkReservation 18 = .ok (.dup, 1) := by decide +kernel
theorem dX4_checkReservation_19 : decode cX4_checkReservation 19 = .ok (.ldc_w 258, 3) := by decide +kernel
theorem dX4_checkReservation_22 : decode cX4_checkReservation 22 = .ok (.invokespecial 165, 3) := by decide +kernel
theorem dX4_checkReservation_25 : decode cX4_checkReservation 25 = .ok (.athrow, 1) := by decide +kernel
theorem dX4_checkReservation_26 : decode cX4_checkReservation 26 = .ok (.aload_n 0, 1) := by decide +kernel
theorem dX4_checkReservation_27 : decode cX4_checkReservation 27 = .ok (.getfield 10, 3) := by decide +kernel
theorem dX4_checkReservation_30 : decode cX4_checkReservation 30 = .ok (.getfield 114, 3) := by decide +kernel
theorem dX4_checkReservation_33 : decode cX4_checkReservation 33 = .ok (.bipush 24, 2) := by decide +kernel
theorem dX4_checkReservation_35 : decode cX4_checkReservation 35 = .ok (.iload_n 1, 1) := by decide +kernel
theorem dX4_checkReservation_36 : decode cX4_checkReservation 36 = .ok (.iadd, 1) := by decide +kernel
theorem dX4_checkReservation_37 : decode cX4_checkReservation 37 = .ok (.invokevirtual 260, 3) := by decide +kernel
theorem dX4_checkReservation_40 : decode cX4_checkReservation 40 = .ok (.ifCond .ne 14, 3) := by decide +kernel
theorem dX4_checkReservation_43 : decode cX4_checkReservation 43 = .ok (.new 53, 3) := by decide +kernel
theorem dX4_checkReservation_46 : decode cX4_checkReservation 46 = .ok (.dup, 1) := by decide +kernel
theorem dX4_checkReservation_47 : decode cX4_checkReservation 47 = .ok (.ldc_w 263, 3) := by decide +kernel
theorem dX4_checkReservation_50 : decode cX4_checkReservation 50 = .ok (.invokespecial 57, 3) := by decide +kernel
theorem dX4_checkReservation_53 : decode cX4_checkReservation 53 = .ok (.athrow, 1) := by decide +kernel
theorem dX4_checkReservation_54 : decode cX4_checkReservation 54 = .ok (.return_, 1) := by decide +kernel
theorem dX4_checkInterval_0 : decode cX4_checkInterval 0 = .ok (.iload_n 0, 1) := by decide +kernel
theorem dX4_checkInterval_1 : decode cX4_checkInterval 1 = .ok (.invokestatic 31, 3) := by decide +kernel
theorem dX4_checkInterval_4 : decode cX4_checkInterval 4 = .ok (.ifCond .eq 21, 3) := by decide +kernel
theorem dX4_checkInterval_7 : decode cX4_checkInterval 7 = .ok (.iload_n 1, 1) := by decide +kernel
theorem dX4_checkInterval_8 : decode cX4_checkInterval 8 = .ok (.ifCond .lt 17, 3) := by decide +kernel
theorem dX4_checkInterval_11 : decode cX4_checkInterval 11 = .ok (.iload_n 1, 1) := by decide +kernel
theorem dX4_checkInterval_12 : decode cX4_checkInterval 12 = .ok (.sipush 1000, 3) := by decide +kernel
theorem dX4_checkInterval_15 : decode cX4_checkInterval 15 = .ok (.if_icmp .gt 10, 3) := by decide +kernel
theorem dX4_checkInterval_18 : decode cX4_checkInterval 18 = .ok (.iload_n 2, 1) := by decide +kernel
theorem dX4_checkInterval_19 : decode cX4_checkInterval 19 = .ok (.invokestatic 34, 3) := by decide +kernel
theorem dX4_checkInterval_22 : decode cX4_checkInterval 22 = .ok (.ifCond .ne 13, 3) := by decide +kernel
theorem dX4_checkInterval_25 : decode cX4_checkInterval 25 = .ok (.new 37, 3) := by decide +kernel
theorem dX4_checkInterval_28 : decode cX4_checkInterval 28 = .ok (.dup, 1) := by decide +kernel
theorem dX4_checkInterval_29 : decode cX4_checkInterval 29 = .ok (.ldc 39, 2) := by decide +kernel
theorem dX4_checkInterval_31 : decode cX4_checkInterval 31 = .ok (.invokespecial 41, 3) := by decide +kernel
theorem dX4_checkInterval_34 : decode cX4_checkInterval 34 = .ok (.athrow, 1) := by decide +kernel
theorem dX4_checkInterval_35 : decode cX4_checkInterval 35 = .ok (.return_, 1) := by decide +kernel
theorem dX4_reasonToRefuse_0 : decode cX4_reasonToRefuse 0 = .ok (.iload_n 2, 1) := by decide +kernel
theorem dX4_reasonToRefuse_1 : decode cX4_reasonToRefuse 1 = .ok (.aload_n 0, 1) := by decide +kernel
theorem dX4_reasonToRefuse_2 : decode cX4_reasonToRefuse 2 = .ok (.getfield 10, 3) := by decide +kernel
theorem dX4_reasonToRefuse_5 : decode cX4_reasonToRefuse 5 = .ok (.getfield 64, 3) := by decide +kernel
theorem dX4_reasonToRefuse_8 : decode cX4_reasonToRefuse 8 = .ok (.if_icmp .ge 5, 3) := by decide +kernel
theorem dX4_reasonToRefuse_11 : decode cX4_reasonToRefuse 11 = .ok (.iconst 1, 1) := by decide +kernel
theorem dX4_reasonToRefuse_12 : decode cX4_reasonToRefuse 12 = .ok (.ireturn, 1) := by decide +kernel
theorem dX4_reasonToRefuse_13 : decode cX4_reasonToRefuse 13 = .ok (.aload_n 0, 1) := by decide +kernel
theorem dX4_reasonToRefuse_14 : decode cX4_reasonToRefuse 14 = .ok (.getfield 10, 3) := by decide +kernel
theorem dX4_reasonToRefuse_17 : decode cX4_reasonToRefuse 17 = .ok (.getfield 255, 3) := by decide +kernel
theorem dX4_reasonToRefuse_20 : decode cX4_reasonToRefuse 20 = .ok (.bipush 6, 2) := by decide +kernel
theorem dX4_reasonToRefuse_22 : decode cX4_reasonToRefuse 22 = .ok (.if_icmp .lt 5, 3) := by decide +kernel
theorem dX4_reasonToRefuse_25 : decode cX4_reasonToRefuse 25 = .ok (.iconst 2, 1) := by decide +kernel
theorem dX4_reasonToRefuse_26 : decode cX4_reasonToRefuse 26 = .ok (.ireturn, 1) := by decide +kernel
theorem dX4_reasonToRefuse_27 : decode cX4_reasonToRefuse 27 = .ok (.aload_n 0, 1) := by decide +kernel
theorem dX4_reasonToRefuse_28 : decode cX4_reasonToRefuse 28 = .ok (.getfield 10, 3) := by decide +kernel
theorem dX4_reasonToRefuse_31 : decode cX4_reasonToRefuse 31 = .ok (.getfield 114, 3) := by decide +kernel
theorem dX4_reasonToRefuse_34 : decode cX4_reasonToRefuse 34 = .ok (.iload_n 1, 1) := by decide +kernel
theorem dX4_reasonToRefuse_35 : decode cX4_reasonToRefuse 35 = .ok (.iload_n 2, 1) := by decide +kernel
theorem dX4_reasonToRefuse_36 : decode cX4_reasonToRefuse 36 = .ok (.iload_n 3, 1) := by decide +kernel
theorem dX4_reasonToRefuse_37 : decode cX4_reasonToRefuse 37 = .ok (.invokevirtual 214, 3) := by decide +kernel
theorem dX4_reasonToRefuse_40 : decode cX4_reasonToRefuse 40 = .ok (.iconst (-1), 1) := by decide +kernel
theorem dX4_reasonToRefuse_41 : decode cX4_reasonToRefuse 41 = .ok (.if_icmp .ne 5, 3) := by decide +kernel
theorem dX4_reasonToRefuse_44 : decode cX4_reasonToRefuse 44 = .ok (.iconst 3, 1) := by decide +kernel
theorem dX4_reasonToRefuse_45 : decode cX4_reasonToRefuse 45 = .ok (.ireturn, 1) := by decide +kernel
theorem dX4_reasonToRefuse_46 : decode cX4_reasonToRefuse 46 = .ok (.iconst 0, 1) := by decide +kernel
theorem dX4_reasonToRefuse_47 : decode cX4_reasonToRefuse 47 = .ok (.ireturn, 1) := by decide +kernel
theorem dX4_takenNow_0 : decode cX4_takenNow 0 = .ok (.aload_n 0, 1) := by decide +kernel
theorem dX4_takenNow_1 : decode cX4_takenNow 1 = .ok (.getfield 10, 3) := by decide +kernel
theorem dX4_takenNow_4 : decode cX4_takenNow 4 = .ok (.getfield 114, 3) := by decide +kernel
theorem dX4_takenNow_7 : decode cX4_takenNow 7 = .ok (.aload_n 0, 1) := by decide +kernel
theorem dX4_takenNow_8 : decode cX4_takenNow 8 = .ok (.getfield 10, 3) := by decide +kernel
theorem dX4_takenNow_11 : decode cX4_takenNow 11 = .ok (.getfield 64, 3) := by decide +kernel
theorem dX4_takenNow_14 : decode cX4_takenNow 14 = .ok (.aload_n 0, 1) := by decide +kernel
theorem dX4_takenNow_15 : decode cX4_takenNow 15 = .ok (.getfield 10, 3) := by decide +kernel
theorem dX4_takenNow_18 : decode cX4_takenNow 18 = .ok (.getfield 64, 3) := by decide +kernel
theorem dX4_takenNow_21 : decode cX4_takenNow 21 = .ok (.invokevirtual 186, 3) := by decide +kernel
theorem dX4_takenNow_24 : decode cX4_takenNow 24 = .ok (.ireturn, 1) := by decide +kernel
theorem dX4_isUser_0 : decode cX4_isUser 0 = .ok (.iload_n 0, 1) := by decide +kernel
theorem dX4_isUser_1 : decode cX4_isUser 1 = .ok (.ifCond .lt 12, 3) := by decide +kernel
theorem dX4_isUser_4 : decode cX4_isUser 4 = .ok (.iload_n 0, 1) := by decide +kernel
theorem dX4_isUser_5 : decode cX4_isUser 5 = .ok (.iconst 4, 1) := by decide +kernel
theorem dX4_isUser_6 : decode cX4_isUser 6 = .ok (.if_icmp .ge 7, 3) := by decide +kernel
theorem dX4_isUser_9 : decode cX4_isUser 9 = .ok (.iconst 1, 1) := by decide +kernel
theorem dX4_isUser_10 : decode cX4_isUser 10 = .ok (.goto 4, 3) := by decide +kernel
theorem dX4_isUser_13 : decode cX4_isUser 13 = .ok (.iconst 0, 1) := by decide +kernel
theorem dX4_isUser_14 : decode cX4_isUser 14 = .ok (.ireturn, 1) := by decide +kernel
theorem dX4_isOrder_0 : decode cX4_isOrder 0 = .ok (.iload_n 0, 1) := by decide +kernel
theorem dX4_isOrder_1 : decode cX4_isOrder 1 = .ok (.ifCond .lt 12, 3) := by decide +kernel
theorem dX4_isOrder_4 : decode cX4_isOrder 4 = .ok (.iload_n 0, 1) := by decide +kernel
theorem dX4_isOrder_5 : decode cX4_isOrder 5 = .ok (.iconst 5, 1) := by decide +kernel
theorem dX4_isOrder_6 : decode cX4_isOrder 6 = .ok (.if_icmp .gt 7, 3) := by decide +kernel
theorem dX4_isOrder_9 : decode cX4_isOrder 9 = .ok (.iconst 1, 1) := by decide +kernel
theorem dX4_isOrder_10 : decode cX4_isOrder 10 = .ok (.goto 4, 3) := by decide +kernel
theorem dX4_isOrder_13 : decode cX4_isOrder 13 = .ok (.iconst 0, 1) := by decide +kernel
theorem dX4_isOrder_14 : decode cX4_isOrder 14 = .ok (.ireturn, 1) := by decide +kernel
theorem dX4_isLength_0 : decode cX4_isLength 0 = .ok (.iload_n 0, 1) := by decide +kernel
theorem dX4_isLength_1 : decode cX4_isLength 1 = .ok (.iconst 1, 1) := by decide +kernel
theorem dX4_isLength_2 : decode cX4_isLength 2 = .ok (.if_icmp .lt 13, 3) := by decide +kernel
theorem dX4_isLength_5 : decode cX4_isLength 5 = .ok (.iload_n 0, 1) := by decide +kernel
theorem dX4_isLength_6 : decode cX4_isLength 6 = .ok (.bipush 40, 2) := by decide +kernel
theorem dX4_isLength_8 : decode cX4_isLength 8 = .ok (.if_icmp .gt 7, 3) := by decide +kernel
theorem dX4_isLength_11 : decode cX4_isLength 11 = .ok (.iconst 1, 1) := by decide +kernel
theorem dX4_isLength_12 : decode cX4_isLength 12 = .ok (.goto 4, 3) := by decide +kernel
theorem dX4_isLength_15 : decode cX4_isLength 15 = .ok (.iconst 0, 1) := by decide +kernel
theorem dX4_isLength_16 : decode cX4_isLength 16 = .ok (.ireturn, 1) := by decide +kernel
theorem dX4_isBlock_0 : decode cX4_isBlock 0 = .ok (.iload_n 0, 1) := by decide +kernel
theorem dX4_isBlock_1 : decode cX4_isBlock 1 = .ok (.invokestatic 31, 3) := by decide +kernel
theorem dX4_isBlock_4 : decode cX4_isBlock 4 = .ok (.ifCond .eq 27, 3) := by decide +kernel
theorem dX4_isBlock_7 : decode cX4_isBlock 7 = .ok (.iload_n 1, 1) := by decide +kernel
theorem dX4_isBlock_8 : decode cX4_isBlock 8 = .ok (.ifCond .lt 23, 3) := by decide +kernel
theorem dX4_isBlock_11 : decode cX4_isBlock 11 = .ok (.iload_n 1, 1) := by decide +kernel
theorem dX4_isBlock_12 : decode cX4_isBlock 12 = .ok (.bipush 32, 2) := by decide +kernel
theorem dX4_isBlock_14 : decode cX4_isBlock 14 = .ok (.if_icmp .ge 17, 3) := by decide +kernel
theorem dX4_isBlock_17 : decode cX4_isBlock 17 = .ok (.iload_n 1, 1) := by decide +kernel
theorem dX4_isBlock_18 : decode cX4_isBlock 18 = .ok (.iconst 1, 1) := by decide +kernel
theorem dX4_isBlock_19 : decode cX4_isBlock 19 = .ok (.iload_n 0, 1) := by decide +kernel
theorem dX4_isBlock_20 : decode cX4_isBlock 20 = .ok (.ishl, 1) := by decide +kernel
theorem dX4_isBlock_21 : decode cX4_isBlock 21 = .ok (.iconst 1, 1) := by decide +kernel
theorem dX4_isBlock_22 : decode cX4_isBlock 22 = .ok (.isub, 1) := by decide +kernel
theorem dX4_isBlock_23 : decode cX4_isBlock 23 = .ok (.iand, 1) := by decide +kernel
theorem dX4_isBlock_24 : decode cX4_isBlock 24 = .ok (.ifCond .ne 7, 3) := by decide +kernel
theorem dX4_isBlock_27 : decode cX4_isBlock 27 = .ok (.iconst 1, 1) := by decide +kernel
theorem dX4_isBlock_28 : decode cX4_isBlock 28 = .ok (.goto 4, 3) := by decide +kernel
theorem dX4_isBlock_31 : decode cX4_isBlock 31 = .ok (.iconst 0, 1) := by decide +kernel
theorem dX4_isBlock_32 : decode cX4_isBlock 32 = .ok (.ireturn, 1) := by decide +kernel
theorem dX4_blockMask_0 : decode cX4_blockMask 0 = .ok (.iconst (-1), 1) := by decide +kernel
theorem dX4_blockMask_1 : decode cX4_blockMask 1 = .ok (.bipush 32, 2) := by decide +kernel
theorem dX4_blockMask_3 : decode cX4_blockMask 3 = .ok (.iconst 1, 1) := by decide +kernel
theorem dX4_blockMask_4 : decode cX4_blockMask 4 = .ok (.iload_n 0, 1) := by decide +kernel
theorem dX4_blockMask_5 : decode cX4_blockMask 5 = .ok (.ishl, 1) := by decide +kernel
theorem dX4_blockMask_6 : decode cX4_blockMask 6 = .ok (.isub, 1) := by decide +kernel
theorem dX4_blockMask_7 : decode cX4_blockMask 7 = .ok (.iushr, 1) := by decide +kernel
theorem dX4_blockMask_8 : decode cX4_blockMask 8 = .ok (.iload_n 1, 1) := by decide +kernel
theorem dX4_blockMask_9 : decode cX4_blockMask 9 = .ok (.ishl, 1) := by decide +kernel
theorem dX4_blockMask_10 : decode cX4_blockMask 10 = .ok (.ireturn, 1) := by decide +kernel
theorem dX4_blockIndex_0 : decode cX4_blockIndex 0 = .ok (.bipush 32, 2) := by decide +kernel
theorem dX4_blockIndex_2 : decode cX4_blockIndex 2 = .ok (.iload_n 1, 1) := by decide +kernel
theorem dX4_blockIndex_3 : decode cX4_blockIndex 3 = .ok (.iadd, 1) := by decide +kernel
theorem dX4_blockIndex_4 : decode cX4_blockIndex 4 = .ok (.iload_n 0, 1) := by decide +kernel
theorem dX4_blockIndex_5 : decode cX4_blockIndex 5 = .ok (.ishr, 1) := by decide +kernel
theorem dX4_blockIndex_6 : decode cX4_blockIndex 6 = .ok (.ireturn, 1) := by decide +kernel
theorem dX4_isClear_0 : decode cX4_isClear 0 = .ok (.iload_n 0, 1) := by decide +kernel
theorem dX4_isClear_1 : decode cX4_isClear 1 = .ok (.iload_n 1, 1) := by decide +kernel
theorem dX4_isClear_2 : decode cX4_isClear 2 = .ok (.iload_n 2, 1) := by decide +kernel
theorem dX4_isClear_3 : decode cX4_isClear 3 = .ok (.iload_n 1, 1) := by decide +kernel
theorem dX4_isClear_4 : decode cX4_isClear 4 = .ok (.ishl, 1) := by decide +kernel
theorem dX4_isClear_5 : decode cX4_isClear 5 = .ok (.invokestatic 265, 3) := by decide +kernel
theorem dX4_isClear_8 : decode cX4_isClear 8 = .ok (.iand, 1) := by decide +kernel
theorem dX4_isClear_9 : decode cX4_isClear 9 = .ok (.ifCond .ne 7, 3) := by decide +kernel
theorem dX4_isClear_12 : decode cX4_isClear 12 = .ok (.iconst 1, 1) := by decide +kernel
theorem dX4_isClear_13 : decode cX4_isClear 13 = .ok (.goto 4, 3) := by decide +kernel
theorem dX4_isClear_16 : decode cX4_isClear 16 = .ok (.iconst 0, 1) := by decide +kernel
theorem dX4_isClear_17 : decode cX4_isClear 17 = .ok (.ireturn, 1) := by decide +kernel
theorem dX4_lowestClear_0 : decode cX4_lowestClear 0 = .ok (.iload_n 1, 1) := by decide +kernel
theorem dX4_lowestClear_1 : decode cX4_lowestClear 1 = .ok (.iconst 0, 1) := by decide +kernel
theorem dX4_lowestClear_2 : decode cX4_lowestClear 2 = .ok (.invokestatic 265, 3) := by decide +kernel
theorem dX4_lowestClear_5 : decode cX4_lowestClear 5 = .ok (.istore_n 2, 1) := by decide +kernel
theorem dX4_lowestClear_6 : decode cX4_lowestClear 6 = .ok (.iconst 0, 1) := by decide +kernel
theorem dX4_lowestClear_7 : decode cX4_lowestClear 7 = .ok (.istore_n 3, 1) := by decide +kernel
theorem dX4_lowestClear_8 : decode cX4_lowestClear 8 = .ok (.iload_n 3, 1) := by decide +kernel
theorem dX4_lowestClear_9 : decode cX4_lowestClear 9 = .ok (.bipush 32, 2) := by decide +kernel
theorem dX4_lowestClear_11 : decode cX4_lowestClear 11 = .ok (.iload_n 1, 1) := by decide +kernel
theorem dX4_lowestClear_12 : decode cX4_lowestClear 12 = .ok (.ishr, 1) := by decide +kernel
theorem dX4_lowestClear_13 : decode cX4_lowestClear 13 = .ok (.if_icmp .ge 26, 3) := by decide +kernel
theorem dX4_lowestClear_16 : decode cX4_lowestClear 16 = .ok (.iload_n 3, 1) := by decide +kernel
theorem dX4_lowestClear_17 : decode cX4_lowestClear 17 = .ok (.iload_n 1, 1) := by decide +kernel
theorem dX4_lowestClear_18 : decode cX4_lowestClear 18 = .ok (.ishl, 1) := by decide +kernel
theorem dX4_lowestClear_19 : decode cX4_lowestClear 19 = .ok (.istore 4, 2) := by decide +kernel
theorem dX4_lowestClear_21 : decode cX4_lowestClear 21 = .ok (.iload_n 0, 1) := by decide +kernel
theorem dX4_lowestClear_22 : decode cX4_lowestClear 22 = .ok (.iload_n 2, 1) := by decide +kernel
theorem dX4_lowestClear_23 : decode cX4_lowestClear 23 = .ok (.iload 4, 2) := by decide +kernel
theorem dX4_lowestClear_25 : decode cX4_lowestClear 25 = .ok (.ishl, 1) := by decide +kernel
theorem dX4_lowestClear_26 : decode cX4_lowestClear 26 = .ok (.iand, 1) := by decide +kernel
theorem dX4_lowestClear_27 : decode cX4_lowestClear 27 = .ok (.ifCond .ne 6, 3) := by decide +kernel
theorem dX4_lowestClear_30 : decode cX4_lowestClear 30 = .ok (.iload 4, 2) := by decide +kernel
theorem dX4_lowestClear_32 : decode cX4_lowestClear 32 = .ok (.ireturn, 1) := by decide +kernel
theorem dX4_lowestClear_33 : decode cX4_lowestClear 33 = .ok (.iinc 3 1, 3) := by decide +kernel
theorem dX4_lowestClear_36 : decode cX4_lowestClear 36 = .ok (.goto (-28), 3) := by decide +kernel
theorem dX4_lowestClear_39 : decode cX4_lowestClear 39 = .ok (.iconst (-1), 1) := by decide +kernel
theorem dX4_lowestClear_40 : decode cX4_lowestClear 40 = .ok (.ireturn, 1) := by decide +kernel
theorem dX4_largestClearOrder_0 : decode cX4_largestClearOrder 0 = .ok (.iconst 5, 1) := by decide +kernel
theorem dX4_largestClearOrder_1 : decode cX4_largestClearOrder 1 = .ok (.istore_n 1, 1) := by decide +kernel
theorem dX4_largestClearOrder_2 : decode cX4_largestClearOrder 2 = .ok (.iload_n 1, 1) := by decide +kernel
theorem dX4_largestClearOrder_3 : decode cX4_largestClearOrder 3 = .ok (.ifCond .lt 20, 3) := by decide +kernel
theorem dX4_largestClearOrder_6 : decode cX4_largestClearOrder 6 = .ok (.iload_n 0, 1) := by decide +kernel
theorem dX4_largestClearOrder_7 : decode cX4_largestClearOrder 7 = .ok (.iload_n 1, 1) := by decide +kernel
theorem dX4_largestClearOrder_8 : decode cX4_largestClearOrder 8 = .ok (.invokestatic 268, 3) := by decide +kernel
theorem dX4_largestClearOrder_11 : decode cX4_largestClearOrder 11 = .ok (.iconst (-1), 1) := by decide +kernel
theorem dX4_largestClearOrder_12 : decode cX4_largestClearOrder 12 = .ok (.if_icmp .eq 5, 3) := by decide +kernel
theorem dX4_largestClearOrder_15 : decode cX4_largestClearOrder 15 = .ok (.iload_n 1, 1) := by decide +kernel
theorem dX4_largestClearOrder_16 : decode cX4_largestClearOrder 16 = .ok (.ireturn, 1) := by decide +kernel
theorem dX4_largestClearOrder_17 : decode cX4_largestClearOrder 17 = .ok (.iinc 1 (-1), 3) := by decide +kernel
theorem dX4_largestClearOrder_20 : decode cX4_largestClearOrder 20 = .ok (.goto (-18), 3) := by decide +kernel
theorem dX4_largestClearOrder_23 : decode cX4_largestClearOrder 23 = .ok (.iconst (-1), 1) := by decide +kernel
theorem dX4_largestClearOrder_24 : decode cX4_largestClearOrder 24 = .ok (.ireturn, 1) := by decide +kernel
theorem dJx00060_init_a7421_0 : decode cJx00060_init_a7421 0 = .ok (.aload_n 0, 1) := by decide +kernel
theorem dJx00060_init_a7421_1 : decode cJx00060_init_a7421 1 = .ok (.aload_n 1, 1) := by decide +kernel
theorem dJx00060_init_a7421_2 : decode cJx00060_init_a7421 2 = .ok (.invokespecial 7, 3) := by decide +kernel
theorem dJx00060_init_a7421_5 : decode cJx00060_init_a7421 5 = .ok (.return_, 1) := by decide +kernel
theorem dJ6_bitCount_0f7a4_0 : decode cJ6_bitCount_0f7a4 0 = .ok (.iload_n 0, 1) := by decide +kernel
theorem dJ6_bitCount_0f7a4_1 : decode cJ6_bitCount_0f7a4 1 = .ok (.iload_n 0, 1) := by decide +kernel
theorem dJ6_bitCount_0f7a4_2 : decode cJ6_bitCount_0f7a4 2 = .ok (.iconst 1, 1) := by decide +kernel
theorem dJ6_bitCount_0f7a4_3 : decode cJ6_bitCount_0f7a4 3 = .ok (.iushr, 1) := by decide +kernel
theorem dJ6_bitCount_0f7a4_4 : decode cJ6_bitCount_0f7a4 4 = .ok (.ldc_w 265, 3) := by decide +kernel
theorem dJ6_bitCount_0f7a4_7 : decode cJ6_bitCount_0f7a4 7 = .ok (.iand, 1) := by decide +kernel
theorem dJ6_bitCount_0f7a4_8 : decode cJ6_bitCount_0f7a4 8 = .ok (.isub, 1) := by decide +kernel
theorem dJ6_bitCount_0f7a4_9 : decode cJ6_bitCount_0f7a4 9 = .ok (.istore_n 0, 1) := by decide +kernel
theorem dJ6_bitCount_0f7a4_10 : decode cJ6_bitCount_0f7a4 10 = .ok (.iload_n 0, 1) := by decide +kernel
theorem dJ6_bitCount_0f7a4_11 : decode cJ6_bitCount_0f7a4 11 = .ok (.ldc_w 266, 3) := by decide +kernel
theorem dJ6_bitCount_0f7a4_14 : decode cJ6_bitCount_0f7a4 14 = .ok (.iand, 1) := by decide +kernel
theorem dJ6_bitCount_0f7a4_15 : decode cJ6_bitCount_0f7a4 15 = .ok (.iload_n 0, 1) := by decide +kernel
theorem dJ6_bitCount_0f7a4_16 : decode cJ6_bitCount_0f7a4 16 = .ok (.iconst 2, 1) := by decide +kernel
theorem dJ6_bitCount_0f7a4_17 : decode cJ6_bitCount_0f7a4 17 = .ok (.iushr, 1) := by decide +kernel
theorem dJ6_bitCount_0f7a4_18 : decode cJ6_bitCount_0f7a4 18 = .ok (.ldc_w 266, 3) := by decide +kernel
theorem dJ6_bitCount_0f7a4_21 : decode cJ6_bitCount_0f7a4 21 = .ok (.iand, 1) := by decide +kernel
theorem dJ6_bitCount_0f7a4_22 : decode cJ6_bitCount_0f7a4 22 = .ok (.iadd, 1) := by decide +kernel
theorem dJ6_bitCount_0f7a4_23 : decode cJ6_bitCount_0f7a4 23 = .ok (.istore_n 0, 1) := by decide +kernel
theorem dJ6_bitCount_0f7a4_24 : decode cJ6_bitCount_0f7a4 24 = .ok (.iload_n 0, 1) := by decide +kernel
theorem dJ6_bitCount_0f7a4_25 : decode cJ6_bitCount_0f7a4 25 = .ok (.iload_n 0, 1) := by decide +kernel
theorem dJ6_bitCount_0f7a4_26 : decode cJ6_bitCount_0f7a4 26 = .ok (.iconst 4, 1) := by decide +kernel
theorem dJ6_bitCount_0f7a4_27 : decode cJ6_bitCount_0f7a4 27 = .ok (.iushr, 1) := by decide +kernel
theorem dJ6_bitCount_0f7a4_28 : decode cJ6_bitCount_0f7a4 28 = .ok (.iadd, 1) := by decide +kernel
theorem dJ6_bitCount_0f7a4_29 : decode cJ6_bitCount_0f7a4 29 = .ok (.ldc_w 267, 3) := by decide +kernel
theorem dJ6_bitCount_0f7a4_32 : decode cJ6_bitCount_0f7a4 32 = .ok (.iand, 1) := by decide +kernel
theorem dJ6_bitCount_0f7a4_33 : decode cJ6_bitCount_0f7a4 33 = .ok (.istore_n 0, 1) := by decide +kernel
theorem dJ6_bitCount_0f7a4_34 : decode cJ6_bitCount_0f7a4 34 = .ok (.iload_n 0, 1) := by decide +kernel
theorem dJ6_bitCount_0f7a4_35 : decode cJ6_bitCount_0f7a4 35 = .ok (.iload_n 0, 1) := by decide +kernel
theorem dJ6_bitCount_0f7a4_36 : decode cJ6_bitCount_0f7a4 36 = .ok (.bipush 8, 2) := by decide +kernel
theorem dJ6_bitCount_0f7a4_38 : decode cJ6_bitCount_0f7a4 38 = .ok (.iushr, 1) := by decide +kernel
theorem dJ6_bitCount_0f7a4_39 : decode cJ6_bitCount_0f7a4 39 = .ok (.iadd, 1) := by decide +kernel
theorem dJ6_bitCount_0f7a4_40 : decode cJ6_bitCount_0f7a4 40 = .ok (.istore_n 0, 1) := by decide +kernel
theorem dJ6_bitCount_0f7a4_41 : decode cJ6_bitCount_0f7a4 41 = .ok (.iload_n 0, 1) := by decide +kernel
theorem dJ6_bitCount_0f7a4_42 : decode cJ6_bitCount_0f7a4 42 = .ok (.iload_n 0, 1) := by decide +kernel
theorem dJ6_bitCount_0f7a4_43 : decode cJ6_bitCount_0f7a4 43 = .ok (.bipush 16, 2) := by decide +kernel
theorem dJ6_bitCount_0f7a4_45 : decode cJ6_bitCount_0f7a4 45 = .ok (.iushr, 1) := by decide +kernel
theorem dJ6_bitCount_0f7a4_46 : decode cJ6_bitCount_0f7a4 46 = .ok (.iadd, 1) := by decide +kernel
theorem dJ6_bitCount_0f7a4_47 : decode cJ6_bitCount_0f7a4 47 = .ok (.istore_n 0, 1) := by decide +kernel
theorem dJ6_bitCount_0f7a4_48 : decode cJ6_bitCount_0f7a4 48 = .ok (.iload_n 0, 1) := by decide +kernel
theorem dJ6_bitCount_0f7a4_49 : decode cJ6_bitCount_0f7a4 49 = .ok (.bipush 63, 2) := by decide +kernel
theorem dJ6_bitCount_0f7a4_51 : decode cJ6_bitCount_0f7a4 51 = .ok (.iand, 1) := by decide +kernel
theorem dJ6_bitCount_0f7a4_52 : decode cJ6_bitCount_0f7a4 52 = .ok (.ireturn, 1) := by decide +kernel
theorem dJ9_max_7cf53_0 : decode cJ9_max_7cf53 0 = .ok (.iload_n 0, 1) := by decide +kernel
theorem dJ9_max_7cf53_1 : decode cJ9_max_7cf53 1 = .ok (.iload_n 1, 1) := by decide +kernel
theorem dJ9_max_7cf53_2 : decode cJ9_max_7cf53 2 = .ok (.if_icmp .lt 7, 3) := by decide +kernel
theorem dJ9_max_7cf53_5 : decode cJ9_max_7cf53 5 = .ok (.iload_n 0, 1) := by decide +kernel
theorem dJ9_max_7cf53_6 : decode cJ9_max_7cf53 6 = .ok (.goto 4, 3) := by decide +kernel
theorem dJ9_max_7cf53_9 : decode cJ9_max_7cf53 9 = .ok (.iload_n 1, 1) := by decide +kernel
theorem dJ9_max_7cf53_10 : decode cJ9_max_7cf53 10 = .ok (.ireturn, 1) := by decide +kernel
end
section
theorem dX5_init_0 : decode cX5_init 0 = .ok (.aload_n 0, 1) := by decide +kernel
theorem dX5_init_1 : decode cX5_init 1 = .ok (.invokespecial 3, 3) := by decide +kernel
theorem dX5_init_4 : decode cX5_init 4 = .ok (.aload_n 0, 1) := by decide +kernel
theorem dX5_init_5 : decode cX5_init 5 = .ok (.sipush 609, 3) := by decide +kernel
theorem dX5_init_8 : decode cX5_init 8 = .ok (.newarray .int, 2) := by decide +kernel
theorem dX5_init_10 : decode cX5_init 10 = .ok (.putfield 9, 3) := by decide +kernel
theorem dX5_init_13 : decode cX5_init 13 = .ok (.aload_n 0, 1) := by decide +kernel
theorem dX5_init_14 : decode cX5_init 14 = .ok (.sipush 609, 3) := by decide +kernel
theorem dX5_init_17 : decode cX5_init 17 = .ok (.newarray .int, 2) := by decide +kernel
theorem dX5_init_19 : decode cX5_init 19 = .ok (.putfield 13, 3) := by decide +kernel
theorem dX5_init_22 : decode cX5_init 22 = .ok (.aload_n 0, 1) := by decide +kernel
theorem dX5_init_23 : decode cX5_init 23 = .ok (.bipush 24, 2) := by decide +kernel
theorem dX5_init_25 : decode cX5_init 25 = .ok (.newarray .int, 2) := by decide +kernel
theorem dX5_init_27 : decode cX5_init 27 = .ok (.putfield 16, 3) := by decide +kernel
theorem dX5_init_30 : decode cX5_init 30 = .ok (.aload_n 0, 1) := by decide +kernel
theorem dX5_init_31 : decode cX5_init 31 = .ok (.iconst 4, 1) := by decide +kernel
theorem dX5_init_32 : decode cX5_init 32 = .ok (.newarray .int, 2) := by decide +kernel
theorem dX5_init_34 : decode cX5_init 34 = .ok (.putfield 19, 3) := by decide +kernel
theorem dX5_init_37 : decode cX5_init 37 = .ok (.return_, 1) := by decide +kernel
theorem dX5_thrown_0 : decode cX5_thrown 0 = .ok (.aload_n 0, 1) := by decide +kernel
theorem dX5_thrown_1 : decode cX5_thrown 1 = .ok (.getfield 22, 3) := by decide +kernel
theorem dX5_thrown_4 : decode cX5_thrown 4 = .ok (.ireturn, 1) := by decide +kernel
theorem dX5_in_0 : decode cX5_in 0 = .ok (.iload_n 0, 1) := by decide +kernel
theorem dX5_in_1 : decode cX5_in 1 = .ok (.iload_n 1, 1) := by decide +kernel
theorem dX5_in_2 : decode cX5_in 2 = .ok (.if_icmp .lt 12, 3) := by decide +kernel
theorem dX5_in_5 : decode cX5_in 5 = .ok (.iload_n 0, 1) := by decide +kernel
theorem dX5_in_6 : decode cX5_in 6 = .ok (.iload_n 2, 1) := by decide +kernel
theorem dX5_in_7 : decode cX5_in 7 = .ok (.if_icmp .gt 7, 3) := by decide +kernel
theorem dX5_in_10 : decode cX5_in 10 = .ok (.iconst 1, 1) := by decide +kernel
theorem dX5_in_11 : decode cX5_in 11 = .ok (.goto 4, 3) := by decide +kernel
theorem dX5_in_14 : decode cX5_in 14 = .ok (.iconst 0, 1) := by decide +kernel
theorem dX5_in_15 : decode cX5_in 15 = .ok (.ireturn, 1) := by decide +kernel
theorem dX5_raises_0 : decode cX5_raises 0 = .ok (.aload_n 0, 1) := by decide +kernel
theorem dX5_raises_1 : decode cX5_raises 1 = .ok (.iload_n 1, 1) := by decide +kernel
theorem dX5_raises_2 : decode cX5_raises 2 = .ok (.putfield 22, 3) := by decide +kernel
theorem dX5_raises_5 : decode cX5_raises 5 = .ok (.iconst 0, 1) := by decide +kernel
theorem dX5_raises_6 : decode cX5_raises 6 = .ok (.ireturn, 1) := by decide +kernel
theorem dX5_of_0 : decode cX5_of 0 = .ok (.aload_n 0, 1) := by decide +kernel
theorem dX5_of_1 : decode cX5_of 1 = .ok (.getfield 9, 3) := by decide +kernel
theorem dX5_of_4 : decode cX5_of 4 = .ok (.iconst 5, 1) := by decide +kernel
theorem dX5_of_5 : decode cX5_of 5 = .ok (.bipush 14, 2) := by decide +kernel
theorem dX5_of_7 : decode cX5_of 7 = .ok (.iload_n 1, 1) := by decide +kernel
theorem dX5_of_8 : decode cX5_of 8 = .ok (.imul, 1) := by decide +kernel
theorem dX5_of_9 : decode cX5_of 9 = .ok (.iadd, 1) := by decide +kernel
theorem dX5_of_10 : decode cX5_of 10 = .ok (.iload_n 2, 1) := by decide +kernel
theorem dX5_of_11 : decode cX5_of 11 = .ok (.iadd, 1) := by decide +kernel
theorem dX5_of_12 : decode cX5_of 12 = .ok (.iaload, 1) := by decide +kernel
theorem dX5_of_13 : decode cX5_of 13 = .ok (.ireturn, 1) := by decide +kernel
theorem dX5_put_0 : decode cX5_put 0 = .ok (.aload_n 0, 1) := by decide +kernel
theorem dX5_put_1 : decode cX5_put 1 = .ok (.getfield 9, 3) := by decide +kernel
theorem dX5_put_4 : decode cX5_put 4 = .ok (.iconst 5, 1) := by decide +kernel
theorem dX5_put_5 : decode cX5_put 5 = .ok (.bipush 14, 2) := by decide +kernel
theorem dX5_put_7 : decode cX5_put 7 = .ok (.iload_n 1, 1) := by decide +kernel
theorem dX5_put_8 : decode cX5_put 8 = .ok (.imul, 1) := by decide +kernel
theorem dX5_put_9 : decode cX5_put 9 = .ok (.iadd, 1) := by decide +kernel
theorem dX5_put_10 : decode cX5_put 10 = .ok (.iload_n 2, 1) := by decide +kernel
theorem dX5_put_11 : decode cX5_put 11 = .ok (.iadd, 1) := by decide +kernel
theorem dX5_put_12 : decode cX5_put 12 = .ok (.iload_n 3, 1) := by decide +kernel
theorem dX5_put_13 : decode cX5_put 13 = .ok (.iastore, 1) := by decide +kernel
theorem dX5_put_14 : decode cX5_put 14 = .ok (.return_, 1) := by decide +kernel
theorem dX5_reserved_0 : decode cX5_reserved 0 = .ok (.aload_n 0, 1) := by decide +kernel
theorem dX5_reserved_1 : decode cX5_reserved 1 = .ok (.getfield 9, 3) := by decide +kernel
theorem dX5_reserved_4 : decode cX5_reserved 4 = .ok (.sipush 341, 3) := by decide +kernel
theorem dX5_reserved_7 : decode cX5_reserved 7 = .ok (.iconst 4, 1) := by decide +kernel
theorem dX5_reserved_8 : decode cX5_reserved 8 = .ok (.iload_n 1, 1) := by decide +kernel
theorem dX5_reserved_9 : decode cX5_reserved 9 = .ok (.imul, 1) := by decide +kernel
theorem dX5_reserved_10 : decode cX5_reserved 10 = .ok (.iadd, 1) := by decide +kernel
theorem dX5_reserved_11 : decode cX5_reserved 11 = .ok (.iload_n 2, 1) := by decide +kernel
theorem dX5_reserved_12 : decode cX5_reserved 12 = .ok (.iadd, 1) := by decide +kernel
theorem dX5_reserved_13 : decode cX5_reserved 13 = .ok (.iaload, 1) := by decide +kernel
theorem dX5_reserved_14 : decode cX5_reserved 14 = .ok (.ireturn, 1) := by decide +kernel
theorem dX5_isJob_0 : decode cX5_isJob 0 = .ok (.iload_n 1, 1) := by decide +kernel
theorem dX5_isJob_1 : decode cX5_isJob 1 = .ok (.iconst 0, 1) := by decide +kernel
theorem dX5_isJob_2 : decode cX5_isJob 2 = .ok (.aload_n 0, 1) := by decide +kernel
theorem dX5_isJob_3 : decode cX5_isJob 3 = .ok (.getfield 9, 3) := by decide +kernel
theorem dX5_isJob_6 : decode cX5_isJob 6 = .ok (.iconst 1, 1) := by decide +kernel
theorem dX5_isJob_7 : decode cX5_isJob 7 = .ok (.iaload, 1) := by decide +kernel
theorem dX5_isJob_8 : decode cX5_isJob 8 = .ok (.iconst 1, 1) := by decide +kernel
theorem dX5_isJob_9 : decode cX5_isJob 9 = .ok (.isub, 1) := by decide +kernel
theorem dX5_isJob_10 : decode cX5_isJob 10 = .ok (.invokestatic 26, 3) := by decide +kernel
theorem dX5_isJob_13 : decode cX5_isJob 13 = .ok (.ireturn, 1) := by decide +kernel
theorem dX5_isReservation_0 : decode cX5_isReservation 0 = .ok (.iload_n 1, 1) := by decide +kernel
theorem dX5_isReservation_1 : decode cX5_isReservation 1 = .ok (.iconst 0, 1) := by decide +kernel
theorem dX5_isReservation_2 : decode cX5_isReservation 2 = .ok (.aload_n 0, 1) := by decide +kernel
theorem dX5_isReservation_3 : decode cX5_isReservation 3 = .ok (.getfield 9, 3) := by decide +kernel
theorem dX5_isReservation_6 : decode cX5_isReservation 6 = .ok (.iconst 2, 1) := by decide +kernel
theorem dX5_isReservation_7 : decode cX5_isReservation 7 = .ok (.iaload, 1) := by decide +kernel
theorem dX5_isReservation_8 : decode cX5_isReservation 8 = .ok (.iconst 1, 1) := by decide +kernel
theorem dX5_isReservation_9 : decode cX5_isReservation 9 = .ok (.isub, 1) := by decide +kernel
theorem dX5_isReservation_10 : decode cX5_isReservation 10 = .ok (.invokestatic 26, 3) := by decide +kernel
theorem dX5_isReservation_13 : decode cX5_isReservation 13 = .ok (.ireturn, 1) := by decide +kernel
theorem dX5_isAllocated_0 : decode cX5_isAllocated 0 = .ok (.aload_n 0, 1) := by decide +kernel
theorem dX5_isAllocated_1 : decode cX5_isAllocated 1 = .ok (.iload_n 1, 1) := by decide +kernel
theorem dX5_isAllocated_2 : decode cX5_isAllocated 2 = .ok (.iconst 4, 1) := by decide +kernel
theorem dX5_isAllocated_3 : decode cX5_isAllocated 3 = .ok (.invokevirtual 30, 3) := by decide +kernel
theorem dX5_isAllocated_6 : decode cX5_isAllocated 6 = .ok (.iconst 2, 1) := by decide +kernel
theorem dX5_isAllocated_7 : decode cX5_isAllocated 7 = .ok (.if_icmp .ge 7, 3) := by decide +kernel
theorem dX5_isAllocated_10 : decode cX5_isAllocated 10 = .ok (.iconst 1, 1) := by decide +kernel
theorem dX5_isAllocated_11 : decode cX5_isAllocated 11 = .ok (.goto 4, 3) := by decide +kernel
theorem dX5_isAllocated_14 : decode cX5_isAllocated 14 = .ok (.iconst 0, 1) := by decide +kernel
theorem dX5_isAllocated_15 : decode cX5_isAllocated 15 = .ok (.ireturn, 1) := by decide +kernel
theorem dX5_records_0 : decode cX5_records 0 = .ok (.aload_n 0, 1) := by decide +kernel
theorem dX5_records_1 : decode cX5_records 1 = .ok (.getfield 9, 3) := by decide +kernel
theorem dX5_records_4 : decode cX5_records 4 = .ok (.iconst 4, 1) := by decide +kernel
theorem dX5_records_5 : decode cX5_records 5 = .ok (.iaload, 1) := by decide +kernel
theorem dX5_records_6 : decode cX5_records 6 = .ok (.bipush 60, 2) := by decide +kernel
theorem dX5_records_8 : decode cX5_records 8 = .ok (.if_icmp .ne 50, 3) := by decide +kernel
theorem dX5_records_11 : decode cX5_records 11 = .ok (.iconst 0, 1) := by decide +kernel
theorem dX5_records_12 : decode cX5_records 12 = .ok (.istore_n 3, 1) := by decide +kernel
theorem dX5_records_13 : decode cX5_records 13 = .ok (.iload_n 3, 1) := by decide +kernel
theorem dX5_records_14 : decode cX5_records 14 = .ok (.sipush 177, 3) := by decide +kernel
theorem dX5_records_17 : decode cX5_records 17 = .ok (.if_icmp .ge 31, 3) := by decide +kernel
theorem dX5_records_20 : decode cX5_records 20 = .ok (.aload_n 0, 1) := by decide +kernel
theorem dX5_records_21 : decode cX5_records 21 = .ok (.getfield 9, 3) := by decide +kernel
theorem dX5_records_24 : decode cX5_records 24 = .ok (.sipush 365, 3) := by decide +kernel
theorem dX5_records_27 : decode cX5_records 27 = .ok (.iload_n 3, 1) := by decide +kernel
theorem dX5_records_28 : decode cX5_records 28 = .ok (.iadd, 1) := by decide +kernel
theorem dX5_records_29 : decode cX5_records 29 = .ok (.aload_n 0, 1) := by decide +kernel
theorem dX5_records_30 : decode cX5_records 30 = .ok (.getfield 9, 3) := by decide +kernel
theorem dX5_records_33 : decode cX5_records 33 = .ok (.sipush 365, 3) := by decide +kernel
theorem dX5_records_36 : decode cX5_records 36 = .ok (.iload_n 3, 1) := by decide +kernel
theorem dX5_records_37 : decode cX5_records 37 = .ok (.iadd, 1) := by decide +kernel
theorem dX5_records_38 : decode cX5_records 38 = .ok (.iconst 3, 1) := by decide +kernel
theorem dX5_records_39 : decode cX5_records 39 = .ok (.iadd, 1) := by decide +kernel
theorem dX5_records_40 : decode cX5_records 40 = .ok (.iaload, 1) := by decide +kernel
theorem dX5_records_41 : decode cX5_records 41 = .ok (.iastore, 1) := by decide +kernel
theorem dX5_records_42 : decode cX5_records 42 = .ok (.iinc 3 1, 3) := by decide +kernel
theorem dX5_records_45 : decode cX5_records 45 = .ok (.goto (-32), 3) := by decide +kernel
theorem dX5_records_48 : decode cX5_records 48 = .ok (.aload_n 0, 1) := by decide +kernel
theorem dX5_records_49 : decode cX5_records 49 = .ok (.getfield 9, 3) := by decide +kernel
theorem dX5_records_52 : decode cX5_records 52 = .ok (.iconst 4, 1) := by decide +kernel
theorem dX5_records_53 : decode cX5_records 53 = .ok (.dup2, 1) := by decide +kernel
theorem dX5_records_54 : decode cX5_records 54 = .ok (.iaload, 1) := by decide +kernel
theorem dX5_records_55 : decode cX5_records 55 = .ok (.iconst 1, 1) := by decide +kernel
theorem dX5_records_56 : decode cX5_records 56 = .ok (.isub, 1) := by decide +kernel
theorem dX5_records_57 : decode cX5_records 57 = .ok (.iastore, 1) := by decide +kernel
theorem dX5_records_58 : decode cX5_records 58 = .ok (.sipush 365, 3) := by decide +kernel
theorem dX5_records_61 : decode cX5_records 61 = .ok (.iconst 3, 1) := by decide +kernel
theorem dX5_records_62 : decode cX5_records 62 = .ok (.aload_n 0, 1) := by decide +kernel
theorem dX5_records_63 : decode cX5_records 63 = .ok (.getfield 9, 3) := by decide +kernel
theorem dX5_records_66 : decode cX5_records 66 = .ok (.iconst 4, 1) := by decide +kernel
theorem dX5_records_67 : decode cX5_records 67 = .ok (.dup2, 1) := by decide +kernel
theorem dX5_records_68 : decode cX5_records 68 = .ok (.iaload, 1) := by decide +kernel
theorem dX5_records_69 : decode cX5_records 69 = .ok (.dup_x2, 1) := by decide +kernel
theorem dX5_records_70 : decode cX5_records 70 = .ok (.iconst 1, 1) := by decide +kernel
theorem dX5_records_71 : decode cX5_records 71 = .ok (.iadd, 1) := by decide +kernel
theorem dX5_records_72 : decode cX5_records 72 = .ok (.iastore, 1) := by decide +kernel
theorem dX5_records_73 : decode cX5_records 73 = .ok (.imul, 1) := by decide +kernel
theorem dX5_records_74 : decode cX5_records 74 = .ok (.iadd, 1) := by decide +kernel
theorem dX5_records_75 : decode cX5_records 75 = .ok (.istore_n 3, 1) := by decide +kernel
theorem dX5_records_76 : decode cX5_records 76 = .ok (.aload_n 0, 1) := by decide +kernel
theorem dX5_records_77 : decode cX5_records 77 = .ok (.getfield 9, 3) := by decide +kernel
theorem dX5_records_80 : decode cX5_records 80 = .ok (.iload_n 3, 1) := by decide +kernel
theorem dX5_records_81 : decode cX5_records 81 = .ok (.aload_n 0, 1) := by decide +kernel
theorem dX5_records_82 : decode cX5_records 82 = .ok (.getfield 9, 3) := by decide +kernel
theorem dX5_records_85 : decode cX5_records 85 = .ok (.iconst 0, 1) := by decide +kernel
theorem dX5_records_86 : decode cX5_records 86 = .ok (.iaload, 1) := by decide +kernel
theorem dX5_records_87 : decode cX5_records 87 = .ok (.iastore, 1) := by decide +kernel
theorem dX5_records_88 : decode cX5_records 88 = .ok (.aload_n 0, 1) := by decide +kernel
theorem dX5_records_89 : decode cX5_records 89 = .ok (.getfield 9, 3) := by decide +kernel
theorem dX5_records_92 : decode cX5_records 92 = .ok (.iload_n 3, 1) := by decide +kernel
theorem dX5_records_93 : decode cX5_records 93 = .ok (.iconst 1, 1) := by decide +kernel
theorem dX5_records_94 : decode cX5_records 94 = .ok (.iadd, 1) := by decide +kernel
theorem dX5_records_95 : decode cX5_records 95 = .ok (.iload_n 1, 1) := by decide +kernel
theorem dX5_records_96 : decode cX5_records 96 = .ok (.iastore, 1) := by decide +kernel
theorem dX5_records_97 : decode cX5_records 97 = .ok (.aload_n 0, 1) := by decide +kernel
theorem dX5_records_98 : decode cX5_records 98 = .ok (.getfield 9, 3) := by decide +kernel
theorem dX5_records_101 : decode cX5_records 101 = .ok (.iload_n 3, 1) := by decide +kernel
theorem dX5_records_102 : decode cX5_records 102 = .ok (.iconst 2, 1) := by decide +kernel
theorem dX5_records_103 : decode cX5_records 103 = .ok (.iadd, 1) := by decide +kernel
theorem dX5_records_104 : decode cX5_records 104 = .ok (.iload_n 2, 1) := by decide +kernel
theorem dX5_records_105 : decode cX5_records 105 = .ok (.iastore, 1) := by decide +kernel
theorem dX5_records_106 : decode cX5_records 106 = .ok (.return_, 1) := by decide +kernel
theorem dX5_meets_0 : decode cX5_meets 0 = .ok (.iload_n 1, 1) := by decide +kernel
theorem dX5_meets_1 : decode cX5_meets 1 = .ok (.iload 5, 2) := by decide +kernel
theorem dX5_meets_3 : decode cX5_meets 3 = .ok (.iconst 1, 1) := by decide +kernel
theorem dX5_meets_4 : decode cX5_meets 4 = .ok (.iload 4, 2) := by decide +kernel
theorem dX5_meets_6 : decode cX5_meets 6 = .ok (.ishl, 1) := by decide +kernel
theorem dX5_meets_7 : decode cX5_meets 7 = .ok (.iadd, 1) := by decide +kernel
theorem dX5_meets_8 : decode cX5_meets 8 = .ok (.if_icmp .ge 29, 3) := by decide +kernel
theorem dX5_meets_11 : decode cX5_meets 11 = .ok (.iload 5, 2) := by decide +kernel
theorem dX5_meets_13 : decode cX5_meets 13 = .ok (.iload_n 1, 1) := by decide +kernel
theorem dX5_meets_14 : decode cX5_meets 14 = .ok (.iconst 1, 1) := by decide +kernel
theorem dX5_meets_15 : decode cX5_meets 15 = .ok (.iload_n 0, 1) := by decide +kernel
theorem dX5_meets_16 : decode cX5_meets 16 = .ok (.ishl, 1) := by decide +kernel
theorem dX5_meets_17 : decode cX5_meets 17 = .ok (.iadd, 1) := by decide +kernel
theorem dX5_meets_18 : decode cX5_meets 18 = .ok (.if_icmp .ge 19, 3) := by decide +kernel
theorem dX5_meets_21 : decode cX5_meets 21 = .ok (.iload_n 2, 1) := by decide +kernel
theorem dX5_meets_22 : decode cX5_meets 22 = .ok (.iload 7, 2) := by decide +kernel
theorem dX5_meets_24 : decode cX5_meets 24 = .ok (.if_icmp .ge 13, 3) := by decide +kernel
theorem dX5_meets_27 : decode cX5_meets 27 = .ok (.iload 6, 2) := by decide +kernel
theorem dX5_meets_29 : decode cX5_meets 29 = .ok (.iload_n 3, 1) := by decide +kernel
theorem dX5_meets_30 : decode cX5_meets 30 = .ok (.if_icmp .ge 7, 3) := by decide +kernel
theorem dX5_meets_33 : decode cX5_meets 33 = .ok (.iconst 1, 1) := by decide +kernel
theorem dX5_meets_34 : decode cX5_meets 34 = .ok (.goto 4, 3) := by decide +kernel
theorem dX5_meets_37 : decode cX5_meets 37 = .ok (.iconst 0, 1) := by decide +kernel
theorem dX5_meets_38 : decode cX5_meets 38 = .ok (.ireturn, 1) := by decide +kernel
theorem dX5_isFree_0 : decode cX5_isFree 0 = .ok (.iconst 0, 1) := by decide +kernel
theorem dX5_isFree_1 : decode cX5_isFree 1 = .ok (.istore 5, 2) := by decide +kernel
theorem dX5_isFree_3 : decode cX5_isFree 3 = .ok (.iload 5, 2) := by decide +kernel
theorem dX5_isFree_5 : decode cX5_isFree 5 = .ok (.aload_n 0, 1) := by decide +kernel
theorem dX5_isFree_6 : decode cX5_isFree 6 = .ok (.getfield 9, 3) := by decide +kernel
theorem dX5_isFree_9 : decode cX5_isFree 9 = .ok (.iconst 1, 1) := by decide +kernel
theorem dX5_isFree_10 : decode cX5_isFree 10 = .ok (.iaload, 1) := by decide +kernel
theorem dX5_isFree_11 : decode cX5_isFree 11 = .ok (.if_icmp .ge 69, 3) := by decide +kernel
theorem dX5_isFree_14 : decode cX5_isFree 14 = .ok (.aload_n 0, 1) := by decide +kernel
theorem dX5_isFree_15 : decode cX5_isFree 15 = .ok (.iload 5, 2) := by decide +kernel
theorem dX5_isFree_17 : decode cX5_isFree 17 = .ok (.invokevirtual 34, 3) := by decide +kernel
theorem dX5_isFree_20 : decode cX5_isFree 20 = .ok (.ifCond .eq 54, 3) := by decide +kernel
theorem dX5_isFree_23 : decode cX5_isFree 23 = .ok (.iload_n 1, 1) := by decide +kernel
theorem dX5_isFree_24 : decode cX5_isFree 24 = .ok (.iload_n 2, 1) := by decide +kernel
theorem dX5_isFree_25 : decode cX5_isFree 25 = .ok (.iload_n 3, 1) := by decide +kernel
theorem dX5_isFree_26 : decode cX5_isFree 26 = .ok (.iload 4, 2) := by decide +kernel
theorem dX5_isFree_28 : decode cX5_isFree 28 = .ok (.aload_n 0, 1) := by decide +kernel
theorem dX5_isFree_29 : decode cX5_isFree 29 = .ok (.iload 5, 2) := by decide +kernel
theorem dX5_isFree_31 : decode cX5_isFree 31 = .ok (.iconst 1, 1) := by decide +kernel
theorem dX5_isFree_32 : decode cX5_isFree 32 = .ok (.invokevirtual 30, 3) := by decide +kernel
theorem dX5_isFree_35 : decode cX5_isFree 35 = .ok (.aload_n 0, 1) := by decide +kernel
theorem dX5_isFree_36 : decode cX5_isFree 36 = .ok (.iload 5, 2) := by decide +kernel
theorem dX5_isFree_38 : decode cX5_isFree 38 = .ok (.iconst 5, 1) := by decide +kernel
theorem dX5_isFree_39 : decode cX5_isFree 39 = .ok (.invokevirtual 30, 3) := by decide +kernel
theorem dX5_isFree_42 : decode cX5_isFree 42 = .ok (.aload_n 0, 1) := by decide +kernel
theorem dX5_isFree_43 : decode cX5_isFree 43 = .ok (.iload 5, 2) := by decide +kernel
theorem dX5_isFree_45 : decode cX5_isFree 45 = .ok (.bipush 6, 2) := by decide +kernel
theorem dX5_isFree_47 : decode cX5_isFree 47 = .ok (.invokevirtual 30, 3) := by decide +kernel
theorem dX5_isFree_50 : decode cX5_isFree 50 = .ok (.aload_n 0, 1) := by decide +kernel
theorem dX5_isFree_51 : decode cX5_isFree 51 = .ok (.iload 5, 2) := by decide +kernel
theorem dX5_isFree_53 : decode cX5_isFree 53 = .ok (.bipush 6, 2) := by decide +kernel
theorem dX5_isFree_55 : decode cX5_isFree 55 = .ok (.invokevirtual 30, 3) := by decide +kernel
theorem dX5_isFree_58 : decode cX5_isFree 58 = .ok (.aload_n 0, 1) := by decide +kernel
theorem dX5_isFree_59 : decode cX5_isFree 59 = .ok (.iload 5, 2) := by decide +kernel
theorem dX5_isFree_61 : decode cX5_isFree 61 = .ok (.iconst 2, 1) := by decide +kernel
theorem dX5_isFree_62 : decode cX5_isFree 62 = .ok (.invokevirtual 30, 3) := by decide +kernel
theorem dX5_isFree_65 : decode cX5_isFree 65 = .ok (.iadd, 1) := by decide +kernel
theorem dX5_isFree_66 : decode cX5_isFree 66 = .ok (.invokestatic 38, 3) := by decide +kernel
theorem dX5_isFree_69 : decode cX5_isFree 69 = .ok (.ifCond .eq 5, 3) := by decide +kernel
theorem dX5_isFree_72 : decode cX5_isFree 72 = .ok (.iconst 0, 1) := by decide +kernel
theorem dX5_isFree_73 : decode cX5_isFree 73 = .ok (.ireturn, 1) := by decide +kernel
theorem dX5_isFree_74 : decode cX5_isFree 74 = .ok (.iinc 5 1, 3) := by decide +kernel
theorem dX5_isFree_77 : decode cX5_isFree 77 = .ok (.goto (-74), 3) := by decide +kernel
theorem dX5_isFree_80 : decode cX5_isFree 80 = .ok (.iconst 0, 1) := by decide +kernel
theorem dX5_isFree_81 : decode cX5_isFree 81 = .ok (.istore 5, 2) := by decide +kernel
theorem dX5_isFree_83 : decode cX5_isFree 83 = .ok (.iload 5, 2) := by decide +kernel
theorem dX5_isFree_85 : decode cX5_isFree 85 = .ok (.aload_n 0, 1) := by decide +kernel
theorem dX5_isFree_86 : decode cX5_isFree 86 = .ok (.getfield 9, 3) := by decide +kernel
theorem dX5_isFree_89 : decode cX5_isFree 89 = .ok (.iconst 2, 1) := by decide +kernel
theorem dX5_isFree_90 : decode cX5_isFree 90 = .ok (.iaload, 1) := by decide +kernel
theorem dX5_isFree_91 : decode cX5_isFree 91 = .ok (.if_icmp .ge 68, 3) := by decide +kernel
theorem dX5_isFree_94 : decode cX5_isFree 94 = .ok (.aload_n 0, 1) := by decide +kernel
theorem dX5_isFree_95 : decode cX5_isFree 95 = .ok (.iload 5, 2) := by decide +kernel
theorem dX5_isFree_97 : decode cX5_isFree 97 = .ok (.iconst 3, 1) := by decide +kernel
theorem dX5_isFree_98 : decode cX5_isFree 98 = .ok (.invokevirtual 42, 3) := by decide +kernel
theorem dX5_isFree_101 : decode cX5_isFree 101 = .ok (.ifCond .le 52, 3) := by decide +kernel
theorem dX5_isFree_104 : decode cX5_isFree 104 = .ok (.iload_n 1, 1) := by decide +kernel
theorem dX5_isFree_105 : decode cX5_isFree 105 = .ok (.iload_n 2, 1) := by decide +kernel
theorem dX5_isFree_106 : decode cX5_isFree 106 = .ok (.iload_n 3, 1) := by decide +kernel
theorem dX5_isFree_107 : decode cX5_isFree 107 = .ok (.iload 4, 2) := by decide +kernel
theorem dX5_isFree_109 : decode cX5_isFree 109 = .ok (.aload_n 0, 1) := by decide +kernel
theorem dX5_isFree_110 : decode cX5_isFree 110 = .ok (.iload 5, 2) := by decide +kernel
theorem dX5_isFree_112 : decode cX5_isFree 112 = .ok (.iconst 0, 1) := by decide +kernel
theorem dX5_isFree_113 : decode cX5_isFree 113 = .ok (.invokevirtual 42, 3) := by decide +kernel
theorem dX5_isFree_116 : decode cX5_isFree 116 = .ok (.aload_n 0, 1) := by decide +kernel
theorem dX5_isFree_117 : decode cX5_isFree 117 = .ok (.iload 5, 2) := by decide +kernel
theorem dX5_isFree_119 : decode cX5_isFree 119 = .ok (.iconst 1, 1) := by decide +kernel
theorem dX5_isFree_120 : decode cX5_isFree 120 = .ok (.invokevirtual 42, 3) := by decide +kernel
theorem dX5_isFree_123 : decode cX5_isFree 123 = .ok (.aload_n 0, 1) := by decide +kernel
theorem dX5_isFree_124 : decode cX5_isFree 124 = .ok (.iload 5, 2) := by decide +kernel
theorem dX5_isFree_126 : decode cX5_isFree 126 = .ok (.iconst 2, 1) := by decide +kernel
theorem dX5_isFree_127 : decode cX5_isFree 127 = .ok (.invokevirtual 42, 3) := by decide +kernel
theorem dX5_isFree_130 : decode cX5_isFree 130 = .ok (.aload_n 0, 1) := by decide +kernel
theorem dX5_isFree_131 : decode cX5_isFree 131 = .ok (.iload 5, 2) := by decide +kernel
theorem dX5_isFree_133 : decode cX5_isFree 133 = .ok (.iconst 2, 1) := by decide +kernel
theorem dX5_isFree_134 : decode cX5_isFree 134 = .ok (.invokevirtual 42, 3) := by decide +kernel
theorem dX5_isFree_137 : decode cX5_isFree 137 = .ok (.aload_n 0, 1) := by decide +kernel
theorem dX5_isFree_138 : decode cX5_isFree 138 = .ok (.iload 5, 2) := by decide +kernel
theorem dX5_isFree_140 : decode cX5_isFree 140 = .ok (.iconst 3, 1) := by decide +kernel
theorem dX5_isFree_141 : decode cX5_isFree 141 = .ok (.invokevirtual 42, 3) := by decide +kernel
theorem dX5_isFree_144 : decode cX5_isFree 144 = .ok (.iadd, 1) := by decide +kernel
theorem dX5_isFree_145 : decode cX5_isFree 145 = .ok (.invokestatic 38, 3) := by decide +kernel
theorem dX5_isFree_148 : decode cX5_isFree 148 = .ok (.ifCond .eq 5, 3) := by decide +kernel
theorem dX5_isFree_151 : decode cX5_isFree 151 = .ok (.iconst 0, 1) := by decide +kernel
theorem dX5_isFree_152 : decode cX5_isFree 152 = .ok (.ireturn, 1) := by decide +kernel
theorem dX5_isFree_153 : decode cX5_isFree 153 = .ok (.iinc 5 1, 3) := by decide +kernel
theorem dX5_isFree_156 : decode cX5_isFree 156 = .ok (.goto (-73), 3) := by decide +kernel
theorem dX5_isFree_159 : decode cX5_isFree 159 = .ok (.iconst 1, 1) := by decide +kernel
theorem dX5_isFree_160 : decode cX5_isFree 160 = .ok (.ireturn, 1) := by decide +kernel
theorem dX5_lowest_0 : decode cX5_lowest 0 = .ok (.iconst 0, 1) := by decide +kernel
theorem dX5_lowest_1 : decode cX5_lowest 1 = .ok (.istore 4, 2) := by decide +kernel
theorem dX5_lowest_3 : decode cX5_lowest 3 = .ok (.iload 4, 2) := by decide +kernel
theorem dX5_lowest_5 : decode cX5_lowest 5 = .ok (.bipush 32, 2) := by decide +kernel
theorem dX5_lowest_7 : decode cX5_lowest 7 = .ok (.if_icmp .ge 31, 3) := by decide +kernel
theorem dX5_lowest_10 : decode cX5_lowest 10 = .ok (.aload_n 0, 1) := by decide +kernel
theorem dX5_lowest_11 : decode cX5_lowest 11 = .ok (.iload_n 1, 1) := by decide +kernel
theorem dX5_lowest_12 : decode cX5_lowest 12 = .ok (.iload 4, 2) := by decide +kernel
theorem dX5_lowest_14 : decode cX5_lowest 14 = .ok (.iload_n 2, 1) := by decide +kernel
theorem dX5_lowest_15 : decode cX5_lowest 15 = .ok (.iload_n 2, 1) := by decide +kernel
theorem dX5_lowest_16 : decode cX5_lowest 16 = .ok (.iload_n 3, 1) := by decide +kernel
theorem dX5_lowest_17 : decode cX5_lowest 17 = .ok (.iadd, 1) := by decide +kernel
theorem dX5_lowest_18 : decode cX5_lowest 18 = .ok (.invokevirtual 45, 3) := by decide +kernel
theorem dX5_lowest_21 : decode cX5_lowest 21 = .ok (.ifCond .eq 6, 3) := by decide +kernel
theorem dX5_lowest_24 : decode cX5_lowest 24 = .ok (.iload 4, 2) := by decide +kernel
theorem dX5_lowest_26 : decode cX5_lowest 26 = .ok (.ireturn, 1) := by decide +kernel
theorem dX5_lowest_27 : decode cX5_lowest 27 = .ok (.iload 4, 2) := by decide +kernel
theorem dX5_lowest_29 : decode cX5_lowest 29 = .ok (.iconst 1, 1) := by decide +kernel
theorem dX5_lowest_30 : decode cX5_lowest 30 = .ok (.iload_n 1, 1) := by decide +kernel
theorem dX5_lowest_31 : decode cX5_lowest 31 = .ok (.ishl, 1) := by decide +kernel
theorem dX5_lowest_32 : decode cX5_lowest 32 = .ok (.iadd, 1) := by decide +kernel
theorem dX5_lowest_33 : decode cX5_lowest 33 = .ok (.istore 4, 2) := by decide +kernel
theorem dX5_lowest_35 : decode cX5_lowest 35 = .ok (.goto (-32), 3) := by decide +kernel
theorem dX5_lowest_38 : decode cX5_lowest 38 = .ok (.iconst (-1), 1) := by decide +kernel
theorem dX5_lowest_39 : decode cX5_lowest 39 = .ok (.ireturn, 1) := by decide +kernel
theorem dX5_earliest_0 : decode cX5_earliest 0 = .ok (.ldc 51, 2) := by decide +kernel
theorem dX5_earliest_2 : decode cX5_earliest 2 = .ok (.istore_n 3, 1) := by decide +kernel
theorem dX5_earliest_3 : decode cX5_earliest 3 = .ok (.iconst (-1), 1) := by decide +kernel
theorem dX5_earliest_4 : decode cX5_earliest 4 = .ok (.istore 4, 2) := by decide +kernel
theorem dX5_earliest_6 : decode cX5_earliest 6 = .ok (.iload 4, 2) := by decide +kernel
theorem dX5_earliest_8 : decode cX5_earliest 8 = .ok (.aload_n 0, 1) := by decide +kernel
theorem dX5_earliest_9 : decode cX5_earliest 9 = .ok (.getfield 9, 3) := by decide +kernel
theorem dX5_earliest_12 : decode cX5_earliest 12 = .ok (.iconst 1, 1) := by decide +kernel
theorem dX5_earliest_13 : decode cX5_earliest 13 = .ok (.iaload, 1) := by decide +kernel
theorem dX5_earliest_14 : decode cX5_earliest 14 = .ok (.aload_n 0, 1) := by decide +kernel
theorem dX5_earliest_15 : decode cX5_earliest 15 = .ok (.getfield 9, 3) := by decide +kernel
theorem dX5_earliest_18 : decode cX5_earliest 18 = .ok (.iconst 2, 1) := by decide +kernel
theorem dX5_earliest_19 : decode cX5_earliest 19 = .ok (.iaload, 1) := by decide +kernel
theorem dX5_earliest_20 : decode cX5_earliest 20 = .ok (.iadd, 1) := by decide +kernel
theorem dX5_earliest_21 : decode cX5_earliest 21 = .ok (.if_icmp .ge 138, 3) := by decide +kernel
theorem dX5_earliest_24 : decode cX5_earliest 24 = .ok (.aload_n 0, 1) := by decide +kernel
theorem dX5_earliest_25 : decode cX5_earliest 25 = .ok (.getfield 9, 3) := by decide +kernel
theorem dX5_earliest_28 : decode cX5_earliest 28 = .ok (.iconst 0, 1) := by decide +kernel
theorem dX5_earliest_29 : decode cX5_earliest 29 = .ok (.iaload, 1) := by decide +kernel
theorem dX5_earliest_30 : decode cX5_earliest 30 = .ok (.istore 5, 2) := by decide +kernel
theorem dX5_earliest_32 : decode cX5_earliest 32 = .ok (.iload 4, 2) := by decide +kernel
theorem dX5_earliest_34 : decode cX5_earliest 34 = .ok (.aload_n 0, 1) := by decide +kernel
theorem dX5_earliest_35 : decode cX5_earliest 35 = .ok (.getfield 9, 3) := by decide +kernel
theorem dX5_earliest_38 : decode cX5_earliest 38 = .ok (.iconst 1, 1) := by decide +kernel
theorem dX5_earliest_39 : decode cX5_earliest 39 = .ok (.iaload, 1) := by decide +kernel
theorem dX5_earliest_40 : decode cX5_earliest 40 = .ok (.if_icmp .lt 47, 3) := by decide +kernel
theorem dX5_earliest_43 : decode cX5_earliest 43 = .ok (.iload 4, 2) := by decide +kernel
theorem dX5_earliest_45 : decode cX5_earliest 45 = .ok (.aload_n 0, 1) := by decide +kernel
theorem dX5_earliest_46 : decode cX5_earliest 46 = .ok (.getfield 9, 3) := by decide +kernel
theorem dX5_earliest_49 : decode cX5_earliest 49 = .ok (.iconst 1, 1) := by decide +kernel
theorem dX5_earliest_50 : decode cX5_earliest 50 = .ok (.iaload, 1) := by decide +kernel
theorem dX5_earliest_51 : decode cX5_earliest 51 = .ok (.isub, 1) := by decide +kernel
theorem dX5_earliest_52 : decode cX5_earliest 52 = .ok (.istore 6, 2) := by decide +kernel
theorem dX5_earliest_54 : decode cX5_earliest 54 = .ok (.aload_n 0, 1) := by decide +kernel
theorem dX5_earliest_55 : decode cX5_earliest 55 = .ok (.iload 6, 2) := by decide +kernel
theorem dX5_earliest_57 : decode cX5_earliest 57 = .ok (.iconst 3, 1) := by decide +kernel
theorem dX5_earliest_58 : decode cX5_earliest 58 = .ok (.invokevirtual 42, 3) := by decide +kernel
theorem dX5_earliest_61 : decode cX5_earliest 61 = .ok (.ifCond .ne 6, 3) := by decide +kernel
theorem dX5_earliest_64 : decode cX5_earliest 64 = .ok (.goto 89, 3) := by decide +kernel
theorem dX5_earliest_67 : decode cX5_earliest 67 = .ok (.aload_n 0, 1) := by decide +kernel
theorem dX5_earliest_68 : decode cX5_earliest 68 = .ok (.iload 6, 2) := by decide +kernel
theorem dX5_earliest_70 : decode cX5_earliest 70 = .ok (.iconst 2, 1) := by decide +kernel
theorem dX5_earliest_71 : decode cX5_earliest 71 = .ok (.invokevirtual 42, 3) := by decide +kernel
theorem dX5_earliest_74 : decode cX5_earliest 74 = .ok (.aload_n 0, 1) := by decide +kernel
theorem dX5_earliest_75 : decode cX5_earliest 75 = .ok (.iload 6, 2) := by decide +kernel
theorem dX5_earliest_77 : decode cX5_earliest 77 = .ok (.iconst 3, 1) := by decide +kernel
theorem dX5_earliest_78 : decode cX5_earliest 78 = .ok (.invokevirtual 42, 3) := by decide +kernel
theorem dX5_earliest_81 : decode cX5_earliest 81 = .ok (.iadd, 1) := by decide +kernel
theorem dX5_earliest_82 : decode cX5_earliest 82 = .ok (.istore 5, 2) := by decide +kernel
theorem dX5_earliest_84 : decode cX5_earliest 84 = .ok (.goto 38, 3) := by decide +kernel
theorem dX5_earliest_87 : decode cX5_earliest 87 = .ok (.iload 4, 2) := by decide +kernel
theorem dX5_earliest_89 : decode cX5_earliest 89 = .ok (.ifCond .lt 33, 3) := by decide +kernel
theorem dX5_earliest_92 : decode cX5_earliest 92 = .ok (.aload_n 0, 1) := by decide +kernel
theorem dX5_earliest_93 : decode cX5_earliest 93 = .ok (.iload 4, 2) := by decide +kernel
theorem dX5_earliest_95 : decode cX5_earliest 95 = .ok (.invokevirtual 34, 3) := by decide +kernel
theorem dX5_earliest_98 : decode cX5_earliest 98 = .ok (.ifCond .ne 6, 3) := by decide +kernel
theorem dX5_earliest_101 : decode cX5_earliest 101 = .ok (.goto 52, 3) := by decide +kernel
theorem dX5_earliest_104 : decode cX5_earliest 104 = .ok (.aload_n 0, 1) := by decide +kernel
theorem dX5_earliest_105 : decode cX5_earliest 105 = .ok (.iload 4, 2) := by decide +kernel
theorem dX5_earliest_107 : decode cX5_earliest 107 = .ok (.bipush 6, 2) := by decide +kernel
theorem dX5_earliest_109 : decode cX5_earliest 109 = .ok (.invokevirtual 30, 3) := by decide +kernel
theorem dX5_earliest_112 : decode cX5_earliest 112 = .ok (.aload_n 0, 1) := by decide +kernel
theorem dX5_earliest_113 : decode cX5_earliest 113 = .ok (.iload 4, 2) := by decide +kernel
theorem dX5_earliest_115 : decode cX5_earliest 115 = .ok (.iconst 2, 1) := by decide +kernel
theorem dX5_earliest_116 : decode cX5_earliest 116 = .ok (.invokevirtual 30, 3) := by decide +kernel
theorem dX5_earliest_119 : decode cX5_earliest 119 = .ok (.iadd, 1) := by decide +kernel
theorem dX5_earliest_120 : decode cX5_earliest 120 = .ok (.istore 5, 2) := by decide +kernel
theorem dX5_earliest_122 : decode cX5_earliest 122 = .ok (.iload 5, 2) := by decide +kernel
theorem dX5_earliest_124 : decode cX5_earliest 124 = .ok (.aload_n 0, 1) := by decide +kernel
theorem dX5_earliest_125 : decode cX5_earliest 125 = .ok (.getfield 9, 3) := by decide +kernel
theorem dX5_earliest_128 : decode cX5_earliest 128 = .ok (.iconst 0, 1) := by decide +kernel
theorem dX5_earliest_129 : decode cX5_earliest 129 = .ok (.iaload, 1) := by decide +kernel
theorem dX5_earliest_130 : decode cX5_earliest 130 = .ok (.if_icmp .lt 23, 3) := by decide +kernel
theorem dX5_earliest_133 : decode cX5_earliest 133 = .ok (.iload 5, 2) := by decide +kernel
theorem dX5_earliest_135 : decode cX5_earliest 135 = .ok (.iload_n 3, 1) := by decide +kernel
theorem dX5_earliest_136 : decode cX5_earliest 136 = .ok (.if_icmp .ge 17, 3) := by decide +kernel
theorem dX5_earliest_139 : decode cX5_earliest 139 = .ok (.aload_n 0, 1) := by decide +kernel
theorem dX5_earliest_140 : decode cX5_earliest 140 = .ok (.iload_n 1, 1) := by decide +kernel
theorem dX5_earliest_141 : decode cX5_earliest 141 = .ok (.iload 5, 2) := by decide +kernel
theorem dX5_earliest_143 : decode cX5_earliest 143 = .ok (.iload_n 2, 1) := by decide +kernel
theorem dX5_earliest_144 : decode cX5_earliest 144 = .ok (.invokevirtual 52, 3) := by decide +kernel
theorem dX5_earliest_147 : decode cX5_earliest 147 = .ok (.ifCond .lt 6, 3) := by decide +kernel
theorem dX5_earliest_150 : decode cX5_earliest 150 = .ok (.iload 5, 2) := by decide +kernel
theorem dX5_earliest_152 : decode cX5_earliest 152 = .ok (.istore_n 3, 1) := by decide +kernel
theorem dX5_earliest_153 : decode cX5_earliest 153 = .ok (.iinc 4 1, 3) := by decide +kernel
theorem dX5_earliest_156 : decode cX5_earliest 156 = .ok (.goto (-150), 3) := by decide +kernel
theorem dX5_earliest_159 : decode cX5_earliest 159 = .ok (.iload_n 3, 1) := by decide +kernel
theorem dX5_earliest_160 : decode cX5_earliest 160 = .ok (.ireturn, 1) := by decide +kernel
theorem dX5_plans_0 : decode cX5_plans 0 = .ok (.aload_n 0, 1) := by decide +kernel
theorem dX5_plans_1 : decode cX5_plans 1 = .ok (.aload_n 0, 1) := by decide +kernel
theorem dX5_plans_2 : decode cX5_plans 2 = .ok (.iload_n 1, 1) := by decide +kernel
theorem dX5_plans_3 : decode cX5_plans 3 = .ok (.iconst 1, 1) := by decide +kernel
theorem dX5_plans_4 : decode cX5_plans 4 = .ok (.invokevirtual 30, 3) := by decide +kernel
theorem dX5_plans_7 : decode cX5_plans 7 = .ok (.aload_n 0, 1) := by decide +kernel
theorem dX5_plans_8 : decode cX5_plans 8 = .ok (.iload_n 1, 1) := by decide +kernel
theorem dX5_plans_9 : decode cX5_plans 9 = .ok (.iconst 2, 1) := by decide +kernel
theorem dX5_plans_10 : decode cX5_plans 10 = .ok (.invokevirtual 30, 3) := by decide +kernel
theorem dX5_plans_13 : decode cX5_plans 13 = .ok (.invokevirtual 56, 3) := by decide +kernel
theorem dX5_plans_16 : decode cX5_plans 16 = .ok (.istore_n 2, 1) := by decide +kernel
theorem dX5_plans_17 : decode cX5_plans 17 = .ok (.aload_n 0, 1) := by decide +kernel
theorem dX5_plans_18 : decode cX5_plans 18 = .ok (.iload_n 1, 1) := by decide +kernel
theorem dX5_plans_19 : decode cX5_plans 19 = .ok (.iconst 5, 1) := by decide +kernel
theorem dX5_plans_20 : decode cX5_plans 20 = .ok (.aload_n 0, 1) := by decide +kernel
theorem dX5_plans_21 : decode cX5_plans 21 = .ok (.aload_n 0, 1) := by decide +kernel
theorem dX5_plans_22 : decode cX5_plans 22 = .ok (.iload_n 1, 1) := by decide +kernel
theorem dX5_plans_23 : decode cX5_plans 23 = .ok (.iconst 1, 1) := by decide +kernel
theorem dX5_plans_24 : decode cX5_plans 24 = .ok (.invokevirtual 30, 3) := by decide +kernel
theorem dX5_plans_27 : decode cX5_plans 27 = .ok (.iload_n 2, 1) := by decide +kernel
theorem dX5_plans_28 : decode cX5_plans 28 = .ok (.aload_n 0, 1) := by decide +kernel
theorem dX5_plans_29 : decode cX5_plans 29 = .ok (.iload_n 1, 1) := by decide +kernel
theorem dX5_plans_30 : decode cX5_plans 30 = .ok (.iconst 2, 1) := by decide +kernel
theorem dX5_plans_31 : decode cX5_plans 31 = .ok (.invokevirtual 30, 3) := by decide +kernel
theorem dX5_plans_34 : decode cX5_plans 34 = .ok (.invokevirtual 52, 3) := by decide +kernel
theorem dX5_plans_37 : decode cX5_plans 37 = .ok (.invokevirtual 59, 3) := by decide +kernel
theorem dX5_plans_40 : decode cX5_plans 40 = .ok (.aload_n 0, 1) := by decide +kernel
theorem dX5_plans_41 : decode cX5_plans 41 = .ok (.iload_n 1, 1) := by decide +kernel
theorem dX5_plans_42 : decode cX5_plans 42 = .ok (.bipush 6, 2) := by decide +kernel
theorem dX5_plans_44 : decode cX5_plans 44 = .ok (.iload_n 2, 1) := by decide +kernel
theorem dX5_plans_45 : decode cX5_plans 45 = .ok (.invokevirtual 59, 3) := by decide +kernel
theorem dX5_plans_48 : decode cX5_plans 48 = .ok (.aload_n 0, 1) := by decide +kernel
theorem dX5_plans_49 : decode cX5_plans 49 = .ok (.iload_n 1, 1) := by decide +kernel
theorem dX5_plans_50 : decode cX5_plans 50 = .ok (.iconst 4, 1) := by decide +kernel
theorem dX5_plans_51 : decode cX5_plans 51 = .ok (.iconst 0, 1) := by decide +kernel
theorem dX5_plans_52 : decode cX5_plans 52 = .ok (.invokevirtual 59, 3) := by decide +kernel
theorem dX5_plans_55 : decode cX5_plans 55 = .ok (.return_, 1) := by decide +kernel
theorem dX5_usageOf_0 : decode cX5_usageOf 0 = .ok (.aload_n 0, 1) := by decide +kernel
theorem dX5_usageOf_1 : decode cX5_usageOf 1 = .ok (.iload_n 1, 1) := by decide +kernel
theorem dX5_usageOf_2 : decode cX5_usageOf 2 = .ok (.bipush 13, 2) := by decide +kernel
theorem dX5_usageOf_4 : decode cX5_usageOf 4 = .ok (.invokevirtual 30, 3) := by decide +kernel
theorem dX5_usageOf_7 : decode cX5_usageOf 7 = .ok (.aload_n 0, 1) := by decide +kernel
theorem dX5_usageOf_8 : decode cX5_usageOf 8 = .ok (.iload_n 1, 1) := by decide +kernel
theorem dX5_usageOf_9 : decode cX5_usageOf 9 = .ok (.iconst 4, 1) := by decide +kernel
theorem dX5_usageOf_10 : decode cX5_usageOf 10 = .ok (.invokevirtual 30, 3) := by decide +kernel
theorem dX5_usageOf_13 : decode cX5_usageOf 13 = .ok (.iconst 1, 1) := by decide +kernel
theorem dX5_usageOf_14 : decode cX5_usageOf 14 = .ok (.if_icmp .ne 20, 3) := by decide +kernel
theorem dX5_usageOf_17 : decode cX5_usageOf 17 = .ok (.aload_n 0, 1) := by decide +kernel
theorem dX5_usageOf_18 : decode cX5_usageOf 18 = .ok (.getfield 9, 3) := by decide +kernel
theorem dX5_usageOf_21 : decode cX5_usageOf 21 = .ok (.iconst 0, 1) := by decide +kernel
theorem dX5_usageOf_22 : decode cX5_usageOf 22 = .ok (.iaload, 1) := by decide +kernel
theorem dX5_usageOf_23 : decode cX5_usageOf 23 = .ok (.aload_n 0, 1) := by decide +kernel
theorem dX5_usageOf_24 : decode cX5_usageOf 24 = .ok (.iload_n 1, 1) := by decide +kernel
theorem dX5_usageOf_25 : decode cX5_usageOf 25 = .ok (.bipush 6, 2) := by decide +kernel
theorem dX5_usageOf_27 : decode cX5_usageOf 27 = .ok (.invokevirtual 30, 3) := by decide +kernel
theorem dX5_usageOf_30 : decode cX5_usageOf 30 = .ok (.isub, 1) := by decide +kernel
theorem dX5_usageOf_31 : decode cX5_usageOf 31 = .ok (.goto 4, 3) := by decide +kernel
theorem dX5_usageOf_34 : decode cX5_usageOf 34 = .ok (.iconst 0, 1) := by decide +kernel
theorem dX5_usageOf_35 : decode cX5_usageOf 35 = .ok (.iadd, 1) := by decide +kernel
theorem dX5_usageOf_36 : decode cX5_usageOf 36 = .ok (.istore_n 2, 1) := by decide +kernel
theorem dX5_usageOf_37 : decode cX5_usageOf 37 = .ok (.iload_n 2, 1) := by decide +kernel
theorem dX5_usageOf_38 : decode cX5_usageOf 38 = .ok (.aload_n 0, 1) := by decide +kernel
theorem dX5_usageOf_39 : decode cX5_usageOf 39 = .ok (.iload_n 1, 1) := by decide +kernel
theorem dX5_usageOf_40 : decode cX5_usageOf 40 = .ok (.iconst 1, 1) := by decide +kernel
theorem dX5_usageOf_41 : decode cX5_usageOf 41 = .ok (.invokevirtual 30, 3) := by decide +kernel
theorem dX5_usageOf_44 : decode cX5_usageOf 44 = .ok (.ishl, 1) := by decide +kernel
theorem dX5_usageOf_45 : decode cX5_usageOf 45 = .ok (.ireturn, 1) := by decide +kernel
theorem dX5_used_0 : decode cX5_used 0 = .ok (.iconst 0, 1) := by decide +kernel
theorem dX5_used_1 : decode cX5_used 1 = .ok (.istore_n 2, 1) := by decide +kernel
theorem dX5_used_2 : decode cX5_used 2 = .ok (.iconst 0, 1) := by decide +kernel
theorem dX5_used_3 : decode cX5_used 3 = .ok (.istore_n 3, 1) := by decide +kernel
theorem dX5_used_4 : decode cX5_used 4 = .ok (.iload_n 3, 1) := by decide +kernel
theorem dX5_used_5 : decode cX5_used 5 = .ok (.aload_n 0, 1) := by decide +kernel
theorem dX5_used_6 : decode cX5_used 6 = .ok (.getfield 9, 3) := by decide +kernel
theorem dX5_used_9 : decode cX5_used 9 = .ok (.iconst 1, 1) := by decide +kernel
theorem dX5_used_10 : decode cX5_used 10 = .ok (.iaload, 1) := by decide +kernel
theorem dX5_used_11 : decode cX5_used 11 = .ok (.if_icmp .ge 27, 3) := by decide +kernel
theorem dX5_used_14 : decode cX5_used 14 = .ok (.aload_n 0, 1) := by decide +kernel
theorem dX5_used_15 : decode cX5_used 15 = .ok (.iload_n 3, 1) := by decide +kernel
theorem dX5_used_16 : decode cX5_used 16 = .ok (.iconst 0, 1) := by decide +kernel
theorem dX5_used_17 : decode cX5_used 17 = .ok (.invokevirtual 30, 3) := by decide +kernel
theorem dX5_used_20 : decode cX5_used 20 = .ok (.iload_n 1, 1) := by decide +kernel
theorem dX5_used_21 : decode cX5_used 21 = .ok (.if_icmp .ne 11, 3) := by decide +kernel
theorem dX5_used_24 : decode cX5_used 24 = .ok (.iload_n 2, 1) := by decide +kernel
theorem dX5_used_25 : decode cX5_used 25 = .ok (.aload_n 0, 1) := by decide +kernel
theorem dX5_used_26 : decode cX5_used 26 = .ok (.iload_n 3, 1) := by decide +kernel
theorem dX5_used_27 : decode cX5_used 27 = .ok (.invokevirtual 63, 3) := by decide +kernel
theorem dX5_used_30 : decode cX5_used 30 = .ok (.iadd, 1) := by decide +kernel
theorem dX5_used_31 : decode cX5_used 31 = .ok (.istore_n 2, 1) := by decide +kernel
theorem dX5_used_32 : decode cX5_used 32 = .ok (.iinc 3 1, 3) := by decide +kernel
theorem dX5_used_35 : decode cX5_used 35 = .ok (.goto (-31), 3) := by decide +kernel
theorem dX5_used_38 : decode cX5_used 38 = .ok (.iload_n 2, 1) := by decide +kernel
theorem dX5_used_39 : decode cX5_used 39 = .ok (.ireturn, 1) := by decide +kernel
theorem dX5_goesAhead_0 : decode cX5_goesAhead 0 = .ok (.aload_n 0, 1) := by decide +kernel
theorem dX5_goesAhead_1 : decode cX5_goesAhead 1 = .ok (.getfield 9, 3) := by decide +kernel
theorem dX5_goesAhead_4 : decode cX5_goesAhead 4 = .ok (.iconst 3, 1) := by decide +kernel
theorem dX5_goesAhead_5 : decode cX5_goesAhead 5 = .ok (.iaload, 1) := by decide +kernel
theorem dX5_goesAhead_6 : decode cX5_goesAhead 6 = .ok (.iconst 1, 1) := by decide +kernel
theorem dX5_goesAhead_7 : decode cX5_goesAhead 7 = .ok (.if_icmp .ne 59, 3) := by decide +kernel
theorem dX5_goesAhead_10 : decode cX5_goesAhead 10 = .ok (.aload_n 0, 1) := by decide +kernel
theorem dX5_goesAhead_11 : decode cX5_goesAhead 11 = .ok (.getfield 19, 3) := by decide +kernel
theorem dX5_goesAhead_14 : decode cX5_goesAhead 14 = .ok (.aload_n 0, 1) := by decide +kernel
theorem dX5_goesAhead_15 : decode cX5_goesAhead 15 = .ok (.iload_n 1, 1) := by decide +kernel
theorem dX5_goesAhead_16 : decode cX5_goesAhead 16 = .ok (.iconst 0, 1) := by decide +kernel
theorem dX5_goesAhead_17 : decode cX5_goesAhead 17 = .ok (.invokevirtual 30, 3) := by decide +kernel
theorem dX5_goesAhead_20 : decode cX5_goesAhead 20 = .ok (.iaload, 1) := by decide +kernel
theorem dX5_goesAhead_21 : decode cX5_goesAhead 21 = .ok (.aload_n 0, 1) := by decide +kernel
theorem dX5_goesAhead_22 : decode cX5_goesAhead 22 = .ok (.getfield 19, 3) := by decide +kernel
theorem dX5_goesAhead_25 : decode cX5_goesAhead 25 = .ok (.aload_n 0, 1) := by decide +kernel
theorem dX5_goesAhead_26 : decode cX5_goesAhead 26 = .ok (.iload_n 2, 1) := by decide +kernel
theorem dX5_goesAhead_27 : decode cX5_goesAhead 27 = .ok (.iconst 0, 1) := by decide +kernel
theorem dX5_goesAhead_28 : decode cX5_goesAhead 28 = .ok (.invokevirtual 30, 3) := by decide +kernel
theorem dX5_goesAhead_31 : decode cX5_goesAhead 31 = .ok (.iaload, 1) := by decide +kernel
theorem dX5_goesAhead_32 : decode cX5_goesAhead 32 = .ok (.if_icmp .eq 34, 3) := by decide +kernel
theorem dX5_goesAhead_35 : decode cX5_goesAhead 35 = .ok (.aload_n 0, 1) := by decide +kernel
theorem dX5_goesAhead_36 : decode cX5_goesAhead 36 = .ok (.getfield 19, 3) := by decide +kernel
theorem dX5_goesAhead_39 : decode cX5_goesAhead 39 = .ok (.aload_n 0, 1) := by decide +kernel
theorem dX5_goesAhead_40 : decode cX5_goesAhead 40 = .ok (.iload_n 1, 1) := by decide +kernel
theorem dX5_goesAhead_41 : decode cX5_goesAhead 41 = .ok (.iconst 0, 1) := by decide +kernel
theorem dX5_goesAhead_42 : decode cX5_goesAhead 42 = .ok (.invokevirtual 30, 3) := by decide +kernel
theorem dX5_goesAhead_45 : decode cX5_goesAhead 45 = .ok (.iaload, 1) := by decide +kernel
theorem dX5_goesAhead_46 : decode cX5_goesAhead 46 = .ok (.aload_n 0, 1) := by decide +kernel
theorem dX5_goesAhead_47 : decode cX5_goesAhead 47 = .ok (.getfield 19, 3) := by decide +kernel
theorem dX5_goesAhead_50 : decode cX5_goesAhead 50 = .ok (.aload_n 0, 1) := by decide +kernel
theorem dX5_goesAhead_51 : decode cX5_goesAhead 51 = .ok (.iload_n 2, 1) := by decide +kernel
theorem dX5_goesAhead_52 : decode cX5_goesAhead 52 = .ok (.iconst 0, 1) := by decide +kernel
theorem dX5_goesAhead_53 : decode cX5_goesAhead 53 = .ok (.invokevirtual 30, 3) := by decide +kernel
theorem dX5_goesAhead_56 : decode cX5_goesAhead 56 = .ok (.iaload, 1) := by decide +kernel
theorem dX5_goesAhead_57 : decode cX5_goesAhead 57 = .ok (.if_icmp .ge 7, 3) := by decide +kernel
theorem dX5_goesAhead_60 : decode cX5_goesAhead 60 = .ok (.iconst 1, 1) := by decide +kernel
theorem dX5_goesAhead_61 : decode cX5_goesAhead 61 = .ok (.goto 4, 3) := by decide +kernel
theorem dX5_goesAhead_64 : decode cX5_goesAhead 64 = .ok (.iconst 0, 1) := by decide +kernel
theorem dX5_goesAhead_65 : decode cX5_goesAhead 65 = .ok (.ireturn, 1) := by decide +kernel
theorem dX5_goesAhead_66 : decode cX5_goesAhead 66 = .ok (.aload_n 0, 1) := by decide +kernel
theorem dX5_goesAhead_67 : decode cX5_goesAhead 67 = .ok (.iload_n 1, 1) := by decide +kernel
theorem dX5_goesAhead_68 : decode cX5_goesAhead 68 = .ok (.bipush 6, 2) := by decide +kernel
theorem dX5_goesAhead_70 : decode cX5_goesAhead 70 = .ok (.invokevirtual 30, 3) := by decide +kernel
theorem dX5_goesAhead_73 : decode cX5_goesAhead 73 = .ok (.aload_n 0, 1) := by decide +kernel
theorem dX5_goesAhead_74 : decode cX5_goesAhead 74 = .ok (.iload_n 2, 1) := by decide +kernel
theorem dX5_goesAhead_75 : decode cX5_goesAhead 75 = .ok (.bipush 6, 2) := by decide +kernel
theorem dX5_goesAhead_77 : decode cX5_goesAhead 77 = .ok (.invokevirtual 30, 3) := by decide +kernel
theorem dX5_goesAhead_80 : decode cX5_goesAhead 80 = .ok (.if_icmp .eq 28, 3) := by decide +kernel
theorem dX5_goesAhead_83 : decode cX5_goesAhead 83 = .ok (.aload_n 0, 1) := by decide +kernel
theorem dX5_goesAhead_84 : decode cX5_goesAhead 84 = .ok (.iload_n 1, 1) := by decide +kernel
theorem dX5_goesAhead_85 : decode cX5_goesAhead 85 = .ok (.bipush 6, 2) := by decide +kernel
theorem dX5_goesAhead_87 : decode cX5_goesAhead 87 = .ok (.invokevirtual 30, 3) := by decide +kernel
theorem dX5_goesAhead_90 : decode cX5_goesAhead 90 = .ok (.aload_n 0, 1) := by decide +kernel
theorem dX5_goesAhead_91 : decode cX5_goesAhead 91 = .ok (.iload_n 2, 1) := by decide +kernel
theorem dX5_goesAhead_92 : decode cX5_goesAhead 92 = .ok (.bipush 6, 2) := by decide +kernel
theorem dX5_goesAhead_94 : decode cX5_goesAhead 94 = .ok (.invokevirtual 30, 3) := by decide +kernel
theorem dX5_goesAhead_97 : decode cX5_goesAhead 97 = .ok (.if_icmp .ge 7, 3) := by decide +kernel
theorem dX5_goesAhead_100 : decode cX5_goesAhead 100 = .ok (.iconst 1, 1) := by decide +kernel
theorem dX5_goesAhead_101 : decode cX5_goesAhead 101 = .ok (.goto 17, 3) := by decide +kernel
theorem dX5_goesAhead_104 : decode cX5_goesAhead 104 = .ok (.iconst 0, 1) := by decide +kernel
theorem dX5_goesAhead_105 : decode cX5_goesAhead 105 = .ok (.goto 13, 3) := by decide +kernel
theorem dX5_goesAhead_108 : decode cX5_goesAhead 108 = .ok (.iload_n 1, 1) := by decide +kernel
theorem dX5_goesAhead_109 : decode cX5_goesAhead 109 = .ok (.iload_n 2, 1) := by decide +kernel
theorem dX5_goesAhead_110 : decode cX5_goesAhead 110 = .ok (.if_icmp .ge 7, 3) := by decide +kernel
theorem dX5_goesAhead_113 : decode cX5_goesAhead 113 = .ok (.iconst 1, 1) := by decide +kernel
theorem dX5_goesAhead_114 : decode cX5_goesAhead 114 = .ok (.goto 4, 3) := by decide +kernel
theorem dX5_goesAhead_117 : decode cX5_goesAhead 117 = .ok (.iconst 0, 1) := by decide +kernel
theorem dX5_goesAhead_118 : decode cX5_goesAhead 118 = .ok (.ireturn, 1) := by decide +kernel
theorem dX5_replans_0 : decode cX5_replans 0 = .ok (.iconst 0, 1) := by decide +kernel
theorem dX5_replans_1 : decode cX5_replans 1 = .ok (.istore_n 1, 1) := by decide +kernel
theorem dX5_replans_2 : decode cX5_replans 2 = .ok (.iload_n 1, 1) := by decide +kernel
theorem dX5_replans_3 : decode cX5_replans 3 = .ok (.iconst 4, 1) := by decide +kernel
theorem dX5_replans_4 : decode cX5_replans 4 = .ok (.if_icmp .ge 20, 3) := by decide +kernel
theorem dX5_replans_7 : decode cX5_replans 7 = .ok (.aload_n 0, 1) := by decide +kernel
theorem dX5_replans_8 : decode cX5_replans 8 = .ok (.getfield 19, 3) := by decide +kernel
theorem dX5_replans_11 : decode cX5_replans 11 = .ok (.iload_n 1, 1) := by decide +kernel
theorem dX5_replans_12 : decode cX5_replans 12 = .ok (.aload_n 0, 1) := by decide +kernel
theorem dX5_replans_13 : decode cX5_replans 13 = .ok (.iload_n 1, 1) := by decide +kernel
theorem dX5_replans_14 : decode cX5_replans 14 = .ok (.invokevirtual 67, 3) := by decide +kernel
theorem dX5_replans_17 : decode cX5_replans 17 = .ok (.iastore, 1) := by decide +kernel
theorem dX5_replans_18 : decode cX5_replans 18 = .ok (.iinc 1 1, 3) := by decide +kernel
theorem dX5_replans_21 : decode cX5_replans 21 = .ok (.goto (-19), 3) := by decide +kernel
theorem dX5_replans_24 : decode cX5_replans 24 = .ok (.iconst 0, 1) := by decide +kernel
theorem dX5_replans_25 : decode cX5_replans 25 = .ok (.istore_n 1, 1) := by decide +kernel
theorem dX5_replans_26 : decode cX5_replans 26 = .ok (.iconst 0, 1) := by decide +kernel
theorem dX5_replans_27 : decode cX5_replans 27 = .ok (.istore_n 2, 1) := by decide +kernel
theorem dX5_replans_28 : decode cX5_replans 28 = .ok (.iload_n 2, 1) := by decide +kernel
theorem dX5_replans_29 : decode cX5_replans 29 = .ok (.aload_n 0, 1) := by decide +kernel
theorem dX5_replans_30 : decode cX5_replans 30 = .ok (.getfield 9, 3) := by decide +kernel
theorem dX5_replans_33 : decode cX5_replans 33 = .ok (.iconst 1, 1) := by decide +kernel
theorem dX5_replans_34 : decode cX5_replans 34 = .ok (.iaload, 1) := by decide +kernel
theorem dX5_replans_35 : decode cX5_replans 35 = .ok (.if_icmp .ge 73, 3) := by decide +kernel
theorem dX5_replans_38 : decode cX5_replans 38 = .ok (.aload_n 0, 1) := by decide +kernel
theorem dX5_replans_39 : decode cX5_replans 39 = .ok (.iload_n 2, 1) := by decide +kernel
theorem dX5_replans_40 : decode cX5_replans 40 = .ok (.iconst 4, 1) := by decide +kernel
theorem dX5_replans_41 : decode cX5_replans 41 = .ok (.invokevirtual 30, 3) := by decide +kernel
theorem dX5_replans_44 : decode cX5_replans 44 = .ok (.ifCond .eq 6, 3) := by decide +kernel
theorem dX5_replans_47 : decode cX5_replans 47 = .ok (.goto 55, 3) := by decide +kernel
theorem dX5_replans_50 : decode cX5_replans 50 = .ok (.iload_n 1, 1) := by decide +kernel
theorem dX5_replans_51 : decode cX5_replans 51 = .ok (.iinc 1 1, 3) := by decide +kernel
theorem dX5_replans_54 : decode cX5_replans 54 = .ok (.istore_n 3, 1) := by decide +kernel
theorem dX5_replans_55 : decode cX5_replans 55 = .ok (.iload_n 3, 1) := by decide +kernel
theorem dX5_replans_56 : decode cX5_replans 56 = .ok (.ifCond .le 39, 3) := by decide +kernel
theorem dX5_replans_59 : decode cX5_replans 59 = .ok (.aload_n 0, 1) := by decide +kernel
theorem dX5_replans_60 : decode cX5_replans 60 = .ok (.iload_n 2, 1) := by decide +kernel
theorem dX5_replans_61 : decode cX5_replans 61 = .ok (.aload_n 0, 1) := by decide +kernel
theorem dX5_replans_62 : decode cX5_replans 62 = .ok (.getfield 16, 3) := by decide +kernel
theorem dX5_replans_65 : decode cX5_replans 65 = .ok (.iload_n 3, 1) := by decide +kernel
theorem dX5_replans_66 : decode cX5_replans 66 = .ok (.iconst 1, 1) := by decide +kernel
theorem dX5_replans_67 : decode cX5_replans 67 = .ok (.isub, 1) := by decide +kernel
theorem dX5_replans_68 : decode cX5_replans 68 = .ok (.iaload, 1) := by decide +kernel
theorem dX5_replans_69 : decode cX5_replans 69 = .ok (.invokevirtual 70, 3) := by decide +kernel
theorem dX5_replans_72 : decode cX5_replans 72 = .ok (.ifCond .eq 23, 3) := by decide +kernel
theorem dX5_replans_75 : decode cX5_replans 75 = .ok (.aload_n 0, 1) := by decide +kernel
theorem dX5_replans_76 : decode cX5_replans 76 = .ok (.getfield 16, 3) := by decide +kernel
theorem dX5_replans_79 : decode cX5_replans 79 = .ok (.iload_n 3, 1) := by decide +kernel
theorem dX5_replans_80 : decode cX5_replans 80 = .ok (.aload_n 0, 1) := by decide +kernel
theorem dX5_replans_81 : decode cX5_replans 81 = .ok (.getfield 16, 3) := by decide +kernel
theorem dX5_replans_84 : decode cX5_replans 84 = .ok (.iload_n 3, 1) := by decide +kernel
theorem dX5_replans_85 : decode cX5_replans 85 = .ok (.iconst 1, 1) := by decide +kernel
theorem dX5_replans_86 : decode cX5_replans 86 = .ok (.isub, 1) := by decide +kernel
theorem dX5_replans_87 : decode cX5_replans 87 = .ok (.iaload, 1) := by decide +kernel
theorem dX5_replans_88 : decode cX5_replans 88 = .ok (.iastore, 1) := by decide +kernel
theorem dX5_replans_89 : decode cX5_replans 89 = .ok (.iinc 3 (-1), 3) := by decide +kernel
theorem dX5_replans_92 : decode cX5_replans 92 = .ok (.goto (-37), 3) := by decide +kernel
theorem dX5_replans_95 : decode cX5_replans 95 = .ok (.aload_n 0, 1) := by decide +kernel
theorem dX5_replans_96 : decode cX5_replans 96 = .ok (.getfield 16, 3) := by decide +kernel
theorem dX5_replans_99 : decode cX5_replans 99 = .ok (.iload_n 3, 1) := by decide +kernel
theorem dX5_replans_100 : decode cX5_replans 100 = .ok (.iload_n 2, 1) := by decide +kernel
theorem dX5_replans_101 : decode cX5_replans 101 = .ok (.iastore, 1) := by decide +kernel
theorem dX5_replans_102 : decode cX5_replans 102 = .ok (.iinc 2 1, 3) := by decide +kernel
theorem dX5_replans_105 : decode cX5_replans 105 = .ok (.goto (-77), 3) := by decide +kernel
theorem dX5_replans_108 : decode cX5_replans 108 = .ok (.iconst 0, 1) := by decide +kernel
theorem dX5_replans_109 : decode cX5_replans 109 = .ok (.istore_n 2, 1) := by decide +kernel
theorem dX5_replans_110 : decode cX5_replans 110 = .ok (.iload_n 2, 1) := by decide +kernel
theorem dX5_replans_111 : decode cX5_replans 111 = .ok (.iload_n 1, 1) := by decide +kernel
theorem dX5_replans_112 : decode cX5_replans 112 = .ok (.if_icmp .ge 55, 3) := by decide +kernel
theorem dX5_replans_115 : decode cX5_replans 115 = .ok (.aload_n 0, 1) := by decide +kernel
theorem dX5_replans_116 : decode cX5_replans 116 = .ok (.getfield 16, 3) := by decide +kernel
theorem dX5_replans_119 : decode cX5_replans 119 = .ok (.iload_n 2, 1) := by decide +kernel
theorem dX5_replans_120 : decode cX5_replans 120 = .ok (.iaload, 1) := by decide +kernel
theorem dX5_replans_121 : decode cX5_replans 121 = .ok (.istore_n 3, 1) := by decide +kernel
theorem dX5_replans_122 : decode cX5_replans 122 = .ok (.aload_n 0, 1) := by decide +kernel
theorem dX5_replans_123 : decode cX5_replans 123 = .ok (.iload_n 3, 1) := by decide +kernel
theorem dX5_replans_124 : decode cX5_replans 124 = .ok (.bipush 6, 2) := by decide +kernel
theorem dX5_replans_126 : decode cX5_replans 126 = .ok (.invokevirtual 30, 3) := by decide +kernel
theorem dX5_replans_129 : decode cX5_replans 129 = .ok (.istore 4, 2) := by decide +kernel
theorem dX5_replans_131 : decode cX5_replans 131 = .ok (.aload_n 0, 1) := by decide +kernel
theorem dX5_replans_132 : decode cX5_replans 132 = .ok (.iload_n 3, 1) := by decide +kernel
theorem dX5_replans_133 : decode cX5_replans 133 = .ok (.iconst 4, 1) := by decide +kernel
theorem dX5_replans_134 : decode cX5_replans 134 = .ok (.iconst 4, 1) := by decide +kernel
theorem dX5_replans_135 : decode cX5_replans 135 = .ok (.invokevirtual 59, 3) := by decide +kernel
theorem dX5_replans_138 : decode cX5_replans 138 = .ok (.aload_n 0, 1) := by decide +kernel
theorem dX5_replans_139 : decode cX5_replans 139 = .ok (.iload_n 3, 1) := by decide +kernel
theorem dX5_replans_140 : decode cX5_replans 140 = .ok (.invokevirtual 74, 3) := by decide +kernel
theorem dX5_replans_143 : decode cX5_replans 143 = .ok (.aload_n 0, 1) := by decide +kernel
theorem dX5_replans_144 : decode cX5_replans 144 = .ok (.iload_n 3, 1) := by decide +kernel
theorem dX5_replans_145 : decode cX5_replans 145 = .ok (.bipush 6, 2) := by decide +kernel
theorem dX5_replans_147 : decode cX5_replans 147 = .ok (.invokevirtual 30, 3) := by decide +kernel
theorem dX5_replans_150 : decode cX5_replans 150 = .ok (.iload 4, 2) := by decide +kernel
theorem dX5_replans_152 : decode cX5_replans 152 = .ok (.if_icmp .ge 9, 3) := by decide +kernel
theorem dX5_replans_155 : decode cX5_replans 155 = .ok (.aload_n 0, 1) := by decide +kernel
theorem dX5_replans_156 : decode cX5_replans 156 = .ok (.iconst 5, 1) := by decide +kernel
theorem dX5_replans_157 : decode cX5_replans 157 = .ok (.iload_n 3, 1) := by decide +kernel
theorem dX5_replans_158 : decode cX5_replans 158 = .ok (.invokevirtual 78, 3) := by decide +kernel
theorem dX5_replans_161 : decode cX5_replans 161 = .ok (.iinc 2 1, 3) := by decide +kernel
theorem dX5_replans_164 : decode cX5_replans 164 = .ok (.goto (-54), 3) := by decide +kernel
theorem dX5_replans_167 : decode cX5_replans 167 = .ok (.return_, 1) := by decide +kernel
theorem dX5_block_0 : decode cX5_block 0 = .ok (.bipush 32, 2) := by decide +kernel
theorem dX5_block_2 : decode cX5_block 2 = .ok (.iload_n 0, 1) := by decide +kernel
theorem dX5_block_3 : decode cX5_block 3 = .ok (.ishr, 1) := by decide +kernel
theorem dX5_block_4 : decode cX5_block 4 = .ok (.iload_n 1, 1) := by decide +kernel
theorem dX5_block_5 : decode cX5_block 5 = .ok (.iload_n 0, 1) := by decide +kernel
theorem dX5_block_6 : decode cX5_block 6 = .ok (.ishr, 1) := by decide +kernel
theorem dX5_block_7 : decode cX5_block 7 = .ok (.iadd, 1) := by decide +kernel
theorem dX5_block_8 : decode cX5_block 8 = .ok (.ireturn, 1) := by decide +kernel
theorem dX5_starts_0 : decode cX5_starts 0 = .ok (.iconst 0, 1) := by decide +kernel
theorem dX5_starts_1 : decode cX5_starts 1 = .ok (.istore_n 1, 1) := by decide +kernel
theorem dX5_starts_2 : decode cX5_starts 2 = .ok (.iload_n 1, 1) := by decide +kernel
theorem dX5_starts_3 : decode cX5_starts 3 = .ok (.aload_n 0, 1) := by decide +kernel
theorem dX5_starts_4 : decode cX5_starts 4 = .ok (.getfield 9, 3) := by decide +kernel
theorem dX5_starts_7 : decode cX5_starts 7 = .ok (.iconst 1, 1) := by decide +kernel
theorem dX5_starts_8 : decode cX5_starts 8 = .ok (.iaload, 1) := by decide +kernel
theorem dX5_starts_9 : decode cX5_starts 9 = .ok (.if_icmp .ge 101, 3) := by decide +kernel
theorem dX5_starts_12 : decode cX5_starts 12 = .ok (.aload_n 0, 1) := by decide +kernel
theorem dX5_starts_13 : decode cX5_starts 13 = .ok (.iload_n 1, 1) := by decide +kernel
theorem dX5_starts_14 : decode cX5_starts 14 = .ok (.iconst 4, 1) := by decide +kernel
theorem dX5_starts_15 : decode cX5_starts 15 = .ok (.invokevirtual 30, 3) := by decide +kernel
theorem dX5_starts_18 : decode cX5_starts 18 = .ok (.ifCond .ne 86, 3) := by decide +kernel
theorem dX5_starts_21 : decode cX5_starts 21 = .ok (.aload_n 0, 1) := by decide +kernel
theorem dX5_starts_22 : decode cX5_starts 22 = .ok (.iload_n 1, 1) := by decide +kernel
theorem dX5_starts_23 : decode cX5_starts 23 = .ok (.bipush 6, 2) := by decide +kernel
theorem dX5_starts_25 : decode cX5_starts 25 = .ok (.invokevirtual 30, 3) := by decide +kernel
theorem dX5_starts_28 : decode cX5_starts 28 = .ok (.aload_n 0, 1) := by decide +kernel
theorem dX5_starts_29 : decode cX5_starts 29 = .ok (.getfield 9, 3) := by decide +kernel
theorem dX5_starts_32 : decode cX5_starts 32 = .ok (.iconst 0, 1) := by decide +kernel
theorem dX5_starts_33 : decode cX5_starts 33 = .ok (.iaload, 1) := by decide +kernel
theorem dX5_starts_34 : decode cX5_starts 34 = .ok (.if_icmp .eq 6, 3) := by decide +kernel
theorem dX5_starts_37 : decode cX5_starts 37 = .ok (.goto 67, 3) := by decide +kernel
theorem dX5_starts_40 : decode cX5_starts 40 = .ok (.aload_n 0, 1) := by decide +kernel
theorem dX5_starts_41 : decode cX5_starts 41 = .ok (.iload_n 1, 1) := by decide +kernel
theorem dX5_starts_42 : decode cX5_starts 42 = .ok (.iconst 4, 1) := by decide +kernel
theorem dX5_starts_43 : decode cX5_starts 43 = .ok (.iconst 1, 1) := by decide +kernel
theorem dX5_starts_44 : decode cX5_starts 44 = .ok (.invokevirtual 59, 3) := by decide +kernel
theorem dX5_starts_47 : decode cX5_starts 47 = .ok (.aload_n 0, 1) := by decide +kernel
theorem dX5_starts_48 : decode cX5_starts 48 = .ok (.iload_n 1, 1) := by decide +kernel
theorem dX5_starts_49 : decode cX5_starts 49 = .ok (.bipush 12, 2) := by decide +kernel
theorem dX5_starts_51 : decode cX5_starts 51 = .ok (.invokevirtual 30, 3) := by decide +kernel
theorem dX5_starts_54 : decode cX5_starts 54 = .ok (.ifCond .ge 16, 3) := by decide +kernel
theorem dX5_starts_57 : decode cX5_starts 57 = .ok (.aload_n 0, 1) := by decide +kernel
theorem dX5_starts_58 : decode cX5_starts 58 = .ok (.iload_n 1, 1) := by decide +kernel
theorem dX5_starts_59 : decode cX5_starts 59 = .ok (.bipush 12, 2) := by decide +kernel
theorem dX5_starts_61 : decode cX5_starts 61 = .ok (.aload_n 0, 1) := by decide +kernel
theorem dX5_starts_62 : decode cX5_starts 62 = .ok (.getfield 9, 3) := by decide +kernel
theorem dX5_starts_65 : decode cX5_starts 65 = .ok (.iconst 0, 1) := by decide +kernel
theorem dX5_starts_66 : decode cX5_starts 66 = .ok (.iaload, 1) := by decide +kernel
theorem dX5_starts_67 : decode cX5_starts 67 = .ok (.invokevirtual 59, 3) := by decide +kernel
theorem dX5_starts_70 : decode cX5_starts 70 = .ok (.aload_n 0, 1) := by decide +kernel
theorem dX5_starts_71 : decode cX5_starts 71 = .ok (.getfield 9, 3) := by decide +kernel
theorem dX5_starts_74 : decode cX5_starts 74 = .ok (.sipush 545, 3) := by decide +kernel
theorem dX5_starts_77 : decode cX5_starts 77 = .ok (.aload_n 0, 1) := by decide +kernel
theorem dX5_starts_78 : decode cX5_starts 78 = .ok (.iload_n 1, 1) := by decide +kernel
theorem dX5_starts_79 : decode cX5_starts 79 = .ok (.iconst 1, 1) := by decide +kernel
theorem dX5_starts_80 : decode cX5_starts 80 = .ok (.invokevirtual 30, 3) := by decide +kernel
theorem dX5_starts_83 : decode cX5_starts 83 = .ok (.aload_n 0, 1) := by decide +kernel
theorem dX5_starts_84 : decode cX5_starts 84 = .ok (.iload_n 1, 1) := by decide +kernel
theorem dX5_starts_85 : decode cX5_starts 85 = .ok (.iconst 5, 1) := by decide +kernel
theorem dX5_starts_86 : decode cX5_starts 86 = .ok (.invokevirtual 30, 3) := by decide +kernel
theorem dX5_starts_89 : decode cX5_starts 89 = .ok (.invokestatic 82, 3) := by decide +kernel
theorem dX5_starts_92 : decode cX5_starts 92 = .ok (.iadd, 1) := by decide +kernel
theorem dX5_starts_93 : decode cX5_starts 93 = .ok (.dup2, 1) := by decide +kernel
theorem dX5_starts_94 : decode cX5_starts 94 = .ok (.iaload, 1) := by decide +kernel
theorem dX5_starts_95 : decode cX5_starts 95 = .ok (.iconst 1, 1) := by decide +kernel
theorem dX5_starts_96 : decode cX5_starts 96 = .ok (.iadd, 1) := by decide +kernel
theorem dX5_starts_97 : decode cX5_starts 97 = .ok (.iastore, 1) := by decide +kernel
theorem dX5_starts_98 : decode cX5_starts 98 = .ok (.aload_n 0, 1) := by decide +kernel
theorem dX5_starts_99 : decode cX5_starts 99 = .ok (.iconst 1, 1) := by decide +kernel
theorem dX5_starts_100 : decode cX5_starts 100 = .ok (.iload_n 1, 1) := by decide +kernel
theorem dX5_starts_101 : decode cX5_starts 101 = .ok (.invokevirtual 78, 3) := by decide +kernel
theorem dX5_starts_104 : decode cX5_starts 104 = .ok (.iinc 1 1, 3) := by decide +kernel
theorem dX5_starts_107 : decode cX5_starts 107 = .ok (.goto (-105), 3) := by decide +kernel
theorem dX5_starts_110 : decode cX5_starts 110 = .ok (.return_, 1) := by decide +kernel
theorem dX5_submit_0 : decode cX5_submit 0 = .ok (.aload_n 0, 1) := by decide +kernel
theorem dX5_submit_1 : decode cX5_submit 1 = .ok (.iconst 0, 1) := by decide +kernel
theorem dX5_submit_2 : decode cX5_submit 2 = .ok (.putfield 22, 3) := by decide +kernel
theorem dX5_submit_5 : decode cX5_submit 5 = .ok (.iload_n 1, 1) := by decide +kernel
theorem dX5_submit_6 : decode cX5_submit 6 = .ok (.iconst 0, 1) := by decide +kernel
theorem dX5_submit_7 : decode cX5_submit 7 = .ok (.iconst 3, 1) := by decide +kernel
theorem dX5_submit_8 : decode cX5_submit 8 = .ok (.invokestatic 26, 3) := by decide +kernel
theorem dX5_submit_11 : decode cX5_submit 11 = .ok (.ifCond .eq 32, 3) := by decide +kernel
theorem dX5_submit_14 : decode cX5_submit 14 = .ok (.iload_n 2, 1) := by decide +kernel
theorem dX5_submit_15 : decode cX5_submit 15 = .ok (.iconst 0, 1) := by decide +kernel
theorem dX5_submit_16 : decode cX5_submit 16 = .ok (.iconst 5, 1) := by decide +kernel
theorem dX5_submit_17 : decode cX5_submit 17 = .ok (.invokestatic 26, 3) := by decide +kernel
theorem dX5_submit_20 : decode cX5_submit 20 = .ok (.ifCond .eq 23, 3) := by decide +kernel
theorem dX5_submit_23 : decode cX5_submit 23 = .ok (.iload_n 3, 1) := by decide +kernel
theorem dX5_submit_24 : decode cX5_submit 24 = .ok (.iconst 1, 1) := by decide +kernel
theorem dX5_submit_25 : decode cX5_submit 25 = .ok (.bipush 40, 2) := by decide +kernel
theorem dX5_submit_27 : decode cX5_submit 27 = .ok (.invokestatic 26, 3) := by decide +kernel
theorem dX5_submit_30 : decode cX5_submit 30 = .ok (.ifCond .eq 13, 3) := by decide +kernel
theorem dX5_submit_33 : decode cX5_submit 33 = .ok (.iload 4, 2) := by decide +kernel
theorem dX5_submit_35 : decode cX5_submit 35 = .ok (.iconst 1, 1) := by decide +kernel
theorem dX5_submit_36 : decode cX5_submit 36 = .ok (.iload_n 3, 1) := by decide +kernel
theorem dX5_submit_37 : decode cX5_submit 37 = .ok (.invokestatic 26, 3) := by decide +kernel
theorem dX5_submit_40 : decode cX5_submit 40 = .ok (.ifCond .ne 9, 3) := by decide +kernel
theorem dX5_submit_43 : decode cX5_submit 43 = .ok (.aload_n 0, 1) := by decide +kernel
theorem dX5_submit_44 : decode cX5_submit 44 = .ok (.iconst 1, 1) := by decide +kernel
theorem dX5_submit_45 : decode cX5_submit 45 = .ok (.invokevirtual 85, 3) := by decide +kernel
theorem dX5_submit_48 : decode cX5_submit 48 = .ok (.ireturn, 1) := by decide +kernel
theorem dX5_submit_49 : decode cX5_submit 49 = .ok (.aload_n 0, 1) := by decide +kernel
theorem dX5_submit_50 : decode cX5_submit 50 = .ok (.getfield 9, 3) := by decide +kernel
theorem dX5_submit_53 : decode cX5_submit 53 = .ok (.iconst 1, 1) := by decide +kernel
theorem dX5_submit_54 : decode cX5_submit 54 = .ok (.iaload, 1) := by decide +kernel
theorem dX5_submit_55 : decode cX5_submit 55 = .ok (.bipush 24, 2) := by decide +kernel
theorem dX5_submit_57 : decode cX5_submit 57 = .ok (.if_icmp .ne 9, 3) := by decide +kernel
theorem dX5_submit_60 : decode cX5_submit 60 = .ok (.aload_n 0, 1) := by decide +kernel
theorem dX5_submit_61 : decode cX5_submit 61 = .ok (.iconst 2, 1) := by decide +kernel
theorem dX5_submit_62 : decode cX5_submit 62 = .ok (.invokevirtual 85, 3) := by decide +kernel
theorem dX5_submit_65 : decode cX5_submit 65 = .ok (.ireturn, 1) := by decide +kernel
theorem dX5_submit_66 : decode cX5_submit 66 = .ok (.aload_n 0, 1) := by decide +kernel
theorem dX5_submit_67 : decode cX5_submit 67 = .ok (.getfield 9, 3) := by decide +kernel
theorem dX5_submit_70 : decode cX5_submit 70 = .ok (.iconst 1, 1) := by decide +kernel
theorem dX5_submit_71 : decode cX5_submit 71 = .ok (.iaload, 1) := by decide +kernel
theorem dX5_submit_72 : decode cX5_submit 72 = .ok (.istore 5, 2) := by decide +kernel
theorem dX5_submit_74 : decode cX5_submit 74 = .ok (.aload_n 0, 1) := by decide +kernel
theorem dX5_submit_75 : decode cX5_submit 75 = .ok (.iload 5, 2) := by decide +kernel
theorem dX5_submit_77 : decode cX5_submit 77 = .ok (.iconst 0, 1) := by decide +kernel
theorem dX5_submit_78 : decode cX5_submit 78 = .ok (.iload_n 1, 1) := by decide +kernel
theorem dX5_submit_79 : decode cX5_submit 79 = .ok (.invokevirtual 59, 3) := by decide +kernel
theorem dX5_submit_82 : decode cX5_submit 82 = .ok (.aload_n 0, 1) := by decide +kernel
theorem dX5_submit_83 : decode cX5_submit 83 = .ok (.iload 5, 2) := by decide +kernel
theorem dX5_submit_85 : decode cX5_submit 85 = .ok (.iconst 1, 1) := by decide +kernel
theorem dX5_submit_86 : decode cX5_submit 86 = .ok (.iload_n 2, 1) := by decide +kernel
theorem dX5_submit_87 : decode cX5_submit 87 = .ok (.invokevirtual 59, 3) := by decide +kernel
theorem dX5_submit_90 : decode cX5_submit 90 = .ok (.aload_n 0, 1) := by decide +kernel
theorem dX5_submit_91 : decode cX5_submit 91 = .ok (.iload 5, 2) := by decide +kernel
theorem dX5_submit_93 : decode cX5_submit 93 = .ok (.iconst 2, 1) := by decide +kernel
theorem dX5_submit_94 : decode cX5_submit 94 = .ok (.iload_n 3, 1) := by decide +kernel
theorem dX5_submit_95 : decode cX5_submit 95 = .ok (.invokevirtual 59, 3) := by decide +kernel
theorem dX5_submit_98 : decode cX5_submit 98 = .ok (.aload_n 0, 1) := by decide +kernel
theorem dX5_submit_99 : decode cX5_submit 99 = .ok (.iload 5, 2) := by decide +kernel
theorem dX5_submit_101 : decode cX5_submit 101 = .ok (.iconst 3, 1) := by decide +kernel
theorem dX5_submit_102 : decode cX5_submit 102 = .ok (.iload 4, 2) := by decide +kernel
theorem dX5_submit_104 : decode cX5_submit 104 = .ok (.invokevirtual 59, 3) := by decide +kernel
theorem dX5_submit_107 : decode cX5_submit 107 = .ok (.aload_n 0, 1) := by decide +kernel
theorem dX5_submit_108 : decode cX5_submit 108 = .ok (.iload 5, 2) := by decide +kernel
theorem dX5_submit_110 : decode cX5_submit 110 = .ok (.bipush 9, 2) := by decide +kernel
theorem dX5_submit_112 : decode cX5_submit 112 = .ok (.iload 4, 2) := by decide +kernel
theorem dX5_submit_114 : decode cX5_submit 114 = .ok (.invokevirtual 59, 3) := by decide +kernel
theorem dX5_submit_117 : decode cX5_submit 117 = .ok (.aload_n 0, 1) := by decide +kernel
theorem dX5_submit_118 : decode cX5_submit 118 = .ok (.iload 5, 2) := by decide +kernel
theorem dX5_submit_120 : decode cX5_submit 120 = .ok (.iconst 4, 1) := by decide +kernel
theorem dX5_submit_121 : decode cX5_submit 121 = .ok (.iconst 4, 1) := by decide +kernel
theorem dX5_submit_122 : decode cX5_submit 122 = .ok (.invokevirtual 59, 3) := by decide +kernel
theorem dX5_submit_125 : decode cX5_submit 125 = .ok (.aload_n 0, 1) := by decide +kernel
theorem dX5_submit_126 : decode cX5_submit 126 = .ok (.iload 5, 2) := by decide +kernel
theorem dX5_submit_128 : decode cX5_submit 128 = .ok (.bipush 8, 2) := by decide +kernel
theorem dX5_submit_130 : decode cX5_submit 130 = .ok (.aload_n 0, 1) := by decide +kernel
theorem dX5_submit_131 : decode cX5_submit 131 = .ok (.getfield 9, 3) := by decide +kernel
theorem dX5_submit_134 : decode cX5_submit 134 = .ok (.iconst 0, 1) := by decide +kernel
theorem dX5_submit_135 : decode cX5_submit 135 = .ok (.iaload, 1) := by decide +kernel
theorem dX5_submit_136 : decode cX5_submit 136 = .ok (.invokevirtual 59, 3) := by decide +kernel
theorem dX5_submit_139 : decode cX5_submit 139 = .ok (.aload_n 0, 1) := by decide +kernel
theorem dX5_submit_140 : decode cX5_submit 140 = .ok (.iload 5, 2) := by decide +kernel
theorem dX5_submit_142 : decode cX5_submit 142 = .ok (.bipush 10, 2) := by decide +kernel
theorem dX5_submit_144 : decode cX5_submit 144 = .ok (.iconst (-1), 1) := by decide +kernel
theorem dX5_submit_145 : decode cX5_submit 145 = .ok (.invokevirtual 59, 3) := by decide +kernel
theorem dX5_submit_148 : decode cX5_submit 148 = .ok (.aload_n 0, 1) := by decide +kernel
theorem dX5_submit_149 : decode cX5_submit 149 = .ok (.iload 5, 2) := by decide +kernel
theorem dX5_submit_151 : decode cX5_submit 151 = .ok (.bipush 11, 2) := by decide +kernel
theorem dX5_submit_153 : decode cX5_submit 153 = .ok (.iconst 0, 1) := by decide +kernel
theorem dX5_submit_154 : decode cX5_submit 154 = .ok (.invokevirtual 59, 3) := by decide +kernel
theorem dX5_submit_157 : decode cX5_submit 157 = .ok (.aload_n 0, 1) := by decide +kernel
theorem dX5_submit_158 : decode cX5_submit 158 = .ok (.iload 5, 2) := by decide +kernel
theorem dX5_submit_160 : decode cX5_submit 160 = .ok (.bipush 12, 2) := by decide +kernel
theorem dX5_submit_162 : decode cX5_submit 162 = .ok (.iconst (-1), 1) := by decide +kernel
theorem dX5_submit_163 : decode cX5_submit 163 = .ok (.invokevirtual 59, 3) := by decide +kernel
theorem dX5_submit_166 : decode cX5_submit 166 = .ok (.aload_n 0, 1) := by decide +kernel
theorem dX5_submit_167 : decode cX5_submit 167 = .ok (.iload 5, 2) := by decide +kernel
theorem dX5_submit_169 : decode cX5_submit 169 = .ok (.bipush 13, 2) := by decide +kernel
theorem dX5_submit_171 : decode cX5_submit 171 = .ok (.iconst 0, 1) := by decide +kernel
theorem dX5_submit_172 : decode cX5_submit 172 = .ok (.invokevirtual 59, 3) := by decide +kernel
theorem dX5_submit_175 : decode cX5_submit 175 = .ok (.aload_n 0, 1) := by decide +kernel
theorem dX5_submit_176 : decode cX5_submit 176 = .ok (.getfield 9, 3) := by decide +kernel
theorem dX5_submit_179 : decode cX5_submit 179 = .ok (.iconst 1, 1) := by decide +kernel
theorem dX5_submit_180 : decode cX5_submit 180 = .ok (.dup2, 1) := by decide +kernel
theorem dX5_submit_181 : decode cX5_submit 181 = .ok (.iaload, 1) := by decide +kernel
theorem dX5_submit_182 : decode cX5_submit 182 = .ok (.iconst 1, 1) := by decide +kernel
theorem dX5_submit_183 : decode cX5_submit 183 = .ok (.iadd, 1) := by decide +kernel
theorem dX5_submit_184 : decode cX5_submit 184 = .ok (.iastore, 1) := by decide +kernel
theorem dX5_submit_185 : decode cX5_submit 185 = .ok (.aload_n 0, 1) := by decide +kernel
theorem dX5_submit_186 : decode cX5_submit 186 = .ok (.iconst 0, 1) := by decide +kernel
theorem dX5_submit_187 : decode cX5_submit 187 = .ok (.iload 5, 2) := by decide +kernel
theorem dX5_submit_189 : decode cX5_submit 189 = .ok (.invokevirtual 78, 3) := by decide +kernel
theorem dX5_submit_192 : decode cX5_submit 192 = .ok (.aload_n 0, 1) := by decide +kernel
theorem dX5_submit_193 : decode cX5_submit 193 = .ok (.iload 5, 2) := by decide +kernel
theorem dX5_submit_195 : decode cX5_submit 195 = .ok (.invokevirtual 74, 3) := by decide +kernel
theorem dX5_submit_198 : decode cX5_submit 198 = .ok (.aload_n 0, 1) := by decide +kernel
theorem dX5_submit_199 : decode cX5_submit 199 = .ok (.iload 5, 2) := by decide +kernel
theorem dX5_submit_201 : decode cX5_submit 201 = .ok (.bipush 6, 2) := by decide +kernel
theorem dX5_submit_203 : decode cX5_submit 203 = .ok (.invokevirtual 30, 3) := by decide +kernel
theorem dX5_submit_206 : decode cX5_submit 206 = .ok (.istore 6, 2) := by decide +kernel
theorem dX5_submit_208 : decode cX5_submit 208 = .ok (.aload_n 0, 1) := by decide +kernel
theorem dX5_submit_209 : decode cX5_submit 209 = .ok (.iload 5, 2) := by decide +kernel
theorem dX5_submit_211 : decode cX5_submit 211 = .ok (.bipush 7, 2) := by decide +kernel
theorem dX5_submit_213 : decode cX5_submit 213 = .ok (.iload 6, 2) := by decide +kernel
theorem dX5_submit_215 : decode cX5_submit 215 = .ok (.invokevirtual 59, 3) := by decide +kernel
theorem dX5_submit_218 : decode cX5_submit 218 = .ok (.aload_n 0, 1) := by decide +kernel
theorem dX5_submit_219 : decode cX5_submit 219 = .ok (.invokevirtual 88, 3) := by decide +kernel
theorem dX5_submit_222 : decode cX5_submit 222 = .ok (.iload 6, 2) := by decide +kernel
theorem dX5_submit_224 : decode cX5_submit 224 = .ok (.ireturn, 1) := by decide +kernel
theorem dX5_ticks_0 : decode cX5_ticks 0 = .ok (.aload_n 0, 1) := by decide +kernel
theorem dX5_ticks_1 : decode cX5_ticks 1 = .ok (.getfield 9, 3) := by decide +kernel
theorem dX5_ticks_4 : decode cX5_ticks 4 = .ok (.iconst 0, 1) := by decide +kernel
theorem dX5_ticks_5 : decode cX5_ticks 5 = .ok (.dup2, 1) := by decide +kernel
theorem dX5_ticks_6 : decode cX5_ticks 6 = .ok (.iaload, 1) := by decide +kernel
theorem dX5_ticks_7 : decode cX5_ticks 7 = .ok (.iconst 1, 1) := by decide +kernel
theorem dX5_ticks_8 : decode cX5_ticks 8 = .ok (.iadd, 1) := by decide +kernel
theorem dX5_ticks_9 : decode cX5_ticks 9 = .ok (.iastore, 1) := by decide +kernel
theorem dX5_ticks_10 : decode cX5_ticks 10 = .ok (.iconst 0, 1) := by decide +kernel
theorem dX5_ticks_11 : decode cX5_ticks 11 = .ok (.istore_n 1, 1) := by decide +kernel
theorem dX5_ticks_12 : decode cX5_ticks 12 = .ok (.iconst 0, 1) := by decide +kernel
theorem dX5_ticks_13 : decode cX5_ticks 13 = .ok (.istore_n 2, 1) := by decide +kernel
theorem dX5_ticks_14 : decode cX5_ticks 14 = .ok (.iload_n 2, 1) := by decide +kernel
theorem dX5_ticks_15 : decode cX5_ticks 15 = .ok (.aload_n 0, 1) := by decide +kernel
theorem dX5_ticks_16 : decode cX5_ticks 16 = .ok (.getfield 9, 3) := by decide +kernel
theorem dX5_ticks_19 : decode cX5_ticks 19 = .ok (.iconst 1, 1) := by decide +kernel
theorem dX5_ticks_20 : decode cX5_ticks 20 = .ok (.iaload, 1) := by decide +kernel
theorem dX5_ticks_21 : decode cX5_ticks 21 = .ok (.if_icmp .ge 95, 3) := by decide +kernel
theorem dX5_ticks_24 : decode cX5_ticks 24 = .ok (.aload_n 0, 1) := by decide +kernel
theorem dX5_ticks_25 : decode cX5_ticks 25 = .ok (.iload_n 2, 1) := by decide +kernel
theorem dX5_ticks_26 : decode cX5_ticks 26 = .ok (.iconst 4, 1) := by decide +kernel
theorem dX5_ticks_27 : decode cX5_ticks 27 = .ok (.invokevirtual 30, 3) := by decide +kernel
theorem dX5_ticks_30 : decode cX5_ticks 30 = .ok (.iconst 1, 1) := by decide +kernel
theorem dX5_ticks_31 : decode cX5_ticks 31 = .ok (.if_icmp .ne 79, 3) := by decide +kernel
theorem dX5_ticks_34 : decode cX5_ticks 34 = .ok (.aload_n 0, 1) := by decide +kernel
theorem dX5_ticks_35 : decode cX5_ticks 35 = .ok (.getfield 9, 3) := by decide +kernel
theorem dX5_ticks_38 : decode cX5_ticks 38 = .ok (.iconst 0, 1) := by decide +kernel
theorem dX5_ticks_39 : decode cX5_ticks 39 = .ok (.iaload, 1) := by decide +kernel
theorem dX5_ticks_40 : decode cX5_ticks 40 = .ok (.aload_n 0, 1) := by decide +kernel
theorem dX5_ticks_41 : decode cX5_ticks 41 = .ok (.iload_n 2, 1) := by decide +kernel
theorem dX5_ticks_42 : decode cX5_ticks 42 = .ok (.bipush 6, 2) := by decide +kernel
theorem dX5_ticks_44 : decode cX5_ticks 44 = .ok (.invokevirtual 30, 3) := by decide +kernel
theorem dX5_ticks_47 : decode cX5_ticks 47 = .ok (.isub, 1) := by decide +kernel
theorem dX5_ticks_48 : decode cX5_ticks 48 = .ok (.aload_n 0, 1) := by decide +kernel
theorem dX5_ticks_49 : decode cX5_ticks 49 = .ok (.iload_n 2, 1) := by decide +kernel
theorem dX5_ticks_50 : decode cX5_ticks 50 = .ok (.iconst 3, 1) := by decide +kernel
theorem dX5_ticks_51 : decode cX5_ticks 51 = .ok (.invokevirtual 30, 3) := by decide +kernel
theorem dX5_ticks_54 : decode cX5_ticks 54 = .ok (.if_icmp .eq 6, 3) := by decide +kernel
theorem dX5_ticks_57 : decode cX5_ticks 57 = .ok (.goto 53, 3) := by decide +kernel
theorem dX5_ticks_60 : decode cX5_ticks 60 = .ok (.aload_n 0, 1) := by decide +kernel
theorem dX5_ticks_61 : decode cX5_ticks 61 = .ok (.iload_n 2, 1) := by decide +kernel
theorem dX5_ticks_62 : decode cX5_ticks 62 = .ok (.bipush 13, 2) := by decide +kernel
theorem dX5_ticks_64 : decode cX5_ticks 64 = .ok (.aload_n 0, 1) := by decide +kernel
theorem dX5_ticks_65 : decode cX5_ticks 65 = .ok (.iload_n 2, 1) := by decide +kernel
theorem dX5_ticks_66 : decode cX5_ticks 66 = .ok (.bipush 13, 2) := by decide +kernel
theorem dX5_ticks_68 : decode cX5_ticks 68 = .ok (.invokevirtual 30, 3) := by decide +kernel
theorem dX5_ticks_71 : decode cX5_ticks 71 = .ok (.aload_n 0, 1) := by decide +kernel
theorem dX5_ticks_72 : decode cX5_ticks 72 = .ok (.iload_n 2, 1) := by decide +kernel
theorem dX5_ticks_73 : decode cX5_ticks 73 = .ok (.iconst 3, 1) := by decide +kernel
theorem dX5_ticks_74 : decode cX5_ticks 74 = .ok (.invokevirtual 30, 3) := by decide +kernel
theorem dX5_ticks_77 : decode cX5_ticks 77 = .ok (.iadd, 1) := by decide +kernel
theorem dX5_ticks_78 : decode cX5_ticks 78 = .ok (.invokevirtual 59, 3) := by decide +kernel
theorem dX5_ticks_81 : decode cX5_ticks 81 = .ok (.aload_n 0, 1) := by decide +kernel
theorem dX5_ticks_82 : decode cX5_ticks 82 = .ok (.iload_n 2, 1) := by decide +kernel
theorem dX5_ticks_83 : decode cX5_ticks 83 = .ok (.iconst 4, 1) := by decide +kernel
theorem dX5_ticks_84 : decode cX5_ticks 84 = .ok (.iconst 2, 1) := by decide +kernel
theorem dX5_ticks_85 : decode cX5_ticks 85 = .ok (.invokevirtual 59, 3) := by decide +kernel
theorem dX5_ticks_88 : decode cX5_ticks 88 = .ok (.aload_n 0, 1) := by decide +kernel
theorem dX5_ticks_89 : decode cX5_ticks 89 = .ok (.iload_n 2, 1) := by decide +kernel
theorem dX5_ticks_90 : decode cX5_ticks 90 = .ok (.bipush 10, 2) := by decide +kernel
theorem dX5_ticks_92 : decode cX5_ticks 92 = .ok (.aload_n 0, 1) := by decide +kernel
theorem dX5_ticks_93 : decode cX5_ticks 93 = .ok (.getfield 9, 3) := by decide +kernel
theorem dX5_ticks_96 : decode cX5_ticks 96 = .ok (.iconst 0, 1) := by decide +kernel
theorem dX5_ticks_97 : decode cX5_ticks 97 = .ok (.iaload, 1) := by decide +kernel
theorem dX5_ticks_98 : decode cX5_ticks 98 = .ok (.invokevirtual 59, 3) := by decide +kernel
theorem dX5_ticks_101 : decode cX5_ticks 101 = .ok (.aload_n 0, 1) := by decide +kernel
theorem dX5_ticks_102 : decode cX5_ticks 102 = .ok (.iconst 2, 1) := by decide +kernel
theorem dX5_ticks_103 : decode cX5_ticks 103 = .ok (.iload_n 2, 1) := by decide +kernel
theorem dX5_ticks_104 : decode cX5_ticks 104 = .ok (.invokevirtual 78, 3) := by decide +kernel
theorem dX5_ticks_107 : decode cX5_ticks 107 = .ok (.iinc 1 1, 3) := by decide +kernel
theorem dX5_ticks_110 : decode cX5_ticks 110 = .ok (.iinc 2 1, 3) := by decide +kernel
theorem dX5_ticks_113 : decode cX5_ticks 113 = .ok (.goto (-99), 3) := by decide +kernel
theorem dX5_ticks_116 : decode cX5_ticks 116 = .ok (.iload_n 1, 1) := by decide +kernel
theorem dX5_ticks_117 : decode cX5_ticks 117 = .ok (.ifCond .le 7, 3) := by decide +kernel
theorem dX5_ticks_120 : decode cX5_ticks 120 = .ok (.aload_n 0, 1) := by decide +kernel
theorem dX5_ticks_121 : decode cX5_ticks 121 = .ok (.invokevirtual 91, 3) := by decide +kernel
theorem dX5_ticks_124 : decode cX5_ticks 124 = .ok (.aload_n 0, 1) := by decide +kernel
theorem dX5_ticks_125 : decode cX5_ticks 125 = .ok (.invokevirtual 88, 3) := by decide +kernel
theorem dX5_ticks_128 : decode cX5_ticks 128 = .ok (.iload_n 1, 1) := by decide +kernel
theorem dX5_ticks_129 : decode cX5_ticks 129 = .ok (.ireturn, 1) := by decide +kernel
theorem dX5_advance_0 : decode cX5_advance 0 = .ok (.aload_n 0, 1) := by decide +kernel
theorem dX5_advance_1 : decode cX5_advance 1 = .ok (.iconst 0, 1) := by decide +kernel
theorem dX5_advance_2 : decode cX5_advance 2 = .ok (.putfield 22, 3) := by decide +kernel
theorem dX5_advance_5 : decode cX5_advance 5 = .ok (.iload_n 1, 1) := by decide +kernel
theorem dX5_advance_6 : decode cX5_advance 6 = .ok (.iconst 1, 1) := by decide +kernel
theorem dX5_advance_7 : decode cX5_advance 7 = .ok (.bipush 50, 2) := by decide +kernel
theorem dX5_advance_9 : decode cX5_advance 9 = .ok (.invokestatic 26, 3) := by decide +kernel
theorem dX5_advance_12 : decode cX5_advance 12 = .ok (.ifCond .ne 9, 3) := by decide +kernel
theorem dX5_advance_15 : decode cX5_advance 15 = .ok (.aload_n 0, 1) := by decide +kernel
theorem dX5_advance_16 : decode cX5_advance 16 = .ok (.iconst 1, 1) := by decide +kernel
theorem dX5_advance_17 : decode cX5_advance 17 = .ok (.invokevirtual 85, 3) := by decide +kernel
theorem dX5_advance_20 : decode cX5_advance 20 = .ok (.ireturn, 1) := by decide +kernel
theorem dX5_advance_21 : decode cX5_advance 21 = .ok (.aload_n 0, 1) := by decide +kernel
theorem dX5_advance_22 : decode cX5_advance 22 = .ok (.getfield 9, 3) := by decide +kernel
theorem dX5_advance_25 : decode cX5_advance 25 = .ok (.iconst 0, 1) := by decide +kernel
theorem dX5_advance_26 : decode cX5_advance 26 = .ok (.iaload, 1) := by decide +kernel
theorem dX5_advance_27 : decode cX5_advance 27 = .ok (.iload_n 1, 1) := by decide +kernel
theorem dX5_advance_28 : decode cX5_advance 28 = .ok (.iadd, 1) := by decide +kernel
theorem dX5_advance_29 : decode cX5_advance 29 = .ok (.sipush 1000, 3) := by decide +kernel
theorem dX5_advance_32 : decode cX5_advance 32 = .ok (.if_icmp .le 9, 3) := by decide +kernel
theorem dX5_advance_35 : decode cX5_advance 35 = .ok (.aload_n 0, 1) := by decide +kernel
theorem dX5_advance_36 : decode cX5_advance 36 = .ok (.iconst 2, 1) := by decide +kernel
theorem dX5_advance_37 : decode cX5_advance 37 = .ok (.invokevirtual 85, 3) := by decide +kernel
theorem dX5_advance_40 : decode cX5_advance 40 = .ok (.ireturn, 1) := by decide +kernel
theorem dX5_advance_41 : decode cX5_advance 41 = .ok (.iconst 0, 1) := by decide +kernel
theorem dX5_advance_42 : decode cX5_advance 42 = .ok (.istore_n 2, 1) := by decide +kernel
theorem dX5_advance_43 : decode cX5_advance 43 = .ok (.iconst 0, 1) := by decide +kernel
theorem dX5_advance_44 : decode cX5_advance 44 = .ok (.istore_n 3, 1) := by decide +kernel
theorem dX5_advance_45 : decode cX5_advance 45 = .ok (.iload_n 3, 1) := by decide +kernel
theorem dX5_advance_46 : decode cX5_advance 46 = .ok (.iload_n 1, 1) := by decide +kernel
theorem dX5_advance_47 : decode cX5_advance 47 = .ok (.if_icmp .ge 16, 3) := by decide +kernel
theorem dX5_advance_50 : decode cX5_advance 50 = .ok (.iload_n 2, 1) := by decide +kernel
theorem dX5_advance_51 : decode cX5_advance 51 = .ok (.aload_n 0, 1) := by decide +kernel
theorem dX5_advance_52 : decode cX5_advance 52 = .ok (.invokevirtual 94, 3) := by decide +kernel
theorem dX5_advance_55 : decode cX5_advance 55 = .ok (.iadd, 1) := by decide +kernel
theorem dX5_advance_56 : decode cX5_advance 56 = .ok (.istore_n 2, 1) := by decide +kernel
theorem dX5_advance_57 : decode cX5_advance 57 = .ok (.iinc 3 1, 3) := by decide +kernel
theorem dX5_advance_60 : decode cX5_advance 60 = .ok (.goto (-15), 3) := by decide +kernel
theorem dX5_advance_63 : decode cX5_advance 63 = .ok (.iload_n 2, 1) := by decide +kernel
theorem dX5_advance_64 : decode cX5_advance 64 = .ok (.ireturn, 1) := by decide +kernel
theorem dX5_cancel_0 : decode cX5_cancel 0 = .ok (.aload_n 0, 1) := by decide +kernel
theorem dX5_cancel_1 : decode cX5_cancel 1 = .ok (.iconst 0, 1) := by decide +kernel
theorem dX5_cancel_2 : decode cX5_cancel 2 = .ok (.putfield 22, 3) := by decide +kernel
theorem dX5_cancel_5 : decode cX5_cancel 5 = .ok (.aload_n 0, 1) := by decide +kernel
theorem dX5_cancel_6 : decode cX5_cancel 6 = .ok (.iload_n 1, 1) := by decide +kernel
theorem dX5_cancel_7 : decode cX5_cancel 7 = .ok (.invokevirtual 98, 3) := by decide +kernel
theorem dX5_cancel_10 : decode cX5_cancel 10 = .ok (.ifCond .ne 9, 3) := by decide +kernel
theorem dX5_cancel_13 : decode cX5_cancel 13 = .ok (.aload_n 0, 1) := by decide +kernel
theorem dX5_cancel_14 : decode cX5_cancel 14 = .ok (.iconst 1, 1) := by decide +kernel
theorem dX5_cancel_15 : decode cX5_cancel 15 = .ok (.invokevirtual 85, 3) := by decide +kernel
theorem dX5_cancel_18 : decode cX5_cancel 18 = .ok (.ireturn, 1) := by decide +kernel
theorem dX5_cancel_19 : decode cX5_cancel 19 = .ok (.aload_n 0, 1) := by decide +kernel
theorem dX5_cancel_20 : decode cX5_cancel 20 = .ok (.iload_n 1, 1) := by decide +kernel
theorem dX5_cancel_21 : decode cX5_cancel 21 = .ok (.iconst 4, 1) := by decide +kernel
theorem dX5_cancel_22 : decode cX5_cancel 22 = .ok (.invokevirtual 30, 3) := by decide +kernel
theorem dX5_cancel_25 : decode cX5_cancel 25 = .ok (.istore_n 2, 1) := by decide +kernel
theorem dX5_cancel_26 : decode cX5_cancel 26 = .ok (.iload_n 2, 1) := by decide +kernel
theorem dX5_cancel_27 : decode cX5_cancel 27 = .ok (.iconst 1, 1) := by decide +kernel
theorem dX5_cancel_28 : decode cX5_cancel 28 = .ok (.if_icmp .le 9, 3) := by decide +kernel
theorem dX5_cancel_31 : decode cX5_cancel 31 = .ok (.aload_n 0, 1) := by decide +kernel
theorem dX5_cancel_32 : decode cX5_cancel 32 = .ok (.iconst 2, 1) := by decide +kernel
theorem dX5_cancel_33 : decode cX5_cancel 33 = .ok (.invokevirtual 85, 3) := by decide +kernel
theorem dX5_cancel_36 : decode cX5_cancel 36 = .ok (.ireturn, 1) := by decide +kernel
theorem dX5_cancel_37 : decode cX5_cancel 37 = .ok (.iload_n 2, 1) := by decide +kernel
theorem dX5_cancel_38 : decode cX5_cancel 38 = .ok (.iconst 1, 1) := by decide +kernel
theorem dX5_cancel_39 : decode cX5_cancel 39 = .ok (.if_icmp .ne 32, 3) := by decide +kernel
theorem dX5_cancel_42 : decode cX5_cancel 42 = .ok (.aload_n 0, 1) := by decide +kernel
theorem dX5_cancel_43 : decode cX5_cancel 43 = .ok (.iload_n 1, 1) := by decide +kernel
theorem dX5_cancel_44 : decode cX5_cancel 44 = .ok (.bipush 13, 2) := by decide +kernel
theorem dX5_cancel_46 : decode cX5_cancel 46 = .ok (.aload_n 0, 1) := by decide +kernel
theorem dX5_cancel_47 : decode cX5_cancel 47 = .ok (.iload_n 1, 1) := by decide +kernel
theorem dX5_cancel_48 : decode cX5_cancel 48 = .ok (.bipush 13, 2) := by decide +kernel
theorem dX5_cancel_50 : decode cX5_cancel 50 = .ok (.invokevirtual 30, 3) := by decide +kernel
theorem dX5_cancel_53 : decode cX5_cancel 53 = .ok (.aload_n 0, 1) := by decide +kernel
theorem dX5_cancel_54 : decode cX5_cancel 54 = .ok (.getfield 9, 3) := by decide +kernel
theorem dX5_cancel_57 : decode cX5_cancel 57 = .ok (.iconst 0, 1) := by decide +kernel
theorem dX5_cancel_58 : decode cX5_cancel 58 = .ok (.iaload, 1) := by decide +kernel
theorem dX5_cancel_59 : decode cX5_cancel 59 = .ok (.iadd, 1) := by decide +kernel
theorem dX5_cancel_60 : decode cX5_cancel 60 = .ok (.aload_n 0, 1) := by decide +kernel
theorem dX5_cancel_61 : decode cX5_cancel 61 = .ok (.iload_n 1, 1) := by decide +kernel
theorem dX5_cancel_62 : decode cX5_cancel 62 = .ok (.bipush 6, 2) := by decide +kernel
theorem dX5_cancel_64 : decode cX5_cancel 64 = .ok (.invokevirtual 30, 3) := by decide +kernel
theorem dX5_cancel_67 : decode cX5_cancel 67 = .ok (.isub, 1) := by decide +kernel
theorem dX5_cancel_68 : decode cX5_cancel 68 = .ok (.invokevirtual 59, 3) := by decide +kernel
theorem dX5_cancel_71 : decode cX5_cancel 71 = .ok (.aload_n 0, 1) := by decide +kernel
theorem dX5_cancel_72 : decode cX5_cancel 72 = .ok (.iload_n 1, 1) := by decide +kernel
theorem dX5_cancel_73 : decode cX5_cancel 73 = .ok (.iconst 4, 1) := by decide +kernel
theorem dX5_cancel_74 : decode cX5_cancel 74 = .ok (.iconst 3, 1) := by decide +kernel
theorem dX5_cancel_75 : decode cX5_cancel 75 = .ok (.invokevirtual 59, 3) := by decide +kernel
theorem dX5_cancel_78 : decode cX5_cancel 78 = .ok (.aload_n 0, 1) := by decide +kernel
theorem dX5_cancel_79 : decode cX5_cancel 79 = .ok (.iconst 3, 1) := by decide +kernel
theorem dX5_cancel_80 : decode cX5_cancel 80 = .ok (.iload_n 1, 1) := by decide +kernel
theorem dX5_cancel_81 : decode cX5_cancel 81 = .ok (.invokevirtual 78, 3) := by decide +kernel
theorem dX5_cancel_84 : decode cX5_cancel 84 = .ok (.aload_n 0, 1) := by decide +kernel
theorem dX5_cancel_85 : decode cX5_cancel 85 = .ok (.invokevirtual 91, 3) := by decide +kernel
theorem dX5_cancel_88 : decode cX5_cancel 88 = .ok (.aload_n 0, 1) := by decide +kernel
theorem dX5_cancel_89 : decode cX5_cancel 89 = .ok (.invokevirtual 88, 3) := by decide +kernel
theorem dX5_cancel_92 : decode cX5_cancel 92 = .ok (.iload_n 2, 1) := by decide +kernel
theorem dX5_cancel_93 : decode cX5_cancel 93 = .ok (.ireturn, 1) := by decide +kernel
theorem dX5_preempt_0 : decode cX5_preempt 0 = .ok (.aload_n 0, 1) := by decide +kernel
theorem dX5_preempt_1 : decode cX5_preempt 1 = .ok (.iconst 0, 1) := by decide +kernel
theorem dX5_preempt_2 : decode cX5_preempt 2 = .ok (.putfield 22, 3) := by decide +kernel
theorem dX5_preempt_5 : decode cX5_preempt 5 = .ok (.aload_n 0, 1) := by decide +kernel
theorem dX5_preempt_6 : decode cX5_preempt 6 = .ok (.iload_n 1, 1) := by decide +kernel
theorem dX5_preempt_7 : decode cX5_preempt 7 = .ok (.invokevirtual 98, 3) := by decide +kernel
theorem dX5_preempt_10 : decode cX5_preempt 10 = .ok (.ifCond .ne 9, 3) := by decide +kernel
theorem dX5_preempt_13 : decode cX5_preempt 13 = .ok (.aload_n 0, 1) := by decide +kernel
theorem dX5_preempt_14 : decode cX5_preempt 14 = .ok (.iconst 1, 1) := by decide +kernel
theorem dX5_preempt_15 : decode cX5_preempt 15 = .ok (.invokevirtual 85, 3) := by decide +kernel
theorem dX5_preempt_18 : decode cX5_preempt 18 = .ok (.ireturn, 1) := by decide +kernel
theorem dX5_preempt_19 : decode cX5_preempt 19 = .ok (.iload_n 2, 1) := by decide +kernel
theorem dX5_preempt_20 : decode cX5_preempt 20 = .ok (.iconst 0, 1) := by decide +kernel
theorem dX5_preempt_21 : decode cX5_preempt 21 = .ok (.bipush 9, 2) := by decide +kernel
theorem dX5_preempt_23 : decode cX5_preempt 23 = .ok (.invokestatic 26, 3) := by decide +kernel
theorem dX5_preempt_26 : decode cX5_preempt 26 = .ok (.ifCond .ne 9, 3) := by decide +kernel
theorem dX5_preempt_29 : decode cX5_preempt 29 = .ok (.aload_n 0, 1) := by decide +kernel
theorem dX5_preempt_30 : decode cX5_preempt 30 = .ok (.iconst 2, 1) := by decide +kernel
theorem dX5_preempt_31 : decode cX5_preempt 31 = .ok (.invokevirtual 85, 3) := by decide +kernel
theorem dX5_preempt_34 : decode cX5_preempt 34 = .ok (.ireturn, 1) := by decide +kernel
theorem dX5_preempt_35 : decode cX5_preempt 35 = .ok (.aload_n 0, 1) := by decide +kernel
theorem dX5_preempt_36 : decode cX5_preempt 36 = .ok (.iload_n 1, 1) := by decide +kernel
theorem dX5_preempt_37 : decode cX5_preempt 37 = .ok (.iconst 4, 1) := by decide +kernel
theorem dX5_preempt_38 : decode cX5_preempt 38 = .ok (.invokevirtual 30, 3) := by decide +kernel
theorem dX5_preempt_41 : decode cX5_preempt 41 = .ok (.iconst 1, 1) := by decide +kernel
theorem dX5_preempt_42 : decode cX5_preempt 42 = .ok (.if_icmp .eq 9, 3) := by decide +kernel
theorem dX5_preempt_45 : decode cX5_preempt 45 = .ok (.aload_n 0, 1) := by decide +kernel
theorem dX5_preempt_46 : decode cX5_preempt 46 = .ok (.iconst 3, 1) := by decide +kernel
theorem dX5_preempt_47 : decode cX5_preempt 47 = .ok (.invokevirtual 85, 3) := by decide +kernel
theorem dX5_preempt_50 : decode cX5_preempt 50 = .ok (.ireturn, 1) := by decide +kernel
theorem dX5_preempt_51 : decode cX5_preempt 51 = .ok (.aload_n 0, 1) := by decide +kernel
theorem dX5_preempt_52 : decode cX5_preempt 52 = .ok (.getfield 9, 3) := by decide +kernel
theorem dX5_preempt_55 : decode cX5_preempt 55 = .ok (.iconst 0, 1) := by decide +kernel
theorem dX5_preempt_56 : decode cX5_preempt 56 = .ok (.iaload, 1) := by decide +kernel
theorem dX5_preempt_57 : decode cX5_preempt 57 = .ok (.aload_n 0, 1) := by decide +kernel
theorem dX5_preempt_58 : decode cX5_preempt 58 = .ok (.iload_n 1, 1) := by decide +kernel
theorem dX5_preempt_59 : decode cX5_preempt 59 = .ok (.bipush 6, 2) := by decide +kernel
theorem dX5_preempt_61 : decode cX5_preempt 61 = .ok (.invokevirtual 30, 3) := by decide +kernel
theorem dX5_preempt_64 : decode cX5_preempt 64 = .ok (.isub, 1) := by decide +kernel
theorem dX5_preempt_65 : decode cX5_preempt 65 = .ok (.istore_n 3, 1) := by decide +kernel
theorem dX5_preempt_66 : decode cX5_preempt 66 = .ok (.aload_n 0, 1) := by decide +kernel
theorem dX5_preempt_67 : decode cX5_preempt 67 = .ok (.iload_n 1, 1) := by decide +kernel
theorem dX5_preempt_68 : decode cX5_preempt 68 = .ok (.bipush 13, 2) := by decide +kernel
theorem dX5_preempt_70 : decode cX5_preempt 70 = .ok (.aload_n 0, 1) := by decide +kernel
theorem dX5_preempt_71 : decode cX5_preempt 71 = .ok (.iload_n 1, 1) := by decide +kernel
theorem dX5_preempt_72 : decode cX5_preempt 72 = .ok (.bipush 13, 2) := by decide +kernel
theorem dX5_preempt_74 : decode cX5_preempt 74 = .ok (.invokevirtual 30, 3) := by decide +kernel
theorem dX5_preempt_77 : decode cX5_preempt 77 = .ok (.iload_n 3, 1) := by decide +kernel
theorem dX5_preempt_78 : decode cX5_preempt 78 = .ok (.iadd, 1) := by decide +kernel
theorem dX5_preempt_79 : decode cX5_preempt 79 = .ok (.invokevirtual 59, 3) := by decide +kernel
theorem dX5_preempt_82 : decode cX5_preempt 82 = .ok (.aload_n 0, 1) := by decide +kernel
theorem dX5_preempt_83 : decode cX5_preempt 83 = .ok (.iload_n 1, 1) := by decide +kernel
theorem dX5_preempt_84 : decode cX5_preempt 84 = .ok (.iconst 2, 1) := by decide +kernel
theorem dX5_preempt_85 : decode cX5_preempt 85 = .ok (.aload_n 0, 1) := by decide +kernel
theorem dX5_preempt_86 : decode cX5_preempt 86 = .ok (.iload_n 1, 1) := by decide +kernel
theorem dX5_preempt_87 : decode cX5_preempt 87 = .ok (.iconst 2, 1) := by decide +kernel
theorem dX5_preempt_88 : decode cX5_preempt 88 = .ok (.invokevirtual 30, 3) := by decide +kernel
theorem dX5_preempt_91 : decode cX5_preempt 91 = .ok (.iload_n 3, 1) := by decide +kernel
theorem dX5_preempt_92 : decode cX5_preempt 92 = .ok (.isub, 1) := by decide +kernel
theorem dX5_preempt_93 : decode cX5_preempt 93 = .ok (.iload_n 2, 1) := by decide +kernel
theorem dX5_preempt_94 : decode cX5_preempt 94 = .ok (.iadd, 1) := by decide +kernel
theorem dX5_preempt_95 : decode cX5_preempt 95 = .ok (.invokevirtual 59, 3) := by decide +kernel
theorem dX5_preempt_98 : decode cX5_preempt 98 = .ok (.aload_n 0, 1) := by decide +kernel
theorem dX5_preempt_99 : decode cX5_preempt 99 = .ok (.iload_n 1, 1) := by decide +kernel
theorem dX5_preempt_100 : decode cX5_preempt 100 = .ok (.iconst 3, 1) := by decide +kernel
theorem dX5_preempt_101 : decode cX5_preempt 101 = .ok (.aload_n 0, 1) := by decide +kernel
theorem dX5_preempt_102 : decode cX5_preempt 102 = .ok (.iload_n 1, 1) := by decide +kernel
theorem dX5_preempt_103 : decode cX5_preempt 103 = .ok (.iconst 3, 1) := by decide +kernel
theorem dX5_preempt_104 : decode cX5_preempt 104 = .ok (.invokevirtual 30, 3) := by decide +kernel
theorem dX5_preempt_107 : decode cX5_preempt 107 = .ok (.iload_n 3, 1) := by decide +kernel
theorem dX5_preempt_108 : decode cX5_preempt 108 = .ok (.isub, 1) := by decide +kernel
theorem dX5_preempt_109 : decode cX5_preempt 109 = .ok (.iload_n 2, 1) := by decide +kernel
theorem dX5_preempt_110 : decode cX5_preempt 110 = .ok (.iadd, 1) := by decide +kernel
theorem dX5_preempt_111 : decode cX5_preempt 111 = .ok (.invokevirtual 59, 3) := by decide +kernel
theorem dX5_preempt_114 : decode cX5_preempt 114 = .ok (.aload_n 0, 1) := by decide +kernel
theorem dX5_preempt_115 : decode cX5_preempt 115 = .ok (.iload_n 1, 1) := by decide +kernel
theorem dX5_preempt_116 : decode cX5_preempt 116 = .ok (.bipush 11, 2) := by decide +kernel
theorem dX5_preempt_118 : decode cX5_preempt 118 = .ok (.aload_n 0, 1) := by decide +kernel
theorem dX5_preempt_119 : decode cX5_preempt 119 = .ok (.iload_n 1, 1) := by decide +kernel
theorem dX5_preempt_120 : decode cX5_preempt 120 = .ok (.bipush 11, 2) := by decide +kernel
theorem dX5_preempt_122 : decode cX5_preempt 122 = .ok (.invokevirtual 30, 3) := by decide +kernel
theorem dX5_preempt_125 : decode cX5_preempt 125 = .ok (.iconst 1, 1) := by decide +kernel
theorem dX5_preempt_126 : decode cX5_preempt 126 = .ok (.iadd, 1) := by decide +kernel
theorem dX5_preempt_127 : decode cX5_preempt 127 = .ok (.invokevirtual 59, 3) := by decide +kernel
theorem dX5_preempt_130 : decode cX5_preempt 130 = .ok (.aload_n 0, 1) := by decide +kernel
theorem dX5_preempt_131 : decode cX5_preempt 131 = .ok (.iload_n 1, 1) := by decide +kernel
theorem dX5_preempt_132 : decode cX5_preempt 132 = .ok (.iconst 4, 1) := by decide +kernel
theorem dX5_preempt_133 : decode cX5_preempt 133 = .ok (.iconst 4, 1) := by decide +kernel
theorem dX5_preempt_134 : decode cX5_preempt 134 = .ok (.invokevirtual 59, 3) := by decide +kernel
theorem dX5_preempt_137 : decode cX5_preempt 137 = .ok (.aload_n 0, 1) := by decide +kernel
theorem dX5_preempt_138 : decode cX5_preempt 138 = .ok (.iconst 4, 1) := by decide +kernel
theorem dX5_preempt_139 : decode cX5_preempt 139 = .ok (.iload_n 1, 1) := by decide +kernel
theorem dX5_preempt_140 : decode cX5_preempt 140 = .ok (.invokevirtual 78, 3) := by decide +kernel
theorem dX5_preempt_143 : decode cX5_preempt 143 = .ok (.aload_n 0, 1) := by decide +kernel
theorem dX5_preempt_144 : decode cX5_preempt 144 = .ok (.invokevirtual 91, 3) := by decide +kernel
theorem dX5_preempt_147 : decode cX5_preempt 147 = .ok (.aload_n 0, 1) := by decide +kernel
theorem dX5_preempt_148 : decode cX5_preempt 148 = .ok (.iload_n 1, 1) := by decide +kernel
theorem dX5_preempt_149 : decode cX5_preempt 149 = .ok (.invokevirtual 74, 3) := by decide +kernel
theorem dX5_preempt_152 : decode cX5_preempt 152 = .ok (.aload_n 0, 1) := by decide +kernel
theorem dX5_preempt_153 : decode cX5_preempt 153 = .ok (.iload_n 1, 1) := by decide +kernel
theorem dX5_preempt_154 : decode cX5_preempt 154 = .ok (.bipush 6, 2) := by decide +kernel
theorem dX5_preempt_156 : decode cX5_preempt 156 = .ok (.invokevirtual 30, 3) := by decide +kernel
theorem dX5_preempt_159 : decode cX5_preempt 159 = .ok (.istore 4, 2) := by decide +kernel
theorem dX5_preempt_161 : decode cX5_preempt 161 = .ok (.aload_n 0, 1) := by decide +kernel
theorem dX5_preempt_162 : decode cX5_preempt 162 = .ok (.invokevirtual 88, 3) := by decide +kernel
theorem dX5_preempt_165 : decode cX5_preempt 165 = .ok (.iload 4, 2) := by decide +kernel
theorem dX5_preempt_167 : decode cX5_preempt 167 = .ok (.ireturn, 1) := by decide +kernel
theorem dX5_refuses_0 : decode cX5_refuses 0 = .ok (.aload_n 0, 1) := by decide +kernel
theorem dX5_refuses_1 : decode cX5_refuses 1 = .ok (.iload_n 1, 1) := by decide +kernel
theorem dX5_refuses_2 : decode cX5_refuses 2 = .ok (.putfield 101, 3) := by decide +kernel
theorem dX5_refuses_5 : decode cX5_refuses 5 = .ok (.aload_n 0, 1) := by decide +kernel
theorem dX5_refuses_6 : decode cX5_refuses 6 = .ok (.iconst 2, 1) := by decide +kernel
theorem dX5_refuses_7 : decode cX5_refuses 7 = .ok (.invokevirtual 85, 3) := by decide +kernel
theorem dX5_refuses_10 : decode cX5_refuses 10 = .ok (.ireturn, 1) := by decide +kernel
theorem dX5_reserve_0 : decode cX5_reserve 0 = .ok (.aload_n 0, 1) := by decide +kernel
theorem dX5_reserve_1 : decode cX5_reserve 1 = .ok (.iconst 0, 1) := by decide +kernel
theorem dX5_reserve_2 : decode cX5_reserve 2 = .ok (.putfield 22, 3) := by decide +kernel
theorem dX5_reserve_5 : decode cX5_reserve 5 = .ok (.iload_n 1, 1) := by decide +kernel
theorem dX5_reserve_6 : decode cX5_reserve 6 = .ok (.iconst 0, 1) := by decide +kernel
theorem dX5_reserve_7 : decode cX5_reserve 7 = .ok (.iconst 5, 1) := by decide +kernel
theorem dX5_reserve_8 : decode cX5_reserve 8 = .ok (.invokestatic 26, 3) := by decide +kernel
theorem dX5_reserve_11 : decode cX5_reserve 11 = .ok (.ifCond .eq 24, 3) := by decide +kernel
theorem dX5_reserve_14 : decode cX5_reserve 14 = .ok (.iload_n 2, 1) := by decide +kernel
theorem dX5_reserve_15 : decode cX5_reserve 15 = .ok (.iconst 0, 1) := by decide +kernel
theorem dX5_reserve_16 : decode cX5_reserve 16 = .ok (.sipush 1000, 3) := by decide +kernel
theorem dX5_reserve_19 : decode cX5_reserve 19 = .ok (.invokestatic 26, 3) := by decide +kernel
theorem dX5_reserve_22 : decode cX5_reserve 22 = .ok (.ifCond .eq 13, 3) := by decide +kernel
theorem dX5_reserve_25 : decode cX5_reserve 25 = .ok (.iload_n 3, 1) := by decide +kernel
theorem dX5_reserve_26 : decode cX5_reserve 26 = .ok (.iconst 1, 1) := by decide +kernel
theorem dX5_reserve_27 : decode cX5_reserve 27 = .ok (.bipush 40, 2) := by decide +kernel
theorem dX5_reserve_29 : decode cX5_reserve 29 = .ok (.invokestatic 26, 3) := by decide +kernel
theorem dX5_reserve_32 : decode cX5_reserve 32 = .ok (.ifCond .ne 9, 3) := by decide +kernel
theorem dX5_reserve_35 : decode cX5_reserve 35 = .ok (.aload_n 0, 1) := by decide +kernel
theorem dX5_reserve_36 : decode cX5_reserve 36 = .ok (.iconst 1, 1) := by decide +kernel
theorem dX5_reserve_37 : decode cX5_reserve 37 = .ok (.invokevirtual 85, 3) := by decide +kernel
theorem dX5_reserve_40 : decode cX5_reserve 40 = .ok (.ireturn, 1) := by decide +kernel
theorem dX5_reserve_41 : decode cX5_reserve 41 = .ok (.iload_n 2, 1) := by decide +kernel
theorem dX5_reserve_42 : decode cX5_reserve 42 = .ok (.aload_n 0, 1) := by decide +kernel
theorem dX5_reserve_43 : decode cX5_reserve 43 = .ok (.getfield 9, 3) := by decide +kernel
theorem dX5_reserve_46 : decode cX5_reserve 46 = .ok (.iconst 0, 1) := by decide +kernel
theorem dX5_reserve_47 : decode cX5_reserve 47 = .ok (.iaload, 1) := by decide +kernel
theorem dX5_reserve_48 : decode cX5_reserve 48 = .ok (.if_icmp .ge 9, 3) := by decide +kernel
theorem dX5_reserve_51 : decode cX5_reserve 51 = .ok (.aload_n 0, 1) := by decide +kernel
theorem dX5_reserve_52 : decode cX5_reserve 52 = .ok (.iconst 1, 1) := by decide +kernel
theorem dX5_reserve_53 : decode cX5_reserve 53 = .ok (.invokevirtual 104, 3) := by decide +kernel
theorem dX5_reserve_56 : decode cX5_reserve 56 = .ok (.ireturn, 1) := by decide +kernel
theorem dX5_reserve_57 : decode cX5_reserve 57 = .ok (.aload_n 0, 1) := by decide +kernel
theorem dX5_reserve_58 : decode cX5_reserve 58 = .ok (.getfield 9, 3) := by decide +kernel
theorem dX5_reserve_61 : decode cX5_reserve 61 = .ok (.iconst 2, 1) := by decide +kernel
theorem dX5_reserve_62 : decode cX5_reserve 62 = .ok (.iaload, 1) := by decide +kernel
theorem dX5_reserve_63 : decode cX5_reserve 63 = .ok (.bipush 6, 2) := by decide +kernel
theorem dX5_reserve_65 : decode cX5_reserve 65 = .ok (.if_icmp .ne 9, 3) := by decide +kernel
theorem dX5_reserve_68 : decode cX5_reserve 68 = .ok (.aload_n 0, 1) := by decide +kernel
theorem dX5_reserve_69 : decode cX5_reserve 69 = .ok (.iconst 2, 1) := by decide +kernel
theorem dX5_reserve_70 : decode cX5_reserve 70 = .ok (.invokevirtual 104, 3) := by decide +kernel
theorem dX5_reserve_73 : decode cX5_reserve 73 = .ok (.ireturn, 1) := by decide +kernel
theorem dX5_reserve_74 : decode cX5_reserve 74 = .ok (.aload_n 0, 1) := by decide +kernel
theorem dX5_reserve_75 : decode cX5_reserve 75 = .ok (.iload_n 1, 1) := by decide +kernel
theorem dX5_reserve_76 : decode cX5_reserve 76 = .ok (.iload_n 2, 1) := by decide +kernel
theorem dX5_reserve_77 : decode cX5_reserve 77 = .ok (.iload_n 3, 1) := by decide +kernel
theorem dX5_reserve_78 : decode cX5_reserve 78 = .ok (.invokevirtual 52, 3) := by decide +kernel
theorem dX5_reserve_81 : decode cX5_reserve 81 = .ok (.istore 4, 2) := by decide +kernel
theorem dX5_reserve_83 : decode cX5_reserve 83 = .ok (.iload 4, 2) := by decide +kernel
theorem dX5_reserve_85 : decode cX5_reserve 85 = .ok (.ifCond .ge 9, 3) := by decide +kernel
theorem dX5_reserve_88 : decode cX5_reserve 88 = .ok (.aload_n 0, 1) := by decide +kernel
theorem dX5_reserve_89 : decode cX5_reserve 89 = .ok (.iconst 3, 1) := by decide +kernel
theorem dX5_reserve_90 : decode cX5_reserve 90 = .ok (.invokevirtual 104, 3) := by decide +kernel
theorem dX5_reserve_93 : decode cX5_reserve 93 = .ok (.ireturn, 1) := by decide +kernel
theorem dX5_reserve_94 : decode cX5_reserve 94 = .ok (.aload_n 0, 1) := by decide +kernel
theorem dX5_reserve_95 : decode cX5_reserve 95 = .ok (.iconst 0, 1) := by decide +kernel
theorem dX5_reserve_96 : decode cX5_reserve 96 = .ok (.putfield 101, 3) := by decide +kernel
theorem dX5_reserve_99 : decode cX5_reserve 99 = .ok (.sipush 341, 3) := by decide +kernel
theorem dX5_reserve_102 : decode cX5_reserve 102 = .ok (.iconst 4, 1) := by decide +kernel
theorem dX5_reserve_103 : decode cX5_reserve 103 = .ok (.aload_n 0, 1) := by decide +kernel
theorem dX5_reserve_104 : decode cX5_reserve 104 = .ok (.getfield 9, 3) := by decide +kernel
theorem dX5_reserve_107 : decode cX5_reserve 107 = .ok (.iconst 2, 1) := by decide +kernel
theorem dX5_reserve_108 : decode cX5_reserve 108 = .ok (.iaload, 1) := by decide +kernel
theorem dX5_reserve_109 : decode cX5_reserve 109 = .ok (.imul, 1) := by decide +kernel
theorem dX5_reserve_110 : decode cX5_reserve 110 = .ok (.iadd, 1) := by decide +kernel
theorem dX5_reserve_111 : decode cX5_reserve 111 = .ok (.istore 5, 2) := by decide +kernel
theorem dX5_reserve_113 : decode cX5_reserve 113 = .ok (.aload_n 0, 1) := by decide +kernel
theorem dX5_reserve_114 : decode cX5_reserve 114 = .ok (.getfield 9, 3) := by decide +kernel
theorem dX5_reserve_117 : decode cX5_reserve 117 = .ok (.iload 5, 2) := by decide +kernel
theorem dX5_reserve_119 : decode cX5_reserve 119 = .ok (.iload_n 1, 1) := by decide +kernel
theorem dX5_reserve_120 : decode cX5_reserve 120 = .ok (.iastore, 1) := by decide +kernel
theorem dX5_reserve_121 : decode cX5_reserve 121 = .ok (.aload_n 0, 1) := by decide +kernel
theorem dX5_reserve_122 : decode cX5_reserve 122 = .ok (.getfield 9, 3) := by decide +kernel
theorem dX5_reserve_125 : decode cX5_reserve 125 = .ok (.iload 5, 2) := by decide +kernel
theorem dX5_reserve_127 : decode cX5_reserve 127 = .ok (.iconst 1, 1) := by decide +kernel
theorem dX5_reserve_128 : decode cX5_reserve 128 = .ok (.iadd, 1) := by decide +kernel
theorem dX5_reserve_129 : decode cX5_reserve 129 = .ok (.iload 4, 2) := by decide +kernel
theorem dX5_reserve_131 : decode cX5_reserve 131 = .ok (.iastore, 1) := by decide +kernel
theorem dX5_reserve_132 : decode cX5_reserve 132 = .ok (.aload_n 0, 1) := by decide +kernel
theorem dX5_reserve_133 : decode cX5_reserve 133 = .ok (.getfield 9, 3) := by decide +kernel
theorem dX5_reserve_136 : decode cX5_reserve 136 = .ok (.iload 5, 2) := by decide +kernel
theorem dX5_reserve_138 : decode cX5_reserve 138 = .ok (.iconst 2, 1) := by decide +kernel
theorem dX5_reserve_139 : decode cX5_reserve 139 = .ok (.iadd, 1) := by decide +kernel
theorem dX5_reserve_140 : decode cX5_reserve 140 = .ok (.iload_n 2, 1) := by decide +kernel
theorem dX5_reserve_141 : decode cX5_reserve 141 = .ok (.iastore, 1) := by decide +kernel
theorem dX5_reserve_142 : decode cX5_reserve 142 = .ok (.aload_n 0, 1) := by decide +kernel
theorem dX5_reserve_143 : decode cX5_reserve 143 = .ok (.getfield 9, 3) := by decide +kernel
theorem dX5_reserve_146 : decode cX5_reserve 146 = .ok (.iload 5, 2) := by decide +kernel
theorem dX5_reserve_148 : decode cX5_reserve 148 = .ok (.iconst 3, 1) := by decide +kernel
theorem dX5_reserve_149 : decode cX5_reserve 149 = .ok (.iadd, 1) := by decide +kernel
theorem dX5_reserve_150 : decode cX5_reserve 150 = .ok (.iload_n 3, 1) := by decide +kernel
theorem dX5_reserve_151 : decode cX5_reserve 151 = .ok (.iastore, 1) := by decide +kernel
theorem dX5_reserve_152 : decode cX5_reserve 152 = .ok (.aload_n 0, 1) := by decide +kernel
theorem dX5_reserve_153 : decode cX5_reserve 153 = .ok (.getfield 9, 3) := by decide +kernel
theorem dX5_reserve_156 : decode cX5_reserve 156 = .ok (.iconst 2, 1) := by decide +kernel
theorem dX5_reserve_157 : decode cX5_reserve 157 = .ok (.dup2, 1) := by decide +kernel
theorem dX5_reserve_158 : decode cX5_reserve 158 = .ok (.iaload, 1) := by decide +kernel
theorem dX5_reserve_159 : decode cX5_reserve 159 = .ok (.dup_x2, 1) := by decide +kernel
theorem dX5_reserve_160 : decode cX5_reserve 160 = .ok (.iconst 1, 1) := by decide +kernel
theorem dX5_reserve_161 : decode cX5_reserve 161 = .ok (.iadd, 1) := by decide +kernel
theorem dX5_reserve_162 : decode cX5_reserve 162 = .ok (.iastore, 1) := by decide +kernel
theorem dX5_reserve_163 : decode cX5_reserve 163 = .ok (.ireturn, 1) := by decide +kernel
theorem dX5_refusal_0 : decode cX5_refusal 0 = .ok (.aload_n 0, 1) := by decide +kernel
theorem dX5_refusal_1 : decode cX5_refusal 1 = .ok (.iconst 0, 1) := by decide +kernel
theorem dX5_refusal_2 : decode cX5_refusal 2 = .ok (.putfield 22, 3) := by decide +kernel
theorem dX5_refusal_5 : decode cX5_refusal 5 = .ok (.aload_n 0, 1) := by decide +kernel
theorem dX5_refusal_6 : decode cX5_refusal 6 = .ok (.getfield 101, 3) := by decide +kernel
theorem dX5_refusal_9 : decode cX5_refusal 9 = .ok (.ireturn, 1) := by decide +kernel
theorem dX5_cancelReservation_0 : decode cX5_cancelReservation 0 = .ok (.aload_n 0, 1) := by decide +kernel
theorem dX5_cancelReservation_1 : decode cX5_cancelReservation 1 = .ok (.iconst 0, 1) := by decide +kernel
theorem dX5_cancelReservation_2 : decode cX5_cancelReservation 2 = .ok (.putfield 22, 3) := by decide +kernel
theorem dX5_cancelReservation_5 : decode cX5_cancelReservation 5 = .ok (.aload_n 0, 1) := by decide +kernel
theorem dX5_cancelReservation_6 : decode cX5_cancelReservation 6 = .ok (.iload_n 1, 1) := by decide +kernel
theorem dX5_cancelReservation_7 : decode cX5_cancelReservation 7 = .ok (.invokevirtual 107, 3) := by decide +kernel
theorem dX5_cancelReservation_10 : decode cX5_cancelReservation 10 = .ok (.ifCond .ne 9, 3) := by decide +kernel
theorem dX5_cancelReservation_13 : decode cX5_cancelReservation 13 = .ok (.aload_n 0, 1) := by decide +kernel
theorem dX5_cancelReservation_14 : decode cX5_cancelReservation 14 = .ok (.iconst 1, 1) := by decide +kernel
theorem dX5_cancelReservation_15 : decode cX5_cancelReservation 15 = .ok (.putfield 22, 3) := by decide +kernel
theorem dX5_cancelReservation_18 : decode cX5_cancelReservation 18 = .ok (.return_, 1) := by decide +kernel
theorem dX5_cancelReservation_19 : decode cX5_cancelReservation 19 = .ok (.aload_n 0, 1) := by decide +kernel
theorem dX5_cancelReservation_20 : decode cX5_cancelReservation 20 = .ok (.iload_n 1, 1) := by decide +kernel
theorem dX5_cancelReservation_21 : decode cX5_cancelReservation 21 = .ok (.iconst 3, 1) := by decide +kernel
theorem dX5_cancelReservation_22 : decode cX5_cancelReservation 22 = .ok (.invokevirtual 42, 3) := by decide +kernel
theorem dX5_cancelReservation_25 : decode cX5_cancelReservation 25 = .ok (.ifCond .ne 9, 3) := by decide +kernel
theorem dX5_cancelReservation_28 : decode cX5_cancelReservation 28 = .ok (.aload_n 0, 1) := by decide +kernel
theorem dX5_cancelReservation_29 : decode cX5_cancelReservation 29 = .ok (.iconst 2, 1) := by decide +kernel
theorem dX5_cancelReservation_30 : decode cX5_cancelReservation 30 = .ok (.putfield 22, 3) := by decide +kernel
theorem dX5_cancelReservation_33 : decode cX5_cancelReservation 33 = .ok (.return_, 1) := by decide +kernel
theorem dX5_cancelReservation_34 : decode cX5_cancelReservation 34 = .ok (.aload_n 0, 1) := by decide +kernel
theorem dX5_cancelReservation_35 : decode cX5_cancelReservation 35 = .ok (.getfield 9, 3) := by decide +kernel
theorem dX5_cancelReservation_38 : decode cX5_cancelReservation 38 = .ok (.sipush 341, 3) := by decide +kernel
theorem dX5_cancelReservation_41 : decode cX5_cancelReservation 41 = .ok (.iconst 4, 1) := by decide +kernel
theorem dX5_cancelReservation_42 : decode cX5_cancelReservation 42 = .ok (.iload_n 1, 1) := by decide +kernel
theorem dX5_cancelReservation_43 : decode cX5_cancelReservation 43 = .ok (.imul, 1) := by decide +kernel
theorem dX5_cancelReservation_44 : decode cX5_cancelReservation 44 = .ok (.iadd, 1) := by decide +kernel
theorem dX5_cancelReservation_45 : decode cX5_cancelReservation 45 = .ok (.iconst 3, 1) := by decide +kernel
theorem dX5_cancelReservation_46 : decode cX5_cancelReservation 46 = .ok (.iadd, 1) := by decide +kernel
theorem dX5_cancelReservation_47 : decode cX5_cancelReservation 47 = .ok (.iconst 0, 1) := by decide +kernel
theorem dX5_cancelReservation_48 : decode cX5_cancelReservation 48 = .ok (.iastore, 1) := by decide +kernel
theorem dX5_cancelReservation_49 : decode cX5_cancelReservation 49 = .ok (.aload_n 0, 1) := by decide +kernel
theorem dX5_cancelReservation_50 : decode cX5_cancelReservation 50 = .ok (.invokevirtual 91, 3) := by decide +kernel
theorem dX5_cancelReservation_53 : decode cX5_cancelReservation 53 = .ok (.aload_n 0, 1) := by decide +kernel
theorem dX5_cancelReservation_54 : decode cX5_cancelReservation 54 = .ok (.invokevirtual 88, 3) := by decide +kernel
theorem dX5_cancelReservation_57 : decode cX5_cancelReservation 57 = .ok (.return_, 1) := by decide +kernel
theorem dX5_reservedProcessor_0 : decode cX5_reservedProcessor 0 = .ok (.aload_n 0, 1) := by decide +kernel
theorem dX5_reservedProcessor_1 : decode cX5_reservedProcessor 1 = .ok (.iconst 0, 1) := by decide +kernel
theorem dX5_reservedProcessor_2 : decode cX5_reservedProcessor 2 = .ok (.putfield 22, 3) := by decide +kernel
theorem dX5_reservedProcessor_5 : decode cX5_reservedProcessor 5 = .ok (.aload_n 0, 1) := by decide +kernel
theorem dX5_reservedProcessor_6 : decode cX5_reservedProcessor 6 = .ok (.iload_n 1, 1) := by decide +kernel
theorem dX5_reservedProcessor_7 : decode cX5_reservedProcessor 7 = .ok (.invokevirtual 107, 3) := by decide +kernel
theorem dX5_reservedProcessor_10 : decode cX5_reservedProcessor 10 = .ok (.ifCond .ne 9, 3) := by decide +kernel
theorem dX5_reservedProcessor_13 : decode cX5_reservedProcessor 13 = .ok (.aload_n 0, 1) := by decide +kernel
theorem dX5_reservedProcessor_14 : decode cX5_reservedProcessor 14 = .ok (.iconst 1, 1) := by decide +kernel
theorem dX5_reservedProcessor_15 : decode cX5_reservedProcessor 15 = .ok (.invokevirtual 85, 3) := by decide +kernel
theorem dX5_reservedProcessor_18 : decode cX5_reservedProcessor 18 = .ok (.ireturn, 1) := by decide +kernel
theorem dX5_reservedProcessor_19 : decode cX5_reservedProcessor 19 = .ok (.aload_n 0, 1) := by decide +kernel
theorem dX5_reservedProcessor_20 : decode cX5_reservedProcessor 20 = .ok (.iload_n 1, 1) := by decide +kernel
theorem dX5_reservedProcessor_21 : decode cX5_reservedProcessor 21 = .ok (.iconst 3, 1) := by decide +kernel
theorem dX5_reservedProcessor_22 : decode cX5_reservedProcessor 22 = .ok (.invokevirtual 42, 3) := by decide +kernel
theorem dX5_reservedProcessor_25 : decode cX5_reservedProcessor 25 = .ok (.ifCond .ne 11, 3) := by decide +kernel
theorem dX5_reservedProcessor_28 : decode cX5_reservedProcessor 28 = .ok (.aload_n 0, 1) := by decide +kernel
theorem dX5_reservedProcessor_29 : decode cX5_reservedProcessor 29 = .ok (.iconst 2, 1) := by decide +kernel
theorem dX5_reservedProcessor_30 : decode cX5_reservedProcessor 30 = .ok (.invokevirtual 85, 3) := by decide +kernel
theorem dX5_reservedProcessor_33 : decode cX5_reservedProcessor 33 = .ok (.goto 9, 3) := by decide +kernel
theorem dX5_reservedProcessor_36 : decode cX5_reservedProcessor 36 = .ok (.aload_n 0, 1) := by decide +kernel
theorem dX5_reservedProcessor_37 : decode cX5_reservedProcessor 37 = .ok (.iload_n 1, 1) := by decide +kernel
theorem dX5_reservedProcessor_38 : decode cX5_reservedProcessor 38 = .ok (.iconst 1, 1) := by decide +kernel
theorem dX5_reservedProcessor_39 : decode cX5_reservedProcessor 39 = .ok (.invokevirtual 42, 3) := by decide +kernel
theorem dX5_reservedProcessor_42 : decode cX5_reservedProcessor 42 = .ok (.ireturn, 1) := by decide +kernel
theorem dX5_setFair_0 : decode cX5_setFair 0 = .ok (.aload_n 0, 1) := by decide +kernel
theorem dX5_setFair_1 : decode cX5_setFair 1 = .ok (.iconst 0, 1) := by decide +kernel
theorem dX5_setFair_2 : decode cX5_setFair 2 = .ok (.putfield 22, 3) := by decide +kernel
theorem dX5_setFair_5 : decode cX5_setFair 5 = .ok (.aload_n 0, 1) := by decide +kernel
theorem dX5_setFair_6 : decode cX5_setFair 6 = .ok (.getfield 9, 3) := by decide +kernel
theorem dX5_setFair_9 : decode cX5_setFair 9 = .ok (.iconst 3, 1) := by decide +kernel
theorem dX5_setFair_10 : decode cX5_setFair 10 = .ok (.iaload, 1) := by decide +kernel
theorem dX5_setFair_11 : decode cX5_setFair 11 = .ok (.iconst 1, 1) := by decide +kernel
theorem dX5_setFair_12 : decode cX5_setFair 12 = .ok (.if_icmp .ne 7, 3) := by decide +kernel
theorem dX5_setFair_15 : decode cX5_setFair 15 = .ok (.iconst 1, 1) := by decide +kernel
theorem dX5_setFair_16 : decode cX5_setFair 16 = .ok (.goto 4, 3) := by decide +kernel
theorem dX5_setFair_19 : decode cX5_setFair 19 = .ok (.iconst 0, 1) := by decide +kernel
theorem dX5_setFair_20 : decode cX5_setFair 20 = .ok (.istore_n 2, 1) := by decide +kernel
theorem dX5_setFair_21 : decode cX5_setFair 21 = .ok (.aload_n 0, 1) := by decide +kernel
theorem dX5_setFair_22 : decode cX5_setFair 22 = .ok (.getfield 9, 3) := by decide +kernel
theorem dX5_setFair_25 : decode cX5_setFair 25 = .ok (.iconst 3, 1) := by decide +kernel
theorem dX5_setFair_26 : decode cX5_setFair 26 = .ok (.iload_n 1, 1) := by decide +kernel
theorem dX5_setFair_27 : decode cX5_setFair 27 = .ok (.ifCond .eq 7, 3) := by decide +kernel
theorem dX5_setFair_30 : decode cX5_setFair 30 = .ok (.iconst 1, 1) := by decide +kernel
theorem dX5_setFair_31 : decode cX5_setFair 31 = .ok (.goto 4, 3) := by decide +kernel
theorem dX5_setFair_34 : decode cX5_setFair 34 = .ok (.iconst 0, 1) := by decide +kernel
theorem dX5_setFair_35 : decode cX5_setFair 35 = .ok (.iastore, 1) := by decide +kernel
theorem dX5_setFair_36 : decode cX5_setFair 36 = .ok (.iload_n 2, 1) := by decide +kernel
theorem dX5_setFair_37 : decode cX5_setFair 37 = .ok (.ireturn, 1) := by decide +kernel
theorem dX5_clock_0 : decode cX5_clock 0 = .ok (.aload_n 0, 1) := by decide +kernel
theorem dX5_clock_1 : decode cX5_clock 1 = .ok (.iconst 0, 1) := by decide +kernel
theorem dX5_clock_2 : decode cX5_clock 2 = .ok (.putfield 22, 3) := by decide +kernel
theorem dX5_clock_5 : decode cX5_clock 5 = .ok (.aload_n 0, 1) := by decide +kernel
theorem dX5_clock_6 : decode cX5_clock 6 = .ok (.getfield 9, 3) := by decide +kernel
theorem dX5_clock_9 : decode cX5_clock 9 = .ok (.iconst 0, 1) := by decide +kernel
theorem dX5_clock_10 : decode cX5_clock 10 = .ok (.iaload, 1) := by decide +kernel
theorem dX5_clock_11 : decode cX5_clock 11 = .ok (.ireturn, 1) := by decide +kernel
theorem dX5_jobCount_0 : decode cX5_jobCount 0 = .ok (.aload_n 0, 1) := by decide +kernel
theorem dX5_jobCount_1 : decode cX5_jobCount 1 = .ok (.iconst 0, 1) := by decide +kernel
theorem dX5_jobCount_2 : decode cX5_jobCount 2 = .ok (.putfield 22, 3) := by decide +kernel
theorem dX5_jobCount_5 : decode cX5_jobCount 5 = .ok (.aload_n 0, 1) := by decide +kernel
theorem dX5_jobCount_6 : decode cX5_jobCount 6 = .ok (.getfield 9, 3) := by decide +kernel
theorem dX5_jobCount_9 : decode cX5_jobCount 9 = .ok (.iconst 1, 1) := by decide +kernel
theorem dX5_jobCount_10 : decode cX5_jobCount 10 = .ok (.iaload, 1) := by decide +kernel
theorem dX5_jobCount_11 : decode cX5_jobCount 11 = .ok (.ireturn, 1) := by decide +kernel
theorem dX5_state_0 : decode cX5_state 0 = .ok (.aload_n 0, 1) := by decide +kernel
theorem dX5_state_1 : decode cX5_state 1 = .ok (.iconst 0, 1) := by decide +kernel
theorem dX5_state_2 : decode cX5_state 2 = .ok (.putfield 22, 3) := by decide +kernel
theorem dX5_state_5 : decode cX5_state 5 = .ok (.aload_n 0, 1) := by decide +kernel
theorem dX5_state_6 : decode cX5_state 6 = .ok (.iload_n 1, 1) := by decide +kernel
theorem dX5_state_7 : decode cX5_state 7 = .ok (.invokevirtual 98, 3) := by decide +kernel
theorem dX5_state_10 : decode cX5_state 10 = .ok (.ifCond .eq 12, 3) := by decide +kernel
theorem dX5_state_13 : decode cX5_state 13 = .ok (.aload_n 0, 1) := by decide +kernel
theorem dX5_state_14 : decode cX5_state 14 = .ok (.iload_n 1, 1) := by decide +kernel
theorem dX5_state_15 : decode cX5_state 15 = .ok (.iconst 4, 1) := by decide +kernel
theorem dX5_state_16 : decode cX5_state 16 = .ok (.invokevirtual 30, 3) := by decide +kernel
theorem dX5_state_19 : decode cX5_state 19 = .ok (.goto 8, 3) := by decide +kernel
theorem dX5_state_22 : decode cX5_state 22 = .ok (.aload_n 0, 1) := by decide +kernel
theorem dX5_state_23 : decode cX5_state 23 = .ok (.iconst 1, 1) := by decide +kernel
theorem dX5_state_24 : decode cX5_state 24 = .ok (.invokevirtual 85, 3) := by decide +kernel
theorem dX5_state_27 : decode cX5_state 27 = .ok (.ireturn, 1) := by decide +kernel
theorem dX5_ofAllocated_0 : decode cX5_ofAllocated 0 = .ok (.aload_n 0, 1) := by decide +kernel
theorem dX5_ofAllocated_1 : decode cX5_ofAllocated 1 = .ok (.iconst 0, 1) := by decide +kernel
theorem dX5_ofAllocated_2 : decode cX5_ofAllocated 2 = .ok (.putfield 22, 3) := by decide +kernel
theorem dX5_ofAllocated_5 : decode cX5_ofAllocated 5 = .ok (.aload_n 0, 1) := by decide +kernel
theorem dX5_ofAllocated_6 : decode cX5_ofAllocated 6 = .ok (.iload_n 1, 1) := by decide +kernel
theorem dX5_ofAllocated_7 : decode cX5_ofAllocated 7 = .ok (.invokevirtual 98, 3) := by decide +kernel
theorem dX5_ofAllocated_10 : decode cX5_ofAllocated 10 = .ok (.ifCond .ne 9, 3) := by decide +kernel
theorem dX5_ofAllocated_13 : decode cX5_ofAllocated 13 = .ok (.aload_n 0, 1) := by decide +kernel
theorem dX5_ofAllocated_14 : decode cX5_ofAllocated 14 = .ok (.iconst 1, 1) := by decide +kernel
theorem dX5_ofAllocated_15 : decode cX5_ofAllocated 15 = .ok (.invokevirtual 85, 3) := by decide +kernel
theorem dX5_ofAllocated_18 : decode cX5_ofAllocated 18 = .ok (.ireturn, 1) := by decide +kernel
theorem dX5_ofAllocated_19 : decode cX5_ofAllocated 19 = .ok (.aload_n 0, 1) := by decide +kernel
theorem dX5_ofAllocated_20 : decode cX5_ofAllocated 20 = .ok (.iload_n 1, 1) := by decide +kernel
theorem dX5_ofAllocated_21 : decode cX5_ofAllocated 21 = .ok (.invokevirtual 34, 3) := by decide +kernel
theorem dX5_ofAllocated_24 : decode cX5_ofAllocated 24 = .ok (.ifCond .eq 12, 3) := by decide +kernel
theorem dX5_ofAllocated_27 : decode cX5_ofAllocated 27 = .ok (.aload_n 0, 1) := by decide +kernel
theorem dX5_ofAllocated_28 : decode cX5_ofAllocated 28 = .ok (.iload_n 1, 1) := by decide +kernel
theorem dX5_ofAllocated_29 : decode cX5_ofAllocated 29 = .ok (.iload_n 2, 1) := by decide +kernel
theorem dX5_ofAllocated_30 : decode cX5_ofAllocated 30 = .ok (.invokevirtual 30, 3) := by decide +kernel
theorem dX5_ofAllocated_33 : decode cX5_ofAllocated 33 = .ok (.goto 8, 3) := by decide +kernel
theorem dX5_ofAllocated_36 : decode cX5_ofAllocated 36 = .ok (.aload_n 0, 1) := by decide +kernel
theorem dX5_ofAllocated_37 : decode cX5_ofAllocated 37 = .ok (.iconst 2, 1) := by decide +kernel
theorem dX5_ofAllocated_38 : decode cX5_ofAllocated 38 = .ok (.invokevirtual 85, 3) := by decide +kernel
theorem dX5_ofAllocated_41 : decode cX5_ofAllocated 41 = .ok (.ireturn, 1) := by decide +kernel
theorem dX5_startTime_0 : decode cX5_startTime 0 = .ok (.aload_n 0, 1) := by decide +kernel
theorem dX5_startTime_1 : decode cX5_startTime 1 = .ok (.iload_n 1, 1) := by decide +kernel
theorem dX5_startTime_2 : decode cX5_startTime 2 = .ok (.bipush 6, 2) := by decide +kernel
theorem dX5_startTime_4 : decode cX5_startTime 4 = .ok (.invokevirtual 110, 3) := by decide +kernel
theorem dX5_startTime_7 : decode cX5_startTime 7 = .ok (.ireturn, 1) := by decide +kernel
theorem dX5_firstProcessor_0 : decode cX5_firstProcessor 0 = .ok (.aload_n 0, 1) := by decide +kernel
theorem dX5_firstProcessor_1 : decode cX5_firstProcessor 1 = .ok (.iload_n 1, 1) := by decide +kernel
theorem dX5_firstProcessor_2 : decode cX5_firstProcessor 2 = .ok (.iconst 5, 1) := by decide +kernel
theorem dX5_firstProcessor_3 : decode cX5_firstProcessor 3 = .ok (.invokevirtual 110, 3) := by decide +kernel
theorem dX5_firstProcessor_6 : decode cX5_firstProcessor 6 = .ok (.ireturn, 1) := by decide +kernel
theorem dX5_promise_0 : decode cX5_promise 0 = .ok (.aload_n 0, 1) := by decide +kernel
theorem dX5_promise_1 : decode cX5_promise 1 = .ok (.iconst 0, 1) := by decide +kernel
theorem dX5_promise_2 : decode cX5_promise 2 = .ok (.putfield 22, 3) := by decide +kernel
theorem dX5_promise_5 : decode cX5_promise 5 = .ok (.aload_n 0, 1) := by decide +kernel
theorem dX5_promise_6 : decode cX5_promise 6 = .ok (.iload_n 1, 1) := by decide +kernel
theorem dX5_promise_7 : decode cX5_promise 7 = .ok (.invokevirtual 98, 3) := by decide +kernel
theorem dX5_promise_10 : decode cX5_promise 10 = .ok (.ifCond .eq 13, 3) := by decide +kernel
theorem dX5_promise_13 : decode cX5_promise 13 = .ok (.aload_n 0, 1) := by decide +kernel
theorem dX5_promise_14 : decode cX5_promise 14 = .ok (.iload_n 1, 1) := by decide +kernel
theorem dX5_promise_15 : decode cX5_promise 15 = .ok (.bipush 7, 2) := by decide +kernel
theorem dX5_promise_17 : decode cX5_promise 17 = .ok (.invokevirtual 30, 3) := by decide +kernel
theorem dX5_promise_20 : decode cX5_promise 20 = .ok (.goto 8, 3) := by decide +kernel
theorem dX5_promise_23 : decode cX5_promise 23 = .ok (.aload_n 0, 1) := by decide +kernel
theorem dX5_promise_24 : decode cX5_promise 24 = .ok (.iconst 1, 1) := by decide +kernel
theorem dX5_promise_25 : decode cX5_promise 25 = .ok (.invokevirtual 85, 3) := by decide +kernel
theorem dX5_promise_28 : decode cX5_promise 28 = .ok (.ireturn, 1) := by decide +kernel
theorem dX5_finishTime_0 : decode cX5_finishTime 0 = .ok (.aload_n 0, 1) := by decide +kernel
theorem dX5_finishTime_1 : decode cX5_finishTime 1 = .ok (.iconst 0, 1) := by decide +kernel
theorem dX5_finishTime_2 : decode cX5_finishTime 2 = .ok (.putfield 22, 3) := by decide +kernel
theorem dX5_finishTime_5 : decode cX5_finishTime 5 = .ok (.aload_n 0, 1) := by decide +kernel
theorem dX5_finishTime_6 : decode cX5_finishTime 6 = .ok (.iload_n 1, 1) := by decide +kernel
theorem dX5_finishTime_7 : decode cX5_finishTime 7 = .ok (.invokevirtual 98, 3) := by decide +kernel
theorem dX5_finishTime_10 : decode cX5_finishTime 10 = .ok (.ifCond .ne 9, 3) := by decide +kernel
theorem dX5_finishTime_13 : decode cX5_finishTime 13 = .ok (.aload_n 0, 1) := by decide +kernel
theorem dX5_finishTime_14 : decode cX5_finishTime 14 = .ok (.iconst 1, 1) := by decide +kernel
theorem dX5_finishTime_15 : decode cX5_finishTime 15 = .ok (.invokevirtual 85, 3) := by decide +kernel
theorem dX5_finishTime_18 : decode cX5_finishTime 18 = .ok (.ireturn, 1) := by decide +kernel
theorem dX5_finishTime_19 : decode cX5_finishTime 19 = .ok (.aload_n 0, 1) := by decide +kernel
theorem dX5_finishTime_20 : decode cX5_finishTime 20 = .ok (.iload_n 1, 1) := by decide +kernel
theorem dX5_finishTime_21 : decode cX5_finishTime 21 = .ok (.iconst 4, 1) := by decide +kernel
theorem dX5_finishTime_22 : decode cX5_finishTime 22 = .ok (.invokevirtual 30, 3) := by decide +kernel
theorem dX5_finishTime_25 : decode cX5_finishTime 25 = .ok (.iconst 2, 1) := by decide +kernel
theorem dX5_finishTime_26 : decode cX5_finishTime 26 = .ok (.if_icmp .ne 13, 3) := by decide +kernel
theorem dX5_finishTime_29 : decode cX5_finishTime 29 = .ok (.aload_n 0, 1) := by decide +kernel
theorem dX5_finishTime_30 : decode cX5_finishTime 30 = .ok (.iload_n 1, 1) := by decide +kernel
theorem dX5_finishTime_31 : decode cX5_finishTime 31 = .ok (.bipush 10, 2) := by decide +kernel
theorem dX5_finishTime_33 : decode cX5_finishTime 33 = .ok (.invokevirtual 30, 3) := by decide +kernel
theorem dX5_finishTime_36 : decode cX5_finishTime 36 = .ok (.goto 8, 3) := by decide +kernel
theorem dX5_finishTime_39 : decode cX5_finishTime 39 = .ok (.aload_n 0, 1) := by decide +kernel
theorem dX5_finishTime_40 : decode cX5_finishTime 40 = .ok (.iconst 2, 1) := by decide +kernel
theorem dX5_finishTime_41 : decode cX5_finishTime 41 = .ok (.invokevirtual 85, 3) := by decide +kernel
theorem dX5_finishTime_44 : decode cX5_finishTime 44 = .ok (.ireturn, 1) := by decide +kernel
theorem dX5_preemptions_0 : decode cX5_preemptions 0 = .ok (.aload_n 0, 1) := by decide +kernel
theorem dX5_preemptions_1 : decode cX5_preemptions 1 = .ok (.iconst 0, 1) := by decide +kernel
theorem dX5_preemptions_2 : decode cX5_preemptions 2 = .ok (.putfield 22, 3) := by decide +kernel
theorem dX5_preemptions_5 : decode cX5_preemptions 5 = .ok (.aload_n 0, 1) := by decide +kernel
theorem dX5_preemptions_6 : decode cX5_preemptions 6 = .ok (.iload_n 1, 1) := by decide +kernel
theorem dX5_preemptions_7 : decode cX5_preemptions 7 = .ok (.invokevirtual 98, 3) := by decide +kernel
theorem dX5_preemptions_10 : decode cX5_preemptions 10 = .ok (.ifCond .eq 13, 3) := by decide +kernel
theorem dX5_preemptions_13 : decode cX5_preemptions 13 = .ok (.aload_n 0, 1) := by decide +kernel
theorem dX5_preemptions_14 : decode cX5_preemptions 14 = .ok (.iload_n 1, 1) := by decide +kernel
theorem dX5_preemptions_15 : decode cX5_preemptions 15 = .ok (.bipush 11, 2) := by decide +kernel
theorem dX5_preemptions_17 : decode cX5_preemptions 17 = .ok (.invokevirtual 30, 3) := by decide +kernel
theorem dX5_preemptions_20 : decode cX5_preemptions 20 = .ok (.goto 8, 3) := by decide +kernel
theorem dX5_preemptions_23 : decode cX5_preemptions 23 = .ok (.aload_n 0, 1) := by decide +kernel
theorem dX5_preemptions_24 : decode cX5_preemptions 24 = .ok (.iconst 1, 1) := by decide +kernel
theorem dX5_preemptions_25 : decode cX5_preemptions 25 = .ok (.invokevirtual 85, 3) := by decide +kernel
theorem dX5_preemptions_28 : decode cX5_preemptions 28 = .ok (.ireturn, 1) := by decide +kernel
theorem dX5_waitTime_0 : decode cX5_waitTime 0 = .ok (.aload_n 0, 1) := by decide +kernel
theorem dX5_waitTime_1 : decode cX5_waitTime 1 = .ok (.iconst 0, 1) := by decide +kernel
theorem dX5_waitTime_2 : decode cX5_waitTime 2 = .ok (.putfield 22, 3) := by decide +kernel
theorem dX5_waitTime_5 : decode cX5_waitTime 5 = .ok (.aload_n 0, 1) := by decide +kernel
theorem dX5_waitTime_6 : decode cX5_waitTime 6 = .ok (.iload_n 1, 1) := by decide +kernel
theorem dX5_waitTime_7 : decode cX5_waitTime 7 = .ok (.invokevirtual 98, 3) := by decide +kernel
theorem dX5_waitTime_10 : decode cX5_waitTime 10 = .ok (.ifCond .ne 9, 3) := by decide +kernel
theorem dX5_waitTime_13 : decode cX5_waitTime 13 = .ok (.aload_n 0, 1) := by decide +kernel
theorem dX5_waitTime_14 : decode cX5_waitTime 14 = .ok (.iconst 1, 1) := by decide +kernel
theorem dX5_waitTime_15 : decode cX5_waitTime 15 = .ok (.invokevirtual 85, 3) := by decide +kernel
theorem dX5_waitTime_18 : decode cX5_waitTime 18 = .ok (.ireturn, 1) := by decide +kernel
theorem dX5_waitTime_19 : decode cX5_waitTime 19 = .ok (.aload_n 0, 1) := by decide +kernel
theorem dX5_waitTime_20 : decode cX5_waitTime 20 = .ok (.iload_n 1, 1) := by decide +kernel
theorem dX5_waitTime_21 : decode cX5_waitTime 21 = .ok (.bipush 12, 2) := by decide +kernel
theorem dX5_waitTime_23 : decode cX5_waitTime 23 = .ok (.invokevirtual 30, 3) := by decide +kernel
theorem dX5_waitTime_26 : decode cX5_waitTime 26 = .ok (.ifCond .ge 11, 3) := by decide +kernel
theorem dX5_waitTime_29 : decode cX5_waitTime 29 = .ok (.aload_n 0, 1) := by decide +kernel
theorem dX5_waitTime_30 : decode cX5_waitTime 30 = .ok (.iconst 2, 1) := by decide +kernel
theorem dX5_waitTime_31 : decode cX5_waitTime 31 = .ok (.invokevirtual 85, 3) := by decide +kernel
theorem dX5_waitTime_34 : decode cX5_waitTime 34 = .ok (.goto 18, 3) := by decide +kernel
theorem dX5_waitTime_37 : decode cX5_waitTime 37 = .ok (.aload_n 0, 1) := by decide +kernel
theorem dX5_waitTime_38 : decode cX5_waitTime 38 = .ok (.iload_n 1, 1) := by decide +kernel
theorem dX5_waitTime_39 : decode cX5_waitTime 39 = .ok (.bipush 12, 2) := by decide +kernel
theorem dX5_waitTime_41 : decode cX5_waitTime 41 = .ok (.invokevirtual 30, 3) := by decide +kernel
theorem dX5_waitTime_44 : decode cX5_waitTime 44 = .ok (.aload_n 0, 1) := by decide +kernel
theorem dX5_waitTime_45 : decode cX5_waitTime 45 = .ok (.iload_n 1, 1) := by decide +kernel
theorem dX5_waitTime_46 : decode cX5_waitTime 46 = .ok (.bipush 8, 2) := by decide +kernel
theorem dX5_waitTime_48 : decode cX5_waitTime 48 = .ok (.invokevirtual 30, 3) := by decide +kernel
theorem dX5_waitTime_51 : decode cX5_waitTime 51 = .ok (.isub, 1) := by decide +kernel
theorem dX5_waitTime_52 : decode cX5_waitTime 52 = .ok (.ireturn, 1) := by decide +kernel
theorem dX5_averageWait_0 : decode cX5_averageWait 0 = .ok (.aload_n 0, 1) := by decide +kernel
theorem dX5_averageWait_1 : decode cX5_averageWait 1 = .ok (.iconst 0, 1) := by decide +kernel
theorem dX5_averageWait_2 : decode cX5_averageWait 2 = .ok (.putfield 22, 3) := by decide +kernel
theorem dX5_averageWait_5 : decode cX5_averageWait 5 = .ok (.iconst 0, 1) := by decide +kernel
theorem dX5_averageWait_6 : decode cX5_averageWait 6 = .ok (.istore_n 1, 1) := by decide +kernel
theorem dX5_averageWait_7 : decode cX5_averageWait 7 = .ok (.iconst 0, 1) := by decide +kernel
theorem dX5_averageWait_8 : decode cX5_averageWait 8 = .ok (.istore_n 2, 1) := by decide +kernel
theorem dX5_averageWait_9 : decode cX5_averageWait 9 = .ok (.iconst 0, 1) := by decide +kernel
theorem dX5_averageWait_10 : decode cX5_averageWait 10 = .ok (.istore_n 3, 1) := by decide +kernel
theorem dX5_averageWait_11 : decode cX5_averageWait 11 = .ok (.iload_n 3, 1) := by decide +kernel
theorem dX5_averageWait_12 : decode cX5_averageWait 12 = .ok (.aload_n 0, 1) := by decide +kernel
theorem dX5_averageWait_13 : decode cX5_averageWait 13 = .ok (.getfield 9, 3) := by decide +kernel
theorem dX5_averageWait_16 : decode cX5_averageWait 16 = .ok (.iconst 1, 1) := by decide +kernel
theorem dX5_averageWait_17 : decode cX5_averageWait 17 = .ok (.iaload, 1) := by decide +kernel
theorem dX5_averageWait_18 : decode cX5_averageWait 18 = .ok (.if_icmp .ge 43, 3) := by decide +kernel
theorem dX5_averageWait_21 : decode cX5_averageWait 21 = .ok (.aload_n 0, 1) := by decide +kernel
theorem dX5_averageWait_22 : decode cX5_averageWait 22 = .ok (.iload_n 3, 1) := by decide +kernel
theorem dX5_averageWait_23 : decode cX5_averageWait 23 = .ok (.bipush 12, 2) := by decide +kernel
theorem dX5_averageWait_25 : decode cX5_averageWait 25 = .ok (.invokevirtual 30, 3) := by decide +kernel
theorem dX5_averageWait_28 : decode cX5_averageWait 28 = .ok (.ifCond .ge 6, 3) := by decide +kernel
theorem dX5_averageWait_31 : decode cX5_averageWait 31 = .ok (.goto 24, 3) := by decide +kernel
theorem dX5_averageWait_34 : decode cX5_averageWait 34 = .ok (.iload_n 1, 1) := by decide +kernel
theorem dX5_averageWait_35 : decode cX5_averageWait 35 = .ok (.aload_n 0, 1) := by decide +kernel
theorem dX5_averageWait_36 : decode cX5_averageWait 36 = .ok (.iload_n 3, 1) := by decide +kernel
theorem dX5_averageWait_37 : decode cX5_averageWait 37 = .ok (.bipush 12, 2) := by decide +kernel
theorem dX5_averageWait_39 : decode cX5_averageWait 39 = .ok (.invokevirtual 30, 3) := by decide +kernel
theorem dX5_averageWait_42 : decode cX5_averageWait 42 = .ok (.aload_n 0, 1) := by decide +kernel
theorem dX5_averageWait_43 : decode cX5_averageWait 43 = .ok (.iload_n 3, 1) := by decide +kernel
theorem dX5_averageWait_44 : decode cX5_averageWait 44 = .ok (.bipush 8, 2) := by decide +kernel
theorem dX5_averageWait_46 : decode cX5_averageWait 46 = .ok (.invokevirtual 30, 3) := by decide +kernel
theorem dX5_averageWait_49 : decode cX5_averageWait 49 = .ok (.isub, 1) := by decide +kernel
theorem dX5_averageWait_50 : decode cX5_averageWait 50 = .ok (.iadd, 1) := by decide +kernel
theorem dX5_averageWait_51 : decode cX5_averageWait 51 = .ok (.istore_n 1, 1) := by decide +kernel
theorem dX5_averageWait_52 : decode cX5_averageWait 52 = .ok (.iinc 2 1, 3) := by decide +kernel
theorem dX5_averageWait_55 : decode cX5_averageWait 55 = .ok (.iinc 3 1, 3) := by decide +kernel
theorem dX5_averageWait_58 : decode cX5_averageWait 58 = .ok (.goto (-47), 3) := by decide +kernel
theorem dX5_averageWait_61 : decode cX5_averageWait 61 = .ok (.iload_n 2, 1) := by decide +kernel
theorem dX5_averageWait_62 : decode cX5_averageWait 62 = .ok (.ifCond .ne 12, 3) := by decide +kernel
theorem dX5_averageWait_65 : decode cX5_averageWait 65 = .ok (.aload_n 0, 1) := by decide +kernel
theorem dX5_averageWait_66 : decode cX5_averageWait 66 = .ok (.iconst 1, 1) := by decide +kernel
theorem dX5_averageWait_67 : decode cX5_averageWait 67 = .ok (.invokevirtual 85, 3) := by decide +kernel
theorem dX5_averageWait_70 : decode cX5_averageWait 70 = .ok (.i2d, 1) := by decide +kernel
theorem dX5_averageWait_71 : decode cX5_averageWait 71 = .ok (.goto 8, 3) := by decide +kernel
theorem dX5_averageWait_74 : decode cX5_averageWait 74 = .ok (.iload_n 1, 1) := by decide +kernel
theorem dX5_averageWait_75 : decode cX5_averageWait 75 = .ok (.i2d, 1) := by decide +kernel
theorem dX5_averageWait_76 : decode cX5_averageWait 76 = .ok (.iload_n 2, 1) := by decide +kernel
theorem dX5_averageWait_77 : decode cX5_averageWait 77 = .ok (.i2d, 1) := by decide +kernel
theorem dX5_averageWait_78 : decode cX5_averageWait 78 = .ok (.ddiv, 1) := by decide +kernel
theorem dX5_averageWait_79 : decode cX5_averageWait 79 = .ok (.dreturn, 1) := by decide +kernel
theorem dX5_slowdown_0 : decode cX5_slowdown 0 = .ok (.aload_n 0, 1) := by decide +kernel
theorem dX5_slowdown_1 : decode cX5_slowdown 1 = .ok (.iconst 0, 1) := by decide +kernel
theorem dX5_slowdown_2 : decode cX5_slowdown 2 = .ok (.putfield 22, 3) := by decide +kernel
theorem dX5_slowdown_5 : decode cX5_slowdown 5 = .ok (.aload_n 0, 1) := by decide +kernel
theorem dX5_slowdown_6 : decode cX5_slowdown 6 = .ok (.iload_n 1, 1) := by decide +kernel
theorem dX5_slowdown_7 : decode cX5_slowdown 7 = .ok (.invokevirtual 98, 3) := by decide +kernel
theorem dX5_slowdown_10 : decode cX5_slowdown 10 = .ok (.ifCond .ne 10, 3) := by decide +kernel
theorem dX5_slowdown_13 : decode cX5_slowdown 13 = .ok (.aload_n 0, 1) := by decide +kernel
theorem dX5_slowdown_14 : decode cX5_slowdown 14 = .ok (.iconst 1, 1) := by decide +kernel
theorem dX5_slowdown_15 : decode cX5_slowdown 15 = .ok (.invokevirtual 85, 3) := by decide +kernel
theorem dX5_slowdown_18 : decode cX5_slowdown 18 = .ok (.i2f, 1) := by decide +kernel
theorem dX5_slowdown_19 : decode cX5_slowdown 19 = .ok (.freturn, 1) := by decide +kernel
theorem dX5_slowdown_20 : decode cX5_slowdown 20 = .ok (.aload_n 0, 1) := by decide +kernel
theorem dX5_slowdown_21 : decode cX5_slowdown 21 = .ok (.iload_n 1, 1) := by decide +kernel
theorem dX5_slowdown_22 : decode cX5_slowdown 22 = .ok (.iconst 4, 1) := by decide +kernel
theorem dX5_slowdown_23 : decode cX5_slowdown 23 = .ok (.invokevirtual 30, 3) := by decide +kernel
theorem dX5_slowdown_26 : decode cX5_slowdown 26 = .ok (.iconst 2, 1) := by decide +kernel
theorem dX5_slowdown_27 : decode cX5_slowdown 27 = .ok (.if_icmp .eq 12, 3) := by decide +kernel
theorem dX5_slowdown_30 : decode cX5_slowdown 30 = .ok (.aload_n 0, 1) := by decide +kernel
theorem dX5_slowdown_31 : decode cX5_slowdown 31 = .ok (.iconst 2, 1) := by decide +kernel
theorem dX5_slowdown_32 : decode cX5_slowdown 32 = .ok (.invokevirtual 85, 3) := by decide +kernel
theorem dX5_slowdown_35 : decode cX5_slowdown 35 = .ok (.i2f, 1) := by decide +kernel
theorem dX5_slowdown_36 : decode cX5_slowdown 36 = .ok (.goto 28, 3) := by decide +kernel
theorem dX5_slowdown_39 : decode cX5_slowdown 39 = .ok (.aload_n 0, 1) := by decide +kernel
theorem dX5_slowdown_40 : decode cX5_slowdown 40 = .ok (.iload_n 1, 1) := by decide +kernel
theorem dX5_slowdown_41 : decode cX5_slowdown 41 = .ok (.bipush 10, 2) := by decide +kernel
theorem dX5_slowdown_43 : decode cX5_slowdown 43 = .ok (.invokevirtual 30, 3) := by decide +kernel
theorem dX5_slowdown_46 : decode cX5_slowdown 46 = .ok (.aload_n 0, 1) := by decide +kernel
theorem dX5_slowdown_47 : decode cX5_slowdown 47 = .ok (.iload_n 1, 1) := by decide +kernel
theorem dX5_slowdown_48 : decode cX5_slowdown 48 = .ok (.bipush 8, 2) := by decide +kernel
theorem dX5_slowdown_50 : decode cX5_slowdown 50 = .ok (.invokevirtual 30, 3) := by decide +kernel
theorem dX5_slowdown_53 : decode cX5_slowdown 53 = .ok (.isub, 1) := by decide +kernel
theorem dX5_slowdown_54 : decode cX5_slowdown 54 = .ok (.i2f, 1) := by decide +kernel
theorem dX5_slowdown_55 : decode cX5_slowdown 55 = .ok (.aload_n 0, 1) := by decide +kernel
theorem dX5_slowdown_56 : decode cX5_slowdown 56 = .ok (.iload_n 1, 1) := by decide +kernel
theorem dX5_slowdown_57 : decode cX5_slowdown 57 = .ok (.bipush 9, 2) := by decide +kernel
theorem dX5_slowdown_59 : decode cX5_slowdown 59 = .ok (.invokevirtual 30, 3) := by decide +kernel
theorem dX5_slowdown_62 : decode cX5_slowdown 62 = .ok (.i2f, 1) := by decide +kernel
theorem dX5_slowdown_63 : decode cX5_slowdown 63 = .ok (.fdiv, 1) := by decide +kernel
theorem dX5_slowdown_64 : decode cX5_slowdown 64 = .ok (.freturn, 1) := by decide +kernel
theorem dX5_usage_0 : decode cX5_usage 0 = .ok (.aload_n 0, 1) := by decide +kernel
theorem dX5_usage_1 : decode cX5_usage 1 = .ok (.iconst 0, 1) := by decide +kernel
theorem dX5_usage_2 : decode cX5_usage 2 = .ok (.putfield 22, 3) := by decide +kernel
theorem dX5_usage_5 : decode cX5_usage 5 = .ok (.iload_n 1, 1) := by decide +kernel
theorem dX5_usage_6 : decode cX5_usage 6 = .ok (.iconst 0, 1) := by decide +kernel
theorem dX5_usage_7 : decode cX5_usage 7 = .ok (.iconst 3, 1) := by decide +kernel
theorem dX5_usage_8 : decode cX5_usage 8 = .ok (.invokestatic 26, 3) := by decide +kernel
theorem dX5_usage_11 : decode cX5_usage 11 = .ok (.ifCond .eq 11, 3) := by decide +kernel
theorem dX5_usage_14 : decode cX5_usage 14 = .ok (.aload_n 0, 1) := by decide +kernel
theorem dX5_usage_15 : decode cX5_usage 15 = .ok (.iload_n 1, 1) := by decide +kernel
theorem dX5_usage_16 : decode cX5_usage 16 = .ok (.invokevirtual 67, 3) := by decide +kernel
theorem dX5_usage_19 : decode cX5_usage 19 = .ok (.goto 8, 3) := by decide +kernel
theorem dX5_usage_22 : decode cX5_usage 22 = .ok (.aload_n 0, 1) := by decide +kernel
theorem dX5_usage_23 : decode cX5_usage 23 = .ok (.iconst 1, 1) := by decide +kernel
theorem dX5_usage_24 : decode cX5_usage 24 = .ok (.invokevirtual 85, 3) := by decide +kernel
theorem dX5_usage_27 : decode cX5_usage 27 = .ok (.ireturn, 1) := by decide +kernel
theorem dX5_utilization_0 : decode cX5_utilization 0 = .ok (.aload_n 0, 1) := by decide +kernel
theorem dX5_utilization_1 : decode cX5_utilization 1 = .ok (.iconst 0, 1) := by decide +kernel
theorem dX5_utilization_2 : decode cX5_utilization 2 = .ok (.putfield 22, 3) := by decide +kernel
theorem dX5_utilization_5 : decode cX5_utilization 5 = .ok (.aload_n 0, 1) := by decide +kernel
theorem dX5_utilization_6 : decode cX5_utilization 6 = .ok (.getfield 9, 3) := by decide +kernel
theorem dX5_utilization_9 : decode cX5_utilization 9 = .ok (.iconst 0, 1) := by decide +kernel
theorem dX5_utilization_10 : decode cX5_utilization 10 = .ok (.iaload, 1) := by decide +kernel
theorem dX5_utilization_11 : decode cX5_utilization 11 = .ok (.ifCond .ne 10, 3) := by decide +kernel
theorem dX5_utilization_14 : decode cX5_utilization 14 = .ok (.aload_n 0, 1) := by decide +kernel
theorem dX5_utilization_15 : decode cX5_utilization 15 = .ok (.iconst 1, 1) := by decide +kernel
theorem dX5_utilization_16 : decode cX5_utilization 16 = .ok (.invokevirtual 85, 3) := by decide +kernel
theorem dX5_utilization_19 : decode cX5_utilization 19 = .ok (.i2d, 1) := by decide +kernel
theorem dX5_utilization_20 : decode cX5_utilization 20 = .ok (.dreturn, 1) := by decide +kernel
theorem dX5_utilization_21 : decode cX5_utilization 21 = .ok (.iconst 0, 1) := by decide +kernel
theorem dX5_utilization_22 : decode cX5_utilization 22 = .ok (.istore_n 1, 1) := by decide +kernel
theorem dX5_utilization_23 : decode cX5_utilization 23 = .ok (.iconst 0, 1) := by decide +kernel
theorem dX5_utilization_24 : decode cX5_utilization 24 = .ok (.istore_n 2, 1) := by decide +kernel
theorem dX5_utilization_25 : decode cX5_utilization 25 = .ok (.iload_n 2, 1) := by decide +kernel
theorem dX5_utilization_26 : decode cX5_utilization 26 = .ok (.iconst 4, 1) := by decide +kernel
theorem dX5_utilization_27 : decode cX5_utilization 27 = .ok (.if_icmp .ge 17, 3) := by decide +kernel
theorem dX5_utilization_30 : decode cX5_utilization 30 = .ok (.iload_n 1, 1) := by decide +kernel
theorem dX5_utilization_31 : decode cX5_utilization 31 = .ok (.aload_n 0, 1) := by decide +kernel
theorem dX5_utilization_32 : decode cX5_utilization 32 = .ok (.iload_n 2, 1) := by decide +kernel
theorem dX5_utilization_33 : decode cX5_utilization 33 = .ok (.invokevirtual 67, 3) := by decide +kernel
theorem dX5_utilization_36 : decode cX5_utilization 36 = .ok (.iadd, 1) := by decide +kernel
theorem dX5_utilization_37 : decode cX5_utilization 37 = .ok (.istore_n 1, 1) := by decide +kernel
theorem dX5_utilization_38 : decode cX5_utilization 38 = .ok (.iinc 2 1, 3) := by decide +kernel
theorem dX5_utilization_41 : decode cX5_utilization 41 = .ok (.goto (-16), 3) := by decide +kernel
theorem dX5_utilization_44 : decode cX5_utilization 44 = .ok (.iload_n 1, 1) := by decide +kernel
theorem dX5_utilization_45 : decode cX5_utilization 45 = .ok (.i2d, 1) := by decide +kernel
theorem dX5_utilization_46 : decode cX5_utilization 46 = .ok (.bipush 32, 2) := by decide +kernel
theorem dX5_utilization_48 : decode cX5_utilization 48 = .ok (.aload_n 0, 1) := by decide +kernel
theorem dX5_utilization_49 : decode cX5_utilization 49 = .ok (.getfield 9, 3) := by decide +kernel
theorem dX5_utilization_52 : decode cX5_utilization 52 = .ok (.iconst 0, 1) := by decide +kernel
theorem dX5_utilization_53 : decode cX5_utilization 53 = .ok (.iaload, 1) := by decide +kernel
theorem dX5_utilization_54 : decode cX5_utilization 54 = .ok (.imul, 1) := by decide +kernel
theorem dX5_utilization_55 : decode cX5_utilization 55 = .ok (.i2d, 1) := by decide +kernel
theorem dX5_utilization_56 : decode cX5_utilization 56 = .ok (.ddiv, 1) := by decide +kernel
theorem dX5_utilization_57 : decode cX5_utilization 57 = .ok (.dreturn, 1) := by decide +kernel
theorem dX5_makespan_0 : decode cX5_makespan 0 = .ok (.aload_n 0, 1) := by decide +kernel
theorem dX5_makespan_1 : decode cX5_makespan 1 = .ok (.iconst 0, 1) := by decide +kernel
theorem dX5_makespan_2 : decode cX5_makespan 2 = .ok (.putfield 22, 3) := by decide +kernel
theorem dX5_makespan_5 : decode cX5_makespan 5 = .ok (.aload_n 0, 1) := by decide +kernel
theorem dX5_makespan_6 : decode cX5_makespan 6 = .ok (.getfield 9, 3) := by decide +kernel
theorem dX5_makespan_9 : decode cX5_makespan 9 = .ok (.iconst 0, 1) := by decide +kernel
theorem dX5_makespan_10 : decode cX5_makespan 10 = .ok (.iaload, 1) := by decide +kernel
theorem dX5_makespan_11 : decode cX5_makespan 11 = .ok (.istore_n 1, 1) := by decide +kernel
theorem dX5_makespan_12 : decode cX5_makespan 12 = .ok (.iconst 0, 1) := by decide +kernel
theorem dX5_makespan_13 : decode cX5_makespan 13 = .ok (.istore_n 2, 1) := by decide +kernel
theorem dX5_makespan_14 : decode cX5_makespan 14 = .ok (.iload_n 2, 1) := by decide +kernel
theorem dX5_makespan_15 : decode cX5_makespan 15 = .ok (.aload_n 0, 1) := by decide +kernel
theorem dX5_makespan_16 : decode cX5_makespan 16 = .ok (.getfield 9, 3) := by decide +kernel
theorem dX5_makespan_19 : decode cX5_makespan 19 = .ok (.iconst 1, 1) := by decide +kernel
theorem dX5_makespan_20 : decode cX5_makespan 20 = .ok (.iaload, 1) := by decide +kernel
theorem dX5_makespan_21 : decode cX5_makespan 21 = .ok (.if_icmp .ge 36, 3) := by decide +kernel
theorem dX5_makespan_24 : decode cX5_makespan 24 = .ok (.aload_n 0, 1) := by decide +kernel
theorem dX5_makespan_25 : decode cX5_makespan 25 = .ok (.iload_n 2, 1) := by decide +kernel
theorem dX5_makespan_26 : decode cX5_makespan 26 = .ok (.invokevirtual 34, 3) := by decide +kernel
theorem dX5_makespan_29 : decode cX5_makespan 29 = .ok (.ifCond .eq 22, 3) := by decide +kernel
theorem dX5_makespan_32 : decode cX5_makespan 32 = .ok (.iload_n 1, 1) := by decide +kernel
theorem dX5_makespan_33 : decode cX5_makespan 33 = .ok (.aload_n 0, 1) := by decide +kernel
theorem dX5_makespan_34 : decode cX5_makespan 34 = .ok (.iload_n 2, 1) := by decide +kernel
theorem dX5_makespan_35 : decode cX5_makespan 35 = .ok (.bipush 6, 2) := by decide +kernel
theorem dX5_makespan_37 : decode cX5_makespan 37 = .ok (.invokevirtual 30, 3) := by decide +kernel
theorem dX5_makespan_40 : decode cX5_makespan 40 = .ok (.aload_n 0, 1) := by decide +kernel
theorem dX5_makespan_41 : decode cX5_makespan 41 = .ok (.iload_n 2, 1) := by decide +kernel
theorem dX5_makespan_42 : decode cX5_makespan 42 = .ok (.iconst 2, 1) := by decide +kernel
theorem dX5_makespan_43 : decode cX5_makespan 43 = .ok (.invokevirtual 30, 3) := by decide +kernel
theorem dX5_makespan_46 : decode cX5_makespan 46 = .ok (.iadd, 1) := by decide +kernel
theorem dX5_makespan_47 : decode cX5_makespan 47 = .ok (.invokestatic 113, 3) := by decide +kernel
theorem dX5_makespan_50 : decode cX5_makespan 50 = .ok (.istore_n 1, 1) := by decide +kernel
theorem dX5_makespan_51 : decode cX5_makespan 51 = .ok (.iinc 2 1, 3) := by decide +kernel
theorem dX5_makespan_54 : decode cX5_makespan 54 = .ok (.goto (-40), 3) := by decide +kernel
theorem dX5_makespan_57 : decode cX5_makespan 57 = .ok (.iload_n 1, 1) := by decide +kernel
theorem dX5_makespan_58 : decode cX5_makespan 58 = .ok (.ireturn, 1) := by decide +kernel
theorem dX5_owner_0 : decode cX5_owner 0 = .ok (.iconst 0, 1) := by decide +kernel
theorem dX5_owner_1 : decode cX5_owner 1 = .ok (.istore_n 3, 1) := by decide +kernel
theorem dX5_owner_2 : decode cX5_owner 2 = .ok (.iload_n 3, 1) := by decide +kernel
theorem dX5_owner_3 : decode cX5_owner 3 = .ok (.aload_n 0, 1) := by decide +kernel
theorem dX5_owner_4 : decode cX5_owner 4 = .ok (.getfield 9, 3) := by decide +kernel
theorem dX5_owner_7 : decode cX5_owner 7 = .ok (.iconst 1, 1) := by decide +kernel
theorem dX5_owner_8 : decode cX5_owner 8 = .ok (.iaload, 1) := by decide +kernel
theorem dX5_owner_9 : decode cX5_owner 9 = .ok (.if_icmp .ge 72, 3) := by decide +kernel
theorem dX5_owner_12 : decode cX5_owner 12 = .ok (.aload_n 0, 1) := by decide +kernel
theorem dX5_owner_13 : decode cX5_owner 13 = .ok (.iload_n 3, 1) := by decide +kernel
theorem dX5_owner_14 : decode cX5_owner 14 = .ok (.invokevirtual 34, 3) := by decide +kernel
theorem dX5_owner_17 : decode cX5_owner 17 = .ok (.ifCond .eq 58, 3) := by decide +kernel
theorem dX5_owner_20 : decode cX5_owner 20 = .ok (.iload_n 2, 1) := by decide +kernel
theorem dX5_owner_21 : decode cX5_owner 21 = .ok (.aload_n 0, 1) := by decide +kernel
theorem dX5_owner_22 : decode cX5_owner 22 = .ok (.iload_n 3, 1) := by decide +kernel
theorem dX5_owner_23 : decode cX5_owner 23 = .ok (.bipush 6, 2) := by decide +kernel
theorem dX5_owner_25 : decode cX5_owner 25 = .ok (.invokevirtual 30, 3) := by decide +kernel
theorem dX5_owner_28 : decode cX5_owner 28 = .ok (.if_icmp .lt 47, 3) := by decide +kernel
theorem dX5_owner_31 : decode cX5_owner 31 = .ok (.iload_n 2, 1) := by decide +kernel
theorem dX5_owner_32 : decode cX5_owner 32 = .ok (.aload_n 0, 1) := by decide +kernel
theorem dX5_owner_33 : decode cX5_owner 33 = .ok (.iload_n 3, 1) := by decide +kernel
theorem dX5_owner_34 : decode cX5_owner 34 = .ok (.bipush 6, 2) := by decide +kernel
theorem dX5_owner_36 : decode cX5_owner 36 = .ok (.invokevirtual 30, 3) := by decide +kernel
theorem dX5_owner_39 : decode cX5_owner 39 = .ok (.isub, 1) := by decide +kernel
theorem dX5_owner_40 : decode cX5_owner 40 = .ok (.aload_n 0, 1) := by decide +kernel
theorem dX5_owner_41 : decode cX5_owner 41 = .ok (.iload_n 3, 1) := by decide +kernel
theorem dX5_owner_42 : decode cX5_owner 42 = .ok (.iconst 2, 1) := by decide +kernel
theorem dX5_owner_43 : decode cX5_owner 43 = .ok (.invokevirtual 30, 3) := by decide +kernel
theorem dX5_owner_46 : decode cX5_owner 46 = .ok (.if_icmp .ge 29, 3) := by decide +kernel
theorem dX5_owner_49 : decode cX5_owner 49 = .ok (.iload_n 1, 1) := by decide +kernel
theorem dX5_owner_50 : decode cX5_owner 50 = .ok (.aload_n 0, 1) := by decide +kernel
theorem dX5_owner_51 : decode cX5_owner 51 = .ok (.iload_n 3, 1) := by decide +kernel
theorem dX5_owner_52 : decode cX5_owner 52 = .ok (.iconst 1, 1) := by decide +kernel
theorem dX5_owner_53 : decode cX5_owner 53 = .ok (.invokevirtual 30, 3) := by decide +kernel
theorem dX5_owner_56 : decode cX5_owner 56 = .ok (.ishr, 1) := by decide +kernel
theorem dX5_owner_57 : decode cX5_owner 57 = .ok (.aload_n 0, 1) := by decide +kernel
theorem dX5_owner_58 : decode cX5_owner 58 = .ok (.iload_n 3, 1) := by decide +kernel
theorem dX5_owner_59 : decode cX5_owner 59 = .ok (.iconst 5, 1) := by decide +kernel
theorem dX5_owner_60 : decode cX5_owner 60 = .ok (.invokevirtual 30, 3) := by decide +kernel
theorem dX5_owner_63 : decode cX5_owner 63 = .ok (.aload_n 0, 1) := by decide +kernel
theorem dX5_owner_64 : decode cX5_owner 64 = .ok (.iload_n 3, 1) := by decide +kernel
theorem dX5_owner_65 : decode cX5_owner 65 = .ok (.iconst 1, 1) := by decide +kernel
theorem dX5_owner_66 : decode cX5_owner 66 = .ok (.invokevirtual 30, 3) := by decide +kernel
theorem dX5_owner_69 : decode cX5_owner 69 = .ok (.ishr, 1) := by decide +kernel
theorem dX5_owner_70 : decode cX5_owner 70 = .ok (.if_icmp .ne 5, 3) := by decide +kernel
theorem dX5_owner_73 : decode cX5_owner 73 = .ok (.iload_n 3, 1) := by decide +kernel
theorem dX5_owner_74 : decode cX5_owner 74 = .ok (.ireturn, 1) := by decide +kernel
theorem dX5_owner_75 : decode cX5_owner 75 = .ok (.iinc 3 1, 3) := by decide +kernel
theorem dX5_owner_78 : decode cX5_owner 78 = .ok (.goto (-76), 3) := by decide +kernel
theorem dX5_owner_81 : decode cX5_owner 81 = .ok (.iconst 0, 1) := by decide +kernel
theorem dX5_owner_82 : decode cX5_owner 82 = .ok (.istore_n 3, 1) := by decide +kernel
theorem dX5_owner_83 : decode cX5_owner 83 = .ok (.iload_n 3, 1) := by decide +kernel
theorem dX5_owner_84 : decode cX5_owner 84 = .ok (.aload_n 0, 1) := by decide +kernel
theorem dX5_owner_85 : decode cX5_owner 85 = .ok (.getfield 9, 3) := by decide +kernel
theorem dX5_owner_88 : decode cX5_owner 88 = .ok (.iconst 2, 1) := by decide +kernel
theorem dX5_owner_89 : decode cX5_owner 89 = .ok (.iaload, 1) := by decide +kernel
theorem dX5_owner_90 : decode cX5_owner 90 = .ok (.if_icmp .ge 65, 3) := by decide +kernel
theorem dX5_owner_93 : decode cX5_owner 93 = .ok (.iload_n 2, 1) := by decide +kernel
theorem dX5_owner_94 : decode cX5_owner 94 = .ok (.aload_n 0, 1) := by decide +kernel
theorem dX5_owner_95 : decode cX5_owner 95 = .ok (.iload_n 3, 1) := by decide +kernel
theorem dX5_owner_96 : decode cX5_owner 96 = .ok (.iconst 2, 1) := by decide +kernel
theorem dX5_owner_97 : decode cX5_owner 97 = .ok (.invokevirtual 42, 3) := by decide +kernel
theorem dX5_owner_100 : decode cX5_owner 100 = .ok (.if_icmp .lt 49, 3) := by decide +kernel
theorem dX5_owner_103 : decode cX5_owner 103 = .ok (.iload_n 2, 1) := by decide +kernel
theorem dX5_owner_104 : decode cX5_owner 104 = .ok (.aload_n 0, 1) := by decide +kernel
theorem dX5_owner_105 : decode cX5_owner 105 = .ok (.iload_n 3, 1) := by decide +kernel
theorem dX5_owner_106 : decode cX5_owner 106 = .ok (.iconst 2, 1) := by decide +kernel
theorem dX5_owner_107 : decode cX5_owner 107 = .ok (.invokevirtual 42, 3) := by decide +kernel
theorem dX5_owner_110 : decode cX5_owner 110 = .ok (.isub, 1) := by decide +kernel
theorem dX5_owner_111 : decode cX5_owner 111 = .ok (.aload_n 0, 1) := by decide +kernel
theorem dX5_owner_112 : decode cX5_owner 112 = .ok (.iload_n 3, 1) := by decide +kernel
theorem dX5_owner_113 : decode cX5_owner 113 = .ok (.iconst 3, 1) := by decide +kernel
theorem dX5_owner_114 : decode cX5_owner 114 = .ok (.invokevirtual 42, 3) := by decide +kernel
theorem dX5_owner_117 : decode cX5_owner 117 = .ok (.if_icmp .ge 32, 3) := by decide +kernel
theorem dX5_owner_120 : decode cX5_owner 120 = .ok (.iload_n 1, 1) := by decide +kernel
theorem dX5_owner_121 : decode cX5_owner 121 = .ok (.aload_n 0, 1) := by decide +kernel
theorem dX5_owner_122 : decode cX5_owner 122 = .ok (.iload_n 3, 1) := by decide +kernel
theorem dX5_owner_123 : decode cX5_owner 123 = .ok (.iconst 0, 1) := by decide +kernel
theorem dX5_owner_124 : decode cX5_owner 124 = .ok (.invokevirtual 42, 3) := by decide +kernel
theorem dX5_owner_127 : decode cX5_owner 127 = .ok (.ishr, 1) := by decide +kernel
theorem dX5_owner_128 : decode cX5_owner 128 = .ok (.aload_n 0, 1) := by decide +kernel
theorem dX5_owner_129 : decode cX5_owner 129 = .ok (.iload_n 3, 1) := by decide +kernel
theorem dX5_owner_130 : decode cX5_owner 130 = .ok (.iconst 1, 1) := by decide +kernel
theorem dX5_owner_131 : decode cX5_owner 131 = .ok (.invokevirtual 42, 3) := by decide +kernel
theorem dX5_owner_134 : decode cX5_owner 134 = .ok (.aload_n 0, 1) := by decide +kernel
theorem dX5_owner_135 : decode cX5_owner 135 = .ok (.iload_n 3, 1) := by decide +kernel
theorem dX5_owner_136 : decode cX5_owner 136 = .ok (.iconst 0, 1) := by decide +kernel
theorem dX5_owner_137 : decode cX5_owner 137 = .ok (.invokevirtual 42, 3) := by decide +kernel
theorem dX5_owner_140 : decode cX5_owner 140 = .ok (.ishr, 1) := by decide +kernel
theorem dX5_owner_141 : decode cX5_owner 141 = .ok (.if_icmp .ne 8, 3) := by decide +kernel
theorem dX5_owner_144 : decode cX5_owner 144 = .ok (.bipush 100, 2) := by decide +kernel
theorem dX5_owner_146 : decode cX5_owner 146 = .ok (.iload_n 3, 1) := by decide +kernel
theorem dX5_owner_147 : decode cX5_owner 147 = .ok (.iadd, 1) := by decide +kernel
theorem dX5_owner_148 : decode cX5_owner 148 = .ok (.ireturn, 1) := by decide +kernel
theorem dX5_owner_149 : decode cX5_owner 149 = .ok (.iinc 3 1, 3) := by decide +kernel
theorem dX5_owner_152 : decode cX5_owner 152 = .ok (.goto (-69), 3) := by decide +kernel
theorem dX5_owner_155 : decode cX5_owner 155 = .ok (.iconst (-1), 1) := by decide +kernel
theorem dX5_owner_156 : decode cX5_owner 156 = .ok (.ireturn, 1) := by decide +kernel
theorem dX5_ownerAt_0 : decode cX5_ownerAt 0 = .ok (.aload_n 0, 1) := by decide +kernel
theorem dX5_ownerAt_1 : decode cX5_ownerAt 1 = .ok (.iconst 0, 1) := by decide +kernel
theorem dX5_ownerAt_2 : decode cX5_ownerAt 2 = .ok (.putfield 22, 3) := by decide +kernel
theorem dX5_ownerAt_5 : decode cX5_ownerAt 5 = .ok (.iload_n 1, 1) := by decide +kernel
theorem dX5_ownerAt_6 : decode cX5_ownerAt 6 = .ok (.iconst 0, 1) := by decide +kernel
theorem dX5_ownerAt_7 : decode cX5_ownerAt 7 = .ok (.bipush 31, 2) := by decide +kernel
theorem dX5_ownerAt_9 : decode cX5_ownerAt 9 = .ok (.invokestatic 26, 3) := by decide +kernel
theorem dX5_ownerAt_12 : decode cX5_ownerAt 12 = .ok (.ifCond .eq 16, 3) := by decide +kernel
theorem dX5_ownerAt_15 : decode cX5_ownerAt 15 = .ok (.iload_n 2, 1) := by decide +kernel
theorem dX5_ownerAt_16 : decode cX5_ownerAt 16 = .ok (.ifCond .lt 12, 3) := by decide +kernel
theorem dX5_ownerAt_19 : decode cX5_ownerAt 19 = .ok (.aload_n 0, 1) := by decide +kernel
theorem dX5_ownerAt_20 : decode cX5_ownerAt 20 = .ok (.iload_n 1, 1) := by decide +kernel
theorem dX5_ownerAt_21 : decode cX5_ownerAt 21 = .ok (.iload_n 2, 1) := by decide +kernel
theorem dX5_ownerAt_22 : decode cX5_ownerAt 22 = .ok (.invokevirtual 118, 3) := by decide +kernel
theorem dX5_ownerAt_25 : decode cX5_ownerAt 25 = .ok (.goto 8, 3) := by decide +kernel
theorem dX5_ownerAt_28 : decode cX5_ownerAt 28 = .ok (.aload_n 0, 1) := by decide +kernel
theorem dX5_ownerAt_29 : decode cX5_ownerAt 29 = .ok (.iconst 1, 1) := by decide +kernel
theorem dX5_ownerAt_30 : decode cX5_ownerAt 30 = .ok (.invokevirtual 85, 3) := by decide +kernel
theorem dX5_ownerAt_33 : decode cX5_ownerAt 33 = .ok (.ireturn, 1) := by decide +kernel
theorem dX5_frees_0 : decode cX5_frees 0 = .ok (.iconst 0, 1) := by decide +kernel
theorem dX5_frees_1 : decode cX5_frees 1 = .ok (.istore_n 2, 1) := by decide +kernel
theorem dX5_frees_2 : decode cX5_frees 2 = .ok (.iconst 0, 1) := by decide +kernel
theorem dX5_frees_3 : decode cX5_frees 3 = .ok (.istore_n 3, 1) := by decide +kernel
theorem dX5_frees_4 : decode cX5_frees 4 = .ok (.iload_n 3, 1) := by decide +kernel
theorem dX5_frees_5 : decode cX5_frees 5 = .ok (.bipush 32, 2) := by decide +kernel
theorem dX5_frees_7 : decode cX5_frees 7 = .ok (.if_icmp .ge 21, 3) := by decide +kernel
theorem dX5_frees_10 : decode cX5_frees 10 = .ok (.aload_n 0, 1) := by decide +kernel
theorem dX5_frees_11 : decode cX5_frees 11 = .ok (.iload_n 3, 1) := by decide +kernel
theorem dX5_frees_12 : decode cX5_frees 12 = .ok (.iload_n 1, 1) := by decide +kernel
theorem dX5_frees_13 : decode cX5_frees 13 = .ok (.invokevirtual 118, 3) := by decide +kernel
theorem dX5_frees_16 : decode cX5_frees 16 = .ok (.ifCond .ge 6, 3) := by decide +kernel
theorem dX5_frees_19 : decode cX5_frees 19 = .ok (.iinc 2 1, 3) := by decide +kernel
theorem dX5_frees_22 : decode cX5_frees 22 = .ok (.iinc 3 1, 3) := by decide +kernel
theorem dX5_frees_25 : decode cX5_frees 25 = .ok (.goto (-21), 3) := by decide +kernel
theorem dX5_frees_28 : decode cX5_frees 28 = .ok (.iload_n 2, 1) := by decide +kernel
theorem dX5_frees_29 : decode cX5_frees 29 = .ok (.ireturn, 1) := by decide +kernel
theorem dX5_freeProcessors_0 : decode cX5_freeProcessors 0 = .ok (.aload_n 0, 1) := by decide +kernel
theorem dX5_freeProcessors_1 : decode cX5_freeProcessors 1 = .ok (.iconst 0, 1) := by decide +kernel
theorem dX5_freeProcessors_2 : decode cX5_freeProcessors 2 = .ok (.putfield 22, 3) := by decide +kernel
theorem dX5_freeProcessors_5 : decode cX5_freeProcessors 5 = .ok (.iload_n 1, 1) := by decide +kernel
theorem dX5_freeProcessors_6 : decode cX5_freeProcessors 6 = .ok (.ifCond .ge 11, 3) := by decide +kernel
theorem dX5_freeProcessors_9 : decode cX5_freeProcessors 9 = .ok (.aload_n 0, 1) := by decide +kernel
theorem dX5_freeProcessors_10 : decode cX5_freeProcessors 10 = .ok (.iconst 1, 1) := by decide +kernel
theorem dX5_freeProcessors_11 : decode cX5_freeProcessors 11 = .ok (.invokevirtual 85, 3) := by decide +kernel
theorem dX5_freeProcessors_14 : decode cX5_freeProcessors 14 = .ok (.goto 8, 3) := by decide +kernel
theorem dX5_freeProcessors_17 : decode cX5_freeProcessors 17 = .ok (.aload_n 0, 1) := by decide +kernel
theorem dX5_freeProcessors_18 : decode cX5_freeProcessors 18 = .ok (.iload_n 1, 1) := by decide +kernel
theorem dX5_freeProcessors_19 : decode cX5_freeProcessors 19 = .ok (.invokevirtual 121, 3) := by decide +kernel
theorem dX5_freeProcessors_22 : decode cX5_freeProcessors 22 = .ok (.ireturn, 1) := by decide +kernel
theorem dX5_isFreeNow_0 : decode cX5_isFreeNow 0 = .ok (.iload_n 2, 1) := by decide +kernel
theorem dX5_isFreeNow_1 : decode cX5_isFreeNow 1 = .ok (.istore_n 3, 1) := by decide +kernel
theorem dX5_isFreeNow_2 : decode cX5_isFreeNow 2 = .ok (.iload_n 3, 1) := by decide +kernel
theorem dX5_isFreeNow_3 : decode cX5_isFreeNow 3 = .ok (.iload_n 2, 1) := by decide +kernel
theorem dX5_isFreeNow_4 : decode cX5_isFreeNow 4 = .ok (.iconst 1, 1) := by decide +kernel
theorem dX5_isFreeNow_5 : decode cX5_isFreeNow 5 = .ok (.iload_n 1, 1) := by decide +kernel
theorem dX5_isFreeNow_6 : decode cX5_isFreeNow 6 = .ok (.ishl, 1) := by decide +kernel
theorem dX5_isFreeNow_7 : decode cX5_isFreeNow 7 = .ok (.iadd, 1) := by decide +kernel
theorem dX5_isFreeNow_8 : decode cX5_isFreeNow 8 = .ok (.if_icmp .ge 25, 3) := by decide +kernel
theorem dX5_isFreeNow_11 : decode cX5_isFreeNow 11 = .ok (.aload_n 0, 1) := by decide +kernel
theorem dX5_isFreeNow_12 : decode cX5_isFreeNow 12 = .ok (.iload_n 3, 1) := by decide +kernel
theorem dX5_isFreeNow_13 : decode cX5_isFreeNow 13 = .ok (.aload_n 0, 1) := by decide +kernel
theorem dX5_isFreeNow_14 : decode cX5_isFreeNow 14 = .ok (.getfield 9, 3) := by decide +kernel
theorem dX5_isFreeNow_17 : decode cX5_isFreeNow 17 = .ok (.iconst 0, 1) := by decide +kernel
theorem dX5_isFreeNow_18 : decode cX5_isFreeNow 18 = .ok (.iaload, 1) := by decide +kernel
theorem dX5_isFreeNow_19 : decode cX5_isFreeNow 19 = .ok (.invokevirtual 118, 3) := by decide +kernel
theorem dX5_isFreeNow_22 : decode cX5_isFreeNow 22 = .ok (.ifCond .lt 5, 3) := by decide +kernel
theorem dX5_isFreeNow_25 : decode cX5_isFreeNow 25 = .ok (.iconst 0, 1) := by decide +kernel
theorem dX5_isFreeNow_26 : decode cX5_isFreeNow 26 = .ok (.ireturn, 1) := by decide +kernel
theorem dX5_isFreeNow_27 : decode cX5_isFreeNow 27 = .ok (.iinc 3 1, 3) := by decide +kernel
theorem dX5_isFreeNow_30 : decode cX5_isFreeNow 30 = .ok (.goto (-28), 3) := by decide +kernel
theorem dX5_isFreeNow_33 : decode cX5_isFreeNow 33 = .ok (.iconst 1, 1) := by decide +kernel
theorem dX5_isFreeNow_34 : decode cX5_isFreeNow 34 = .ok (.ireturn, 1) := by decide +kernel
theorem dX5_freeBlocks_0 : decode cX5_freeBlocks 0 = .ok (.aload_n 0, 1) := by decide +kernel
theorem dX5_freeBlocks_1 : decode cX5_freeBlocks 1 = .ok (.iconst 0, 1) := by decide +kernel
theorem dX5_freeBlocks_2 : decode cX5_freeBlocks 2 = .ok (.putfield 22, 3) := by decide +kernel
theorem dX5_freeBlocks_5 : decode cX5_freeBlocks 5 = .ok (.iload_n 1, 1) := by decide +kernel
theorem dX5_freeBlocks_6 : decode cX5_freeBlocks 6 = .ok (.iconst 0, 1) := by decide +kernel
theorem dX5_freeBlocks_7 : decode cX5_freeBlocks 7 = .ok (.iconst 5, 1) := by decide +kernel
theorem dX5_freeBlocks_8 : decode cX5_freeBlocks 8 = .ok (.invokestatic 26, 3) := by decide +kernel
theorem dX5_freeBlocks_11 : decode cX5_freeBlocks 11 = .ok (.ifCond .ne 9, 3) := by decide +kernel
theorem dX5_freeBlocks_14 : decode cX5_freeBlocks 14 = .ok (.aload_n 0, 1) := by decide +kernel
theorem dX5_freeBlocks_15 : decode cX5_freeBlocks 15 = .ok (.iconst 1, 1) := by decide +kernel
theorem dX5_freeBlocks_16 : decode cX5_freeBlocks 16 = .ok (.invokevirtual 85, 3) := by decide +kernel
theorem dX5_freeBlocks_19 : decode cX5_freeBlocks 19 = .ok (.ireturn, 1) := by decide +kernel
theorem dX5_freeBlocks_20 : decode cX5_freeBlocks 20 = .ok (.iconst 0, 1) := by decide +kernel
theorem dX5_freeBlocks_21 : decode cX5_freeBlocks 21 = .ok (.istore_n 2, 1) := by decide +kernel
theorem dX5_freeBlocks_22 : decode cX5_freeBlocks 22 = .ok (.iconst 0, 1) := by decide +kernel
theorem dX5_freeBlocks_23 : decode cX5_freeBlocks 23 = .ok (.istore_n 3, 1) := by decide +kernel
theorem dX5_freeBlocks_24 : decode cX5_freeBlocks 24 = .ok (.iload_n 3, 1) := by decide +kernel
theorem dX5_freeBlocks_25 : decode cX5_freeBlocks 25 = .ok (.bipush 32, 2) := by decide +kernel
theorem dX5_freeBlocks_27 : decode cX5_freeBlocks 27 = .ok (.if_icmp .ge 52, 3) := by decide +kernel
theorem dX5_freeBlocks_30 : decode cX5_freeBlocks 30 = .ok (.iload_n 3, 1) := by decide +kernel
theorem dX5_freeBlocks_31 : decode cX5_freeBlocks 31 = .ok (.iload_n 1, 1) := by decide +kernel
theorem dX5_freeBlocks_32 : decode cX5_freeBlocks 32 = .ok (.iconst 1, 1) := by decide +kernel
theorem dX5_freeBlocks_33 : decode cX5_freeBlocks 33 = .ok (.iadd, 1) := by decide +kernel
theorem dX5_freeBlocks_34 : decode cX5_freeBlocks 34 = .ok (.ishr, 1) := by decide +kernel
theorem dX5_freeBlocks_35 : decode cX5_freeBlocks 35 = .ok (.iload_n 1, 1) := by decide +kernel
theorem dX5_freeBlocks_36 : decode cX5_freeBlocks 36 = .ok (.iconst 1, 1) := by decide +kernel
theorem dX5_freeBlocks_37 : decode cX5_freeBlocks 37 = .ok (.iadd, 1) := by decide +kernel
theorem dX5_freeBlocks_38 : decode cX5_freeBlocks 38 = .ok (.ishl, 1) := by decide +kernel
theorem dX5_freeBlocks_39 : decode cX5_freeBlocks 39 = .ok (.istore 4, 2) := by decide +kernel
theorem dX5_freeBlocks_41 : decode cX5_freeBlocks 41 = .ok (.aload_n 0, 1) := by decide +kernel
theorem dX5_freeBlocks_42 : decode cX5_freeBlocks 42 = .ok (.iload_n 1, 1) := by decide +kernel
theorem dX5_freeBlocks_43 : decode cX5_freeBlocks 43 = .ok (.iload_n 3, 1) := by decide +kernel
theorem dX5_freeBlocks_44 : decode cX5_freeBlocks 44 = .ok (.invokevirtual 124, 3) := by decide +kernel
theorem dX5_freeBlocks_47 : decode cX5_freeBlocks 47 = .ok (.ifCond .eq 23, 3) := by decide +kernel
theorem dX5_freeBlocks_50 : decode cX5_freeBlocks 50 = .ok (.iload_n 1, 1) := by decide +kernel
theorem dX5_freeBlocks_51 : decode cX5_freeBlocks 51 = .ok (.iconst 5, 1) := by decide +kernel
theorem dX5_freeBlocks_52 : decode cX5_freeBlocks 52 = .ok (.if_icmp .eq 15, 3) := by decide +kernel
theorem dX5_freeBlocks_55 : decode cX5_freeBlocks 55 = .ok (.aload_n 0, 1) := by decide +kernel
theorem dX5_freeBlocks_56 : decode cX5_freeBlocks 56 = .ok (.iload_n 1, 1) := by decide +kernel
theorem dX5_freeBlocks_57 : decode cX5_freeBlocks 57 = .ok (.iconst 1, 1) := by decide +kernel
theorem dX5_freeBlocks_58 : decode cX5_freeBlocks 58 = .ok (.iadd, 1) := by decide +kernel
theorem dX5_freeBlocks_59 : decode cX5_freeBlocks 59 = .ok (.iload 4, 2) := by decide +kernel
theorem dX5_freeBlocks_61 : decode cX5_freeBlocks 61 = .ok (.invokevirtual 124, 3) := by decide +kernel
theorem dX5_freeBlocks_64 : decode cX5_freeBlocks 64 = .ok (.ifCond .ne 6, 3) := by decide +kernel
theorem dX5_freeBlocks_67 : decode cX5_freeBlocks 67 = .ok (.iinc 2 1, 3) := by decide +kernel
theorem dX5_freeBlocks_70 : decode cX5_freeBlocks 70 = .ok (.iload_n 3, 1) := by decide +kernel
theorem dX5_freeBlocks_71 : decode cX5_freeBlocks 71 = .ok (.iconst 1, 1) := by decide +kernel
theorem dX5_freeBlocks_72 : decode cX5_freeBlocks 72 = .ok (.iload_n 1, 1) := by decide +kernel
theorem dX5_freeBlocks_73 : decode cX5_freeBlocks 73 = .ok (.ishl, 1) := by decide +kernel
theorem dX5_freeBlocks_74 : decode cX5_freeBlocks 74 = .ok (.iadd, 1) := by decide +kernel
theorem dX5_freeBlocks_75 : decode cX5_freeBlocks 75 = .ok (.istore_n 3, 1) := by decide +kernel
theorem dX5_freeBlocks_76 : decode cX5_freeBlocks 76 = .ok (.goto (-52), 3) := by decide +kernel
theorem dX5_freeBlocks_79 : decode cX5_freeBlocks 79 = .ok (.iload_n 2, 1) := by decide +kernel
theorem dX5_freeBlocks_80 : decode cX5_freeBlocks 80 = .ok (.ireturn, 1) := by decide +kernel
theorem dX5_largest_0 : decode cX5_largest 0 = .ok (.iconst 5, 1) := by decide +kernel
theorem dX5_largest_1 : decode cX5_largest 1 = .ok (.istore_n 1, 1) := by decide +kernel
theorem dX5_largest_2 : decode cX5_largest 2 = .ok (.iload_n 1, 1) := by decide +kernel
theorem dX5_largest_3 : decode cX5_largest 3 = .ok (.ifCond .lt 37, 3) := by decide +kernel
theorem dX5_largest_6 : decode cX5_largest 6 = .ok (.iconst 0, 1) := by decide +kernel
theorem dX5_largest_7 : decode cX5_largest 7 = .ok (.istore_n 2, 1) := by decide +kernel
theorem dX5_largest_8 : decode cX5_largest 8 = .ok (.iload_n 2, 1) := by decide +kernel
theorem dX5_largest_9 : decode cX5_largest 9 = .ok (.bipush 32, 2) := by decide +kernel
theorem dX5_largest_11 : decode cX5_largest 11 = .ok (.if_icmp .ge 23, 3) := by decide +kernel
theorem dX5_largest_14 : decode cX5_largest 14 = .ok (.aload_n 0, 1) := by decide +kernel
theorem dX5_largest_15 : decode cX5_largest 15 = .ok (.iload_n 1, 1) := by decide +kernel
theorem dX5_largest_16 : decode cX5_largest 16 = .ok (.iload_n 2, 1) := by decide +kernel
theorem dX5_largest_17 : decode cX5_largest 17 = .ok (.invokevirtual 124, 3) := by decide +kernel
theorem dX5_largest_20 : decode cX5_largest 20 = .ok (.ifCond .eq 5, 3) := by decide +kernel
theorem dX5_largest_23 : decode cX5_largest 23 = .ok (.iload_n 1, 1) := by decide +kernel
theorem dX5_largest_24 : decode cX5_largest 24 = .ok (.ireturn, 1) := by decide +kernel
theorem dX5_largest_25 : decode cX5_largest 25 = .ok (.iload_n 2, 1) := by decide +kernel
theorem dX5_largest_26 : decode cX5_largest 26 = .ok (.iconst 1, 1) := by decide +kernel
theorem dX5_largest_27 : decode cX5_largest 27 = .ok (.iload_n 1, 1) := by decide +kernel
theorem dX5_largest_28 : decode cX5_largest 28 = .ok (.ishl, 1) := by decide +kernel
theorem dX5_largest_29 : decode cX5_largest 29 = .ok (.iadd, 1) := by decide +kernel
theorem dX5_largest_30 : decode cX5_largest 30 = .ok (.istore_n 2, 1) := by decide +kernel
theorem dX5_largest_31 : decode cX5_largest 31 = .ok (.goto (-23), 3) := by decide +kernel
theorem dX5_largest_34 : decode cX5_largest 34 = .ok (.iinc 1 (-1), 3) := by decide +kernel
theorem dX5_largest_37 : decode cX5_largest 37 = .ok (.goto (-35), 3) := by decide +kernel
theorem dX5_largest_40 : decode cX5_largest 40 = .ok (.iconst (-1), 1) := by decide +kernel
theorem dX5_largest_41 : decode cX5_largest 41 = .ok (.ireturn, 1) := by decide +kernel
theorem dX5_largestFree_0 : decode cX5_largestFree 0 = .ok (.aload_n 0, 1) := by decide +kernel
theorem dX5_largestFree_1 : decode cX5_largestFree 1 = .ok (.iconst 0, 1) := by decide +kernel
theorem dX5_largestFree_2 : decode cX5_largestFree 2 = .ok (.putfield 22, 3) := by decide +kernel
theorem dX5_largestFree_5 : decode cX5_largestFree 5 = .ok (.aload_n 0, 1) := by decide +kernel
theorem dX5_largestFree_6 : decode cX5_largestFree 6 = .ok (.invokevirtual 127, 3) := by decide +kernel
theorem dX5_largestFree_9 : decode cX5_largestFree 9 = .ok (.istore_n 1, 1) := by decide +kernel
theorem dX5_largestFree_10 : decode cX5_largestFree 10 = .ok (.iload_n 1, 1) := by decide +kernel
theorem dX5_largestFree_11 : decode cX5_largestFree 11 = .ok (.ifCond .ge 11, 3) := by decide +kernel
theorem dX5_largestFree_14 : decode cX5_largestFree 14 = .ok (.aload_n 0, 1) := by decide +kernel
theorem dX5_largestFree_15 : decode cX5_largestFree 15 = .ok (.iconst 1, 1) := by decide +kernel
theorem dX5_largestFree_16 : decode cX5_largestFree 16 = .ok (.invokevirtual 85, 3) := by decide +kernel
theorem dX5_largestFree_19 : decode cX5_largestFree 19 = .ok (.goto 4, 3) := by decide +kernel
theorem dX5_largestFree_22 : decode cX5_largestFree 22 = .ok (.iload_n 1, 1) := by decide +kernel
theorem dX5_largestFree_23 : decode cX5_largestFree 23 = .ok (.ireturn, 1) := by decide +kernel
theorem dX5_fragmentation_0 : decode cX5_fragmentation 0 = .ok (.aload_n 0, 1) := by decide +kernel
theorem dX5_fragmentation_1 : decode cX5_fragmentation 1 = .ok (.iconst 0, 1) := by decide +kernel
theorem dX5_fragmentation_2 : decode cX5_fragmentation 2 = .ok (.putfield 22, 3) := by decide +kernel
theorem dX5_fragmentation_5 : decode cX5_fragmentation 5 = .ok (.aload_n 0, 1) := by decide +kernel
theorem dX5_fragmentation_6 : decode cX5_fragmentation 6 = .ok (.invokevirtual 127, 3) := by decide +kernel
theorem dX5_fragmentation_9 : decode cX5_fragmentation 9 = .ok (.istore_n 1, 1) := by decide +kernel
theorem dX5_fragmentation_10 : decode cX5_fragmentation 10 = .ok (.iload_n 1, 1) := by decide +kernel
theorem dX5_fragmentation_11 : decode cX5_fragmentation 11 = .ok (.ifCond .ge 12, 3) := by decide +kernel
theorem dX5_fragmentation_14 : decode cX5_fragmentation 14 = .ok (.aload_n 0, 1) := by decide +kernel
theorem dX5_fragmentation_15 : decode cX5_fragmentation 15 = .ok (.iconst 1, 1) := by decide +kernel
theorem dX5_fragmentation_16 : decode cX5_fragmentation 16 = .ok (.invokevirtual 85, 3) := by decide +kernel
theorem dX5_fragmentation_19 : decode cX5_fragmentation 19 = .ok (.i2d, 1) := by decide +kernel
theorem dX5_fragmentation_20 : decode cX5_fragmentation 20 = .ok (.goto 21, 3) := by decide +kernel
theorem dX5_fragmentation_23 : decode cX5_fragmentation 23 = .ok (.dconst 1, 1) := by decide +kernel
theorem dX5_fragmentation_24 : decode cX5_fragmentation 24 = .ok (.iconst 1, 1) := by decide +kernel
theorem dX5_fragmentation_25 : decode cX5_fragmentation 25 = .ok (.iload_n 1, 1) := by decide +kernel
theorem dX5_fragmentation_26 : decode cX5_fragmentation 26 = .ok (.ishl, 1) := by decide +kernel
theorem dX5_fragmentation_27 : decode cX5_fragmentation 27 = .ok (.i2d, 1) := by decide +kernel
theorem dX5_fragmentation_28 : decode cX5_fragmentation 28 = .ok (.aload_n 0, 1) := by decide +kernel
theorem dX5_fragmentation_29 : decode cX5_fragmentation 29 = .ok (.aload_n 0, 1) := by decide +kernel
theorem dX5_fragmentation_30 : decode cX5_fragmentation 30 = .ok (.getfield 9, 3) := by decide +kernel
theorem dX5_fragmentation_33 : decode cX5_fragmentation 33 = .ok (.iconst 0, 1) := by decide +kernel
theorem dX5_fragmentation_34 : decode cX5_fragmentation 34 = .ok (.iaload, 1) := by decide +kernel
theorem dX5_fragmentation_35 : decode cX5_fragmentation 35 = .ok (.invokevirtual 121, 3) := by decide +kernel
theorem dX5_fragmentation_38 : decode cX5_fragmentation 38 = .ok (.i2d, 1) := by decide +kernel
theorem dX5_fragmentation_39 : decode cX5_fragmentation 39 = .ok (.ddiv, 1) := by decide +kernel
theorem dX5_fragmentation_40 : decode cX5_fragmentation 40 = .ok (.dsub, 1) := by decide +kernel
theorem dX5_fragmentation_41 : decode cX5_fragmentation 41 = .ok (.dreturn, 1) := by decide +kernel
theorem dX5_earliestStart_0 : decode cX5_earliestStart 0 = .ok (.aload_n 0, 1) := by decide +kernel
theorem dX5_earliestStart_1 : decode cX5_earliestStart 1 = .ok (.iconst 0, 1) := by decide +kernel
theorem dX5_earliestStart_2 : decode cX5_earliestStart 2 = .ok (.putfield 22, 3) := by decide +kernel
theorem dX5_earliestStart_5 : decode cX5_earliestStart 5 = .ok (.iload_n 1, 1) := by decide +kernel
theorem dX5_earliestStart_6 : decode cX5_earliestStart 6 = .ok (.iconst 0, 1) := by decide +kernel
theorem dX5_earliestStart_7 : decode cX5_earliestStart 7 = .ok (.iconst 5, 1) := by decide +kernel
theorem dX5_earliestStart_8 : decode cX5_earliestStart 8 = .ok (.invokestatic 26, 3) := by decide +kernel
theorem dX5_earliestStart_11 : decode cX5_earliestStart 11 = .ok (.ifCond .eq 22, 3) := by decide +kernel
theorem dX5_earliestStart_14 : decode cX5_earliestStart 14 = .ok (.iload_n 2, 1) := by decide +kernel
theorem dX5_earliestStart_15 : decode cX5_earliestStart 15 = .ok (.iconst 1, 1) := by decide +kernel
theorem dX5_earliestStart_16 : decode cX5_earliestStart 16 = .ok (.bipush 40, 2) := by decide +kernel
theorem dX5_earliestStart_18 : decode cX5_earliestStart 18 = .ok (.invokestatic 26, 3) := by decide +kernel
theorem dX5_earliestStart_21 : decode cX5_earliestStart 21 = .ok (.ifCond .eq 12, 3) := by decide +kernel
theorem dX5_earliestStart_24 : decode cX5_earliestStart 24 = .ok (.aload_n 0, 1) := by decide +kernel
theorem dX5_earliestStart_25 : decode cX5_earliestStart 25 = .ok (.iload_n 1, 1) := by decide +kernel
theorem dX5_earliestStart_26 : decode cX5_earliestStart 26 = .ok (.iload_n 2, 1) := by decide +kernel
theorem dX5_earliestStart_27 : decode cX5_earliestStart 27 = .ok (.invokevirtual 56, 3) := by decide +kernel
theorem dX5_earliestStart_30 : decode cX5_earliestStart 30 = .ok (.goto 8, 3) := by decide +kernel
theorem dX5_earliestStart_33 : decode cX5_earliestStart 33 = .ok (.aload_n 0, 1) := by decide +kernel
theorem dX5_earliestStart_34 : decode cX5_earliestStart 34 = .ok (.iconst 1, 1) := by decide +kernel
theorem dX5_earliestStart_35 : decode cX5_earliestStart 35 = .ok (.invokevirtual 85, 3) := by decide +kernel
theorem dX5_earliestStart_38 : decode cX5_earliestStart 38 = .ok (.ireturn, 1) := by decide +kernel
theorem dX5_lowestBlock_0 : decode cX5_lowestBlock 0 = .ok (.aload_n 0, 1) := by decide +kernel
theorem dX5_lowestBlock_1 : decode cX5_lowestBlock 1 = .ok (.iconst 0, 1) := by decide +kernel
theorem dX5_lowestBlock_2 : decode cX5_lowestBlock 2 = .ok (.putfield 22, 3) := by decide +kernel
theorem dX5_lowestBlock_5 : decode cX5_lowestBlock 5 = .ok (.iload_n 1, 1) := by decide +kernel
theorem dX5_lowestBlock_6 : decode cX5_lowestBlock 6 = .ok (.iconst 0, 1) := by decide +kernel
theorem dX5_lowestBlock_7 : decode cX5_lowestBlock 7 = .ok (.iconst 5, 1) := by decide +kernel
theorem dX5_lowestBlock_8 : decode cX5_lowestBlock 8 = .ok (.invokestatic 26, 3) := by decide +kernel
theorem dX5_lowestBlock_11 : decode cX5_lowestBlock 11 = .ok (.ifCond .eq 24, 3) := by decide +kernel
theorem dX5_lowestBlock_14 : decode cX5_lowestBlock 14 = .ok (.iload_n 2, 1) := by decide +kernel
theorem dX5_lowestBlock_15 : decode cX5_lowestBlock 15 = .ok (.iconst 0, 1) := by decide +kernel
theorem dX5_lowestBlock_16 : decode cX5_lowestBlock 16 = .ok (.sipush 1000, 3) := by decide +kernel
theorem dX5_lowestBlock_19 : decode cX5_lowestBlock 19 = .ok (.invokestatic 26, 3) := by decide +kernel
theorem dX5_lowestBlock_22 : decode cX5_lowestBlock 22 = .ok (.ifCond .eq 13, 3) := by decide +kernel
theorem dX5_lowestBlock_25 : decode cX5_lowestBlock 25 = .ok (.iload_n 3, 1) := by decide +kernel
theorem dX5_lowestBlock_26 : decode cX5_lowestBlock 26 = .ok (.iconst 1, 1) := by decide +kernel
theorem dX5_lowestBlock_27 : decode cX5_lowestBlock 27 = .ok (.bipush 40, 2) := by decide +kernel
theorem dX5_lowestBlock_29 : decode cX5_lowestBlock 29 = .ok (.invokestatic 26, 3) := by decide +kernel
theorem dX5_lowestBlock_32 : decode cX5_lowestBlock 32 = .ok (.ifCond .ne 9, 3) := by decide +kernel
theorem dX5_lowestBlock_35 : decode cX5_lowestBlock 35 = .ok (.aload_n 0, 1) := by decide +kernel
theorem dX5_lowestBlock_36 : decode cX5_lowestBlock 36 = .ok (.iconst 1, 1) := by decide +kernel
theorem dX5_lowestBlock_37 : decode cX5_lowestBlock 37 = .ok (.invokevirtual 85, 3) := by decide +kernel
theorem dX5_lowestBlock_40 : decode cX5_lowestBlock 40 = .ok (.ireturn, 1) := by decide +kernel
theorem dX5_lowestBlock_41 : decode cX5_lowestBlock 41 = .ok (.aload_n 0, 1) := by decide +kernel
theorem dX5_lowestBlock_42 : decode cX5_lowestBlock 42 = .ok (.iload_n 1, 1) := by decide +kernel
theorem dX5_lowestBlock_43 : decode cX5_lowestBlock 43 = .ok (.iload_n 2, 1) := by decide +kernel
theorem dX5_lowestBlock_44 : decode cX5_lowestBlock 44 = .ok (.iload_n 3, 1) := by decide +kernel
theorem dX5_lowestBlock_45 : decode cX5_lowestBlock 45 = .ok (.invokevirtual 52, 3) := by decide +kernel
theorem dX5_lowestBlock_48 : decode cX5_lowestBlock 48 = .ok (.istore 4, 2) := by decide +kernel
theorem dX5_lowestBlock_50 : decode cX5_lowestBlock 50 = .ok (.iload 4, 2) := by decide +kernel
theorem dX5_lowestBlock_52 : decode cX5_lowestBlock 52 = .ok (.ifCond .ge 11, 3) := by decide +kernel
theorem dX5_lowestBlock_55 : decode cX5_lowestBlock 55 = .ok (.aload_n 0, 1) := by decide +kernel
theorem dX5_lowestBlock_56 : decode cX5_lowestBlock 56 = .ok (.iconst 2, 1) := by decide +kernel
theorem dX5_lowestBlock_57 : decode cX5_lowestBlock 57 = .ok (.invokevirtual 85, 3) := by decide +kernel
theorem dX5_lowestBlock_60 : decode cX5_lowestBlock 60 = .ok (.goto 5, 3) := by decide +kernel
theorem dX5_lowestBlock_63 : decode cX5_lowestBlock 63 = .ok (.iload 4, 2) := by decide +kernel
theorem dX5_lowestBlock_65 : decode cX5_lowestBlock 65 = .ok (.ireturn, 1) := by decide +kernel
theorem dX5_blockStarts_0 : decode cX5_blockStarts 0 = .ok (.aload_n 0, 1) := by decide +kernel
theorem dX5_blockStarts_1 : decode cX5_blockStarts 1 = .ok (.iconst 0, 1) := by decide +kernel
theorem dX5_blockStarts_2 : decode cX5_blockStarts 2 = .ok (.putfield 22, 3) := by decide +kernel
theorem dX5_blockStarts_5 : decode cX5_blockStarts 5 = .ok (.iload_n 1, 1) := by decide +kernel
theorem dX5_blockStarts_6 : decode cX5_blockStarts 6 = .ok (.iconst 0, 1) := by decide +kernel
theorem dX5_blockStarts_7 : decode cX5_blockStarts 7 = .ok (.iconst 5, 1) := by decide +kernel
theorem dX5_blockStarts_8 : decode cX5_blockStarts 8 = .ok (.invokestatic 26, 3) := by decide +kernel
theorem dX5_blockStarts_11 : decode cX5_blockStarts 11 = .ok (.ifCond .eq 21, 3) := by decide +kernel
theorem dX5_blockStarts_14 : decode cX5_blockStarts 14 = .ok (.iload_n 2, 1) := by decide +kernel
theorem dX5_blockStarts_15 : decode cX5_blockStarts 15 = .ok (.iconst 0, 1) := by decide +kernel
theorem dX5_blockStarts_16 : decode cX5_blockStarts 16 = .ok (.bipush 31, 2) := by decide +kernel
theorem dX5_blockStarts_18 : decode cX5_blockStarts 18 = .ok (.invokestatic 26, 3) := by decide +kernel
theorem dX5_blockStarts_21 : decode cX5_blockStarts 21 = .ok (.ifCond .eq 11, 3) := by decide +kernel
theorem dX5_blockStarts_24 : decode cX5_blockStarts 24 = .ok (.iload_n 2, 1) := by decide +kernel
theorem dX5_blockStarts_25 : decode cX5_blockStarts 25 = .ok (.iconst 1, 1) := by decide +kernel
theorem dX5_blockStarts_26 : decode cX5_blockStarts 26 = .ok (.iload_n 1, 1) := by decide +kernel
theorem dX5_blockStarts_27 : decode cX5_blockStarts 27 = .ok (.ishl, 1) := by decide +kernel
theorem dX5_blockStarts_28 : decode cX5_blockStarts 28 = .ok (.irem, 1) := by decide +kernel
theorem dX5_blockStarts_29 : decode cX5_blockStarts 29 = .ok (.ifCond .eq 9, 3) := by decide +kernel
theorem dX5_blockStarts_32 : decode cX5_blockStarts 32 = .ok (.aload_n 0, 1) := by decide +kernel
theorem dX5_blockStarts_33 : decode cX5_blockStarts 33 = .ok (.iconst 1, 1) := by decide +kernel
theorem dX5_blockStarts_34 : decode cX5_blockStarts 34 = .ok (.invokevirtual 85, 3) := by decide +kernel
theorem dX5_blockStarts_37 : decode cX5_blockStarts 37 = .ok (.ireturn, 1) := by decide +kernel
theorem dX5_blockStarts_38 : decode cX5_blockStarts 38 = .ok (.aload_n 0, 1) := by decide +kernel
theorem dX5_blockStarts_39 : decode cX5_blockStarts 39 = .ok (.getfield 9, 3) := by decide +kernel
theorem dX5_blockStarts_42 : decode cX5_blockStarts 42 = .ok (.sipush 545, 3) := by decide +kernel
theorem dX5_blockStarts_45 : decode cX5_blockStarts 45 = .ok (.iload_n 1, 1) := by decide +kernel
theorem dX5_blockStarts_46 : decode cX5_blockStarts 46 = .ok (.iload_n 2, 1) := by decide +kernel
theorem dX5_blockStarts_47 : decode cX5_blockStarts 47 = .ok (.invokestatic 82, 3) := by decide +kernel
theorem dX5_blockStarts_50 : decode cX5_blockStarts 50 = .ok (.iadd, 1) := by decide +kernel
theorem dX5_blockStarts_51 : decode cX5_blockStarts 51 = .ok (.iaload, 1) := by decide +kernel
theorem dX5_blockStarts_52 : decode cX5_blockStarts 52 = .ok (.ireturn, 1) := by decide +kernel
theorem dX5_busiestBlock_0 : decode cX5_busiestBlock 0 = .ok (.aload_n 0, 1) := by decide +kernel
theorem dX5_busiestBlock_1 : decode cX5_busiestBlock 1 = .ok (.iconst 0, 1) := by decide +kernel
theorem dX5_busiestBlock_2 : decode cX5_busiestBlock 2 = .ok (.putfield 22, 3) := by decide +kernel
theorem dX5_busiestBlock_5 : decode cX5_busiestBlock 5 = .ok (.iconst 0, 1) := by decide +kernel
theorem dX5_busiestBlock_6 : decode cX5_busiestBlock 6 = .ok (.istore_n 1, 1) := by decide +kernel
theorem dX5_busiestBlock_7 : decode cX5_busiestBlock 7 = .ok (.iconst 0, 1) := by decide +kernel
theorem dX5_busiestBlock_8 : decode cX5_busiestBlock 8 = .ok (.istore_n 2, 1) := by decide +kernel
theorem dX5_busiestBlock_9 : decode cX5_busiestBlock 9 = .ok (.iconst 0, 1) := by decide +kernel
theorem dX5_busiestBlock_10 : decode cX5_busiestBlock 10 = .ok (.istore_n 3, 1) := by decide +kernel
theorem dX5_busiestBlock_11 : decode cX5_busiestBlock 11 = .ok (.iload_n 3, 1) := by decide +kernel
theorem dX5_busiestBlock_12 : decode cX5_busiestBlock 12 = .ok (.bipush 6, 2) := by decide +kernel
theorem dX5_busiestBlock_14 : decode cX5_busiestBlock 14 = .ok (.if_icmp .ge 76, 3) := by decide +kernel
theorem dX5_busiestBlock_17 : decode cX5_busiestBlock 17 = .ok (.iconst 0, 1) := by decide +kernel
theorem dX5_busiestBlock_18 : decode cX5_busiestBlock 18 = .ok (.istore 4, 2) := by decide +kernel
theorem dX5_busiestBlock_20 : decode cX5_busiestBlock 20 = .ok (.iload 4, 2) := by decide +kernel
theorem dX5_busiestBlock_22 : decode cX5_busiestBlock 22 = .ok (.bipush 32, 2) := by decide +kernel
theorem dX5_busiestBlock_24 : decode cX5_busiestBlock 24 = .ok (.if_icmp .ge 60, 3) := by decide +kernel
theorem dX5_busiestBlock_27 : decode cX5_busiestBlock 27 = .ok (.aload_n 0, 1) := by decide +kernel
theorem dX5_busiestBlock_28 : decode cX5_busiestBlock 28 = .ok (.getfield 9, 3) := by decide +kernel
theorem dX5_busiestBlock_31 : decode cX5_busiestBlock 31 = .ok (.sipush 545, 3) := by decide +kernel
theorem dX5_busiestBlock_34 : decode cX5_busiestBlock 34 = .ok (.iload_n 3, 1) := by decide +kernel
theorem dX5_busiestBlock_35 : decode cX5_busiestBlock 35 = .ok (.iload 4, 2) := by decide +kernel
theorem dX5_busiestBlock_37 : decode cX5_busiestBlock 37 = .ok (.invokestatic 82, 3) := by decide +kernel
theorem dX5_busiestBlock_40 : decode cX5_busiestBlock 40 = .ok (.iadd, 1) := by decide +kernel
theorem dX5_busiestBlock_41 : decode cX5_busiestBlock 41 = .ok (.iaload, 1) := by decide +kernel
theorem dX5_busiestBlock_42 : decode cX5_busiestBlock 42 = .ok (.iload_n 1, 1) := by decide +kernel
theorem dX5_busiestBlock_43 : decode cX5_busiestBlock 43 = .ok (.if_icmp .gt 6, 3) := by decide +kernel
theorem dX5_busiestBlock_46 : decode cX5_busiestBlock 46 = .ok (.goto 27, 3) := by decide +kernel
theorem dX5_busiestBlock_49 : decode cX5_busiestBlock 49 = .ok (.aload_n 0, 1) := by decide +kernel
theorem dX5_busiestBlock_50 : decode cX5_busiestBlock 50 = .ok (.getfield 9, 3) := by decide +kernel
theorem dX5_busiestBlock_53 : decode cX5_busiestBlock 53 = .ok (.sipush 545, 3) := by decide +kernel
theorem dX5_busiestBlock_56 : decode cX5_busiestBlock 56 = .ok (.iload_n 3, 1) := by decide +kernel
theorem dX5_busiestBlock_57 : decode cX5_busiestBlock 57 = .ok (.iload 4, 2) := by decide +kernel
theorem dX5_busiestBlock_59 : decode cX5_busiestBlock 59 = .ok (.invokestatic 82, 3) := by decide +kernel
theorem dX5_busiestBlock_62 : decode cX5_busiestBlock 62 = .ok (.iadd, 1) := by decide +kernel
theorem dX5_busiestBlock_63 : decode cX5_busiestBlock 63 = .ok (.iaload, 1) := by decide +kernel
theorem dX5_busiestBlock_64 : decode cX5_busiestBlock 64 = .ok (.istore_n 1, 1) := by decide +kernel
theorem dX5_busiestBlock_65 : decode cX5_busiestBlock 65 = .ok (.bipush 100, 2) := by decide +kernel
theorem dX5_busiestBlock_67 : decode cX5_busiestBlock 67 = .ok (.iload_n 3, 1) := by decide +kernel
theorem dX5_busiestBlock_68 : decode cX5_busiestBlock 68 = .ok (.imul, 1) := by decide +kernel
theorem dX5_busiestBlock_69 : decode cX5_busiestBlock 69 = .ok (.iload 4, 2) := by decide +kernel
theorem dX5_busiestBlock_71 : decode cX5_busiestBlock 71 = .ok (.iadd, 1) := by decide +kernel
theorem dX5_busiestBlock_72 : decode cX5_busiestBlock 72 = .ok (.istore_n 2, 1) := by decide +kernel
theorem dX5_busiestBlock_73 : decode cX5_busiestBlock 73 = .ok (.iload 4, 2) := by decide +kernel
theorem dX5_busiestBlock_75 : decode cX5_busiestBlock 75 = .ok (.iconst 1, 1) := by decide +kernel
theorem dX5_busiestBlock_76 : decode cX5_busiestBlock 76 = .ok (.iload_n 3, 1) := by decide +kernel
theorem dX5_busiestBlock_77 : decode cX5_busiestBlock 77 = .ok (.ishl, 1) := by decide +kernel
theorem dX5_busiestBlock_78 : decode cX5_busiestBlock 78 = .ok (.iadd, 1) := by decide +kernel
theorem dX5_busiestBlock_79 : decode cX5_busiestBlock 79 = .ok (.istore 4, 2) := by decide +kernel
theorem dX5_busiestBlock_81 : decode cX5_busiestBlock 81 = .ok (.goto (-61), 3) := by decide +kernel
theorem dX5_busiestBlock_84 : decode cX5_busiestBlock 84 = .ok (.iinc 3 1, 3) := by decide +kernel
theorem dX5_busiestBlock_87 : decode cX5_busiestBlock 87 = .ok (.goto (-76), 3) := by decide +kernel
theorem dX5_busiestBlock_90 : decode cX5_busiestBlock 90 = .ok (.iload_n 1, 1) := by decide +kernel
theorem dX5_busiestBlock_91 : decode cX5_busiestBlock 91 = .ok (.ifCond .ne 11, 3) := by decide +kernel
theorem dX5_busiestBlock_94 : decode cX5_busiestBlock 94 = .ok (.aload_n 0, 1) := by decide +kernel
theorem dX5_busiestBlock_95 : decode cX5_busiestBlock 95 = .ok (.iconst 1, 1) := by decide +kernel
theorem dX5_busiestBlock_96 : decode cX5_busiestBlock 96 = .ok (.invokevirtual 85, 3) := by decide +kernel
theorem dX5_busiestBlock_99 : decode cX5_busiestBlock 99 = .ok (.goto 4, 3) := by decide +kernel
theorem dX5_busiestBlock_102 : decode cX5_busiestBlock 102 = .ok (.iload_n 2, 1) := by decide +kernel
theorem dX5_busiestBlock_103 : decode cX5_busiestBlock 103 = .ok (.ireturn, 1) := by decide +kernel
theorem dX5_eventCount_0 : decode cX5_eventCount 0 = .ok (.aload_n 0, 1) := by decide +kernel
theorem dX5_eventCount_1 : decode cX5_eventCount 1 = .ok (.iconst 0, 1) := by decide +kernel
theorem dX5_eventCount_2 : decode cX5_eventCount 2 = .ok (.putfield 22, 3) := by decide +kernel
theorem dX5_eventCount_5 : decode cX5_eventCount 5 = .ok (.aload_n 0, 1) := by decide +kernel
theorem dX5_eventCount_6 : decode cX5_eventCount 6 = .ok (.getfield 9, 3) := by decide +kernel
theorem dX5_eventCount_9 : decode cX5_eventCount 9 = .ok (.iconst 4, 1) := by decide +kernel
theorem dX5_eventCount_10 : decode cX5_eventCount 10 = .ok (.iaload, 1) := by decide +kernel
theorem dX5_eventCount_11 : decode cX5_eventCount 11 = .ok (.ireturn, 1) := by decide +kernel
theorem dX5_event_0 : decode cX5_event 0 = .ok (.aload_n 0, 1) := by decide +kernel
theorem dX5_event_1 : decode cX5_event 1 = .ok (.iconst 0, 1) := by decide +kernel
theorem dX5_event_2 : decode cX5_event 2 = .ok (.putfield 22, 3) := by decide +kernel
theorem dX5_event_5 : decode cX5_event 5 = .ok (.iload_n 1, 1) := by decide +kernel
theorem dX5_event_6 : decode cX5_event 6 = .ok (.iconst 0, 1) := by decide +kernel
theorem dX5_event_7 : decode cX5_event 7 = .ok (.aload_n 0, 1) := by decide +kernel
theorem dX5_event_8 : decode cX5_event 8 = .ok (.getfield 9, 3) := by decide +kernel
theorem dX5_event_11 : decode cX5_event 11 = .ok (.iconst 4, 1) := by decide +kernel
theorem dX5_event_12 : decode cX5_event 12 = .ok (.iaload, 1) := by decide +kernel
theorem dX5_event_13 : decode cX5_event 13 = .ok (.iconst 1, 1) := by decide +kernel
theorem dX5_event_14 : decode cX5_event 14 = .ok (.isub, 1) := by decide +kernel
theorem dX5_event_15 : decode cX5_event 15 = .ok (.invokestatic 26, 3) := by decide +kernel
theorem dX5_event_18 : decode cX5_event 18 = .ok (.ifCond .eq 29, 3) := by decide +kernel
theorem dX5_event_21 : decode cX5_event 21 = .ok (.iload_n 2, 1) := by decide +kernel
theorem dX5_event_22 : decode cX5_event 22 = .ok (.iconst 0, 1) := by decide +kernel
theorem dX5_event_23 : decode cX5_event 23 = .ok (.iconst 2, 1) := by decide +kernel
theorem dX5_event_24 : decode cX5_event 24 = .ok (.invokestatic 26, 3) := by decide +kernel
theorem dX5_event_27 : decode cX5_event 27 = .ok (.ifCond .eq 20, 3) := by decide +kernel
theorem dX5_event_30 : decode cX5_event 30 = .ok (.aload_n 0, 1) := by decide +kernel
theorem dX5_event_31 : decode cX5_event 31 = .ok (.getfield 9, 3) := by decide +kernel
theorem dX5_event_34 : decode cX5_event 34 = .ok (.sipush 365, 3) := by decide +kernel
theorem dX5_event_37 : decode cX5_event 37 = .ok (.iconst 3, 1) := by decide +kernel
theorem dX5_event_38 : decode cX5_event 38 = .ok (.iload_n 1, 1) := by decide +kernel
theorem dX5_event_39 : decode cX5_event 39 = .ok (.imul, 1) := by decide +kernel
theorem dX5_event_40 : decode cX5_event 40 = .ok (.iadd, 1) := by decide +kernel
theorem dX5_event_41 : decode cX5_event 41 = .ok (.iload_n 2, 1) := by decide +kernel
theorem dX5_event_42 : decode cX5_event 42 = .ok (.iadd, 1) := by decide +kernel
theorem dX5_event_43 : decode cX5_event 43 = .ok (.iaload, 1) := by decide +kernel
theorem dX5_event_44 : decode cX5_event 44 = .ok (.goto 8, 3) := by decide +kernel
theorem dX5_event_47 : decode cX5_event 47 = .ok (.aload_n 0, 1) := by decide +kernel
theorem dX5_event_48 : decode cX5_event 48 = .ok (.iconst 1, 1) := by decide +kernel
theorem dX5_event_49 : decode cX5_event 49 = .ok (.invokevirtual 85, 3) := by decide +kernel
theorem dX5_event_52 : decode cX5_event 52 = .ok (.ireturn, 1) := by decide +kernel
theorem dX5_save_0 : decode cX5_save 0 = .ok (.aload_n 0, 1) := by decide +kernel
theorem dX5_save_1 : decode cX5_save 1 = .ok (.iconst 0, 1) := by decide +kernel
theorem dX5_save_2 : decode cX5_save 2 = .ok (.putfield 22, 3) := by decide +kernel
theorem dX5_save_5 : decode cX5_save 5 = .ok (.aload_n 0, 1) := by decide +kernel
theorem dX5_save_6 : decode cX5_save 6 = .ok (.iconst 1, 1) := by decide +kernel
theorem dX5_save_7 : decode cX5_save 7 = .ok (.putfield 130, 3) := by decide +kernel
theorem dX5_save_10 : decode cX5_save 10 = .ok (.iconst 0, 1) := by decide +kernel
theorem dX5_save_11 : decode cX5_save 11 = .ok (.istore_n 1, 1) := by decide +kernel
theorem dX5_save_12 : decode cX5_save 12 = .ok (.iload_n 1, 1) := by decide +kernel
theorem dX5_save_13 : decode cX5_save 13 = .ok (.sipush 609, 3) := by decide +kernel
theorem dX5_save_16 : decode cX5_save 16 = .ok (.if_icmp .ge 21, 3) := by decide +kernel
theorem dX5_save_19 : decode cX5_save 19 = .ok (.aload_n 0, 1) := by decide +kernel
theorem dX5_save_20 : decode cX5_save 20 = .ok (.getfield 13, 3) := by decide +kernel
theorem dX5_save_23 : decode cX5_save 23 = .ok (.iload_n 1, 1) := by decide +kernel
theorem dX5_save_24 : decode cX5_save 24 = .ok (.aload_n 0, 1) := by decide +kernel
theorem dX5_save_25 : decode cX5_save 25 = .ok (.getfield 9, 3) := by decide +kernel
theorem dX5_save_28 : decode cX5_save 28 = .ok (.iload_n 1, 1) := by decide +kernel
theorem dX5_save_29 : decode cX5_save 29 = .ok (.iaload, 1) := by decide +kernel
theorem dX5_save_30 : decode cX5_save 30 = .ok (.iastore, 1) := by decide +kernel
theorem dX5_save_31 : decode cX5_save 31 = .ok (.iinc 1 1, 3) := by decide +kernel
theorem dX5_save_34 : decode cX5_save 34 = .ok (.goto (-22), 3) := by decide +kernel
theorem dX5_save_37 : decode cX5_save 37 = .ok (.return_, 1) := by decide +kernel
theorem dX5_restore_0 : decode cX5_restore 0 = .ok (.aload_n 0, 1) := by decide +kernel
theorem dX5_restore_1 : decode cX5_restore 1 = .ok (.iconst 0, 1) := by decide +kernel
theorem dX5_restore_2 : decode cX5_restore 2 = .ok (.putfield 22, 3) := by decide +kernel
theorem dX5_restore_5 : decode cX5_restore 5 = .ok (.aload_n 0, 1) := by decide +kernel
theorem dX5_restore_6 : decode cX5_restore 6 = .ok (.getfield 130, 3) := by decide +kernel
theorem dX5_restore_9 : decode cX5_restore 9 = .ok (.ifCond .ne 9, 3) := by decide +kernel
theorem dX5_restore_12 : decode cX5_restore 12 = .ok (.aload_n 0, 1) := by decide +kernel
theorem dX5_restore_13 : decode cX5_restore 13 = .ok (.iconst 1, 1) := by decide +kernel
theorem dX5_restore_14 : decode cX5_restore 14 = .ok (.invokevirtual 85, 3) := by decide +kernel
theorem dX5_restore_17 : decode cX5_restore 17 = .ok (.ireturn, 1) := by decide +kernel
theorem dX5_restore_18 : decode cX5_restore 18 = .ok (.iconst 0, 1) := by decide +kernel
theorem dX5_restore_19 : decode cX5_restore 19 = .ok (.istore_n 1, 1) := by decide +kernel
theorem dX5_restore_20 : decode cX5_restore 20 = .ok (.iload_n 1, 1) := by decide +kernel
theorem dX5_restore_21 : decode cX5_restore 21 = .ok (.sipush 609, 3) := by decide +kernel
theorem dX5_restore_24 : decode cX5_restore 24 = .ok (.if_icmp .ge 21, 3) := by decide +kernel
theorem dX5_restore_27 : decode cX5_restore 27 = .ok (.aload_n 0, 1) := by decide +kernel
theorem dX5_restore_28 : decode cX5_restore 28 = .ok (.getfield 9, 3) := by decide +kernel
theorem dX5_restore_31 : decode cX5_restore 31 = .ok (.iload_n 1, 1) := by decide +kernel
theorem dX5_restore_32 : decode cX5_restore 32 = .ok (.aload_n 0, 1) := by decide +kernel
theorem dX5_restore_33 : decode cX5_restore 33 = .ok (.getfield 13, 3) := by decide +kernel
theorem dX5_restore_36 : decode cX5_restore 36 = .ok (.iload_n 1, 1) := by decide +kernel
theorem dX5_restore_37 : decode cX5_restore 37 = .ok (.iaload, 1) := by decide +kernel
theorem dX5_restore_38 : decode cX5_restore 38 = .ok (.iastore, 1) := by decide +kernel
theorem dX5_restore_39 : decode cX5_restore 39 = .ok (.iinc 1 1, 3) := by decide +kernel
theorem dX5_restore_42 : decode cX5_restore 42 = .ok (.goto (-22), 3) := by decide +kernel
theorem dX5_restore_45 : decode cX5_restore 45 = .ok (.aload_n 0, 1) := by decide +kernel
theorem dX5_restore_46 : decode cX5_restore 46 = .ok (.getfield 9, 3) := by decide +kernel
theorem dX5_restore_49 : decode cX5_restore 49 = .ok (.iconst 0, 1) := by decide +kernel
theorem dX5_restore_50 : decode cX5_restore 50 = .ok (.iaload, 1) := by decide +kernel
theorem dX5_restore_51 : decode cX5_restore 51 = .ok (.ireturn, 1) := by decide +kernel
end
section
theorem dL_submit_0 : decode cL_submit 0 = .ok (.aload 5, 2) := by decide +kernel
theorem dL_submit_2 : decode cL_submit 2 = .ok (.iconst 0, 1) := by decide +kernel
theorem dL_submit_3 : decode cL_submit 3 = .ok (.aload_n 0, 1) := by decide +kernel
theorem dL_submit_4 : decode cL_submit 4 = .ok (.iload_n 1, 1) := by decide +kernel
theorem dL_submit_5 : decode cL_submit 5 = .ok (.iload_n 2, 1) := by decide +kernel
theorem dL_submit_6 : decode cL_submit 6 = .ok (.iload_n 3, 1) := by decide +kernel
theorem dL_submit_7 : decode cL_submit 7 = .ok (.iload 4, 2) := by decide +kernel
theorem dL_submit_9 : decode cL_submit 9 = .ok (.invokevirtual 7, 3) := by decide +kernel
theorem dL_submit_12 : decode cL_submit 12 = .ok (.i2l, 1) := by decide +kernel
theorem dL_submit_13 : decode cL_submit 13 = .ok (.lastore, 1) := by decide +kernel
theorem dL_submit_14 : decode cL_submit 14 = .ok (.goto 11, 3) := by decide +kernel
theorem dL_submit_17 : decode cL_submit 17 = .ok (.astore 6, 2) := by decide +kernel
theorem dL_submit_19 : decode cL_submit 19 = .ok (.iconst 1, 1) := by decide +kernel
theorem dL_submit_20 : decode cL_submit 20 = .ok (.ireturn, 1) := by decide +kernel
theorem dL_submit_21 : decode cL_submit 21 = .ok (.astore 6, 2) := by decide +kernel
theorem dL_submit_23 : decode cL_submit 23 = .ok (.iconst 2, 1) := by decide +kernel
theorem dL_submit_24 : decode cL_submit 24 = .ok (.ireturn, 1) := by decide +kernel
theorem dL_submit_25 : decode cL_submit 25 = .ok (.iconst 0, 1) := by decide +kernel
theorem dL_submit_26 : decode cL_submit 26 = .ok (.ireturn, 1) := by decide +kernel
theorem dL_advance_0 : decode cL_advance 0 = .ok (.aload_n 2, 1) := by decide +kernel
theorem dL_advance_1 : decode cL_advance 1 = .ok (.iconst 0, 1) := by decide +kernel
theorem dL_advance_2 : decode cL_advance 2 = .ok (.aload_n 0, 1) := by decide +kernel
theorem dL_advance_3 : decode cL_advance 3 = .ok (.iload_n 1, 1) := by decide +kernel
theorem dL_advance_4 : decode cL_advance 4 = .ok (.invokevirtual 17, 3) := by decide +kernel
theorem dL_advance_7 : decode cL_advance 7 = .ok (.i2l, 1) := by decide +kernel
theorem dL_advance_8 : decode cL_advance 8 = .ok (.lastore, 1) := by decide +kernel
theorem dL_advance_9 : decode cL_advance 9 = .ok (.goto 9, 3) := by decide +kernel
theorem dL_advance_12 : decode cL_advance 12 = .ok (.astore_n 3, 1) := by decide +kernel
theorem dL_advance_13 : decode cL_advance 13 = .ok (.iconst 1, 1) := by decide +kernel
theorem dL_advance_14 : decode cL_advance 14 = .ok (.ireturn, 1) := by decide +kernel
theorem dL_advance_15 : decode cL_advance 15 = .ok (.astore_n 3, 1) := by decide +kernel
theorem dL_advance_16 : decode cL_advance 16 = .ok (.iconst 2, 1) := by decide +kernel
theorem dL_advance_17 : decode cL_advance 17 = .ok (.ireturn, 1) := by decide +kernel
theorem dL_advance_18 : decode cL_advance 18 = .ok (.iconst 0, 1) := by decide +kernel
theorem dL_advance_19 : decode cL_advance 19 = .ok (.ireturn, 1) := by decide +kernel
theorem dL_cancel_0 : decode cL_cancel 0 = .ok (.aload_n 2, 1) := by decide +kernel
theorem dL_cancel_1 : decode cL_cancel 1 = .ok (.iconst 0, 1) := by decide +kernel
theorem dL_cancel_2 : decode cL_cancel 2 = .ok (.aload_n 0, 1) := by decide +kernel
theorem dL_cancel_3 : decode cL_cancel 3 = .ok (.iload_n 1, 1) := by decide +kernel
theorem dL_cancel_4 : decode cL_cancel 4 = .ok (.invokevirtual 21, 3) := by decide +kernel
theorem dL_cancel_7 : decode cL_cancel 7 = .ok (.i2l, 1) := by decide +kernel
theorem dL_cancel_8 : decode cL_cancel 8 = .ok (.lastore, 1) := by decide +kernel
theorem dL_cancel_9 : decode cL_cancel 9 = .ok (.goto 9, 3) := by decide +kernel
theorem dL_cancel_12 : decode cL_cancel 12 = .ok (.astore_n 3, 1) := by decide +kernel
theorem dL_cancel_13 : decode cL_cancel 13 = .ok (.iconst 1, 1) := by decide +kernel
theorem dL_cancel_14 : decode cL_cancel 14 = .ok (.ireturn, 1) := by decide +kernel
theorem dL_cancel_15 : decode cL_cancel 15 = .ok (.astore_n 3, 1) := by decide +kernel
theorem dL_cancel_16 : decode cL_cancel 16 = .ok (.iconst 2, 1) := by decide +kernel
theorem dL_cancel_17 : decode cL_cancel 17 = .ok (.ireturn, 1) := by decide +kernel
theorem dL_cancel_18 : decode cL_cancel 18 = .ok (.iconst 0, 1) := by decide +kernel
theorem dL_cancel_19 : decode cL_cancel 19 = .ok (.ireturn, 1) := by decide +kernel
theorem dL_preempt_0 : decode cL_preempt 0 = .ok (.aload_n 3, 1) := by decide +kernel
theorem dL_preempt_1 : decode cL_preempt 1 = .ok (.iconst 0, 1) := by decide +kernel
theorem dL_preempt_2 : decode cL_preempt 2 = .ok (.aload_n 0, 1) := by decide +kernel
theorem dL_preempt_3 : decode cL_preempt 3 = .ok (.iload_n 1, 1) := by decide +kernel
theorem dL_preempt_4 : decode cL_preempt 4 = .ok (.iload_n 2, 1) := by decide +kernel
theorem dL_preempt_5 : decode cL_preempt 5 = .ok (.invokevirtual 26, 3) := by decide +kernel
theorem dL_preempt_8 : decode cL_preempt 8 = .ok (.i2l, 1) := by decide +kernel
theorem dL_preempt_9 : decode cL_preempt 9 = .ok (.lastore, 1) := by decide +kernel
theorem dL_preempt_10 : decode cL_preempt 10 = .ok (.goto 15, 3) := by decide +kernel
theorem dL_preempt_13 : decode cL_preempt 13 = .ok (.astore 4, 2) := by decide +kernel
theorem dL_preempt_15 : decode cL_preempt 15 = .ok (.iconst 1, 1) := by decide +kernel
theorem dL_preempt_16 : decode cL_preempt 16 = .ok (.ireturn, 1) := by decide +kernel
theorem dL_preempt_17 : decode cL_preempt 17 = .ok (.astore 4, 2) := by decide +kernel
theorem dL_preempt_19 : decode cL_preempt 19 = .ok (.iconst 2, 1) := by decide +kernel
theorem dL_preempt_20 : decode cL_preempt 20 = .ok (.ireturn, 1) := by decide +kernel
theorem dL_preempt_21 : decode cL_preempt 21 = .ok (.astore 4, 2) := by decide +kernel
theorem dL_preempt_23 : decode cL_preempt 23 = .ok (.iconst 3, 1) := by decide +kernel
theorem dL_preempt_24 : decode cL_preempt 24 = .ok (.ireturn, 1) := by decide +kernel
theorem dL_preempt_25 : decode cL_preempt 25 = .ok (.iconst 0, 1) := by decide +kernel
theorem dL_preempt_26 : decode cL_preempt 26 = .ok (.ireturn, 1) := by decide +kernel
theorem dL_reserve_0 : decode cL_reserve 0 = .ok (.aload 4, 2) := by decide +kernel
theorem dL_reserve_2 : decode cL_reserve 2 = .ok (.iconst 0, 1) := by decide +kernel
theorem dL_reserve_3 : decode cL_reserve 3 = .ok (.aload_n 0, 1) := by decide +kernel
theorem dL_reserve_4 : decode cL_reserve 4 = .ok (.iload_n 1, 1) := by decide +kernel
theorem dL_reserve_5 : decode cL_reserve 5 = .ok (.iload_n 2, 1) := by decide +kernel
theorem dL_reserve_6 : decode cL_reserve 6 = .ok (.iload_n 3, 1) := by decide +kernel
theorem dL_reserve_7 : decode cL_reserve 7 = .ok (.invokevirtual 30, 3) := by decide +kernel
theorem dL_reserve_10 : decode cL_reserve 10 = .ok (.i2l, 1) := by decide +kernel
theorem dL_reserve_11 : decode cL_reserve 11 = .ok (.lastore, 1) := by decide +kernel
theorem dL_reserve_12 : decode cL_reserve 12 = .ok (.goto 11, 3) := by decide +kernel
theorem dL_reserve_15 : decode cL_reserve 15 = .ok (.astore 5, 2) := by decide +kernel
theorem dL_reserve_17 : decode cL_reserve 17 = .ok (.iconst 1, 1) := by decide +kernel
theorem dL_reserve_18 : decode cL_reserve 18 = .ok (.ireturn, 1) := by decide +kernel
theorem dL_reserve_19 : decode cL_reserve 19 = .ok (.astore 5, 2) := by decide +kernel
theorem dL_reserve_21 : decode cL_reserve 21 = .ok (.iconst 2, 1) := by decide +kernel
theorem dL_reserve_22 : decode cL_reserve 22 = .ok (.ireturn, 1) := by decide +kernel
theorem dL_reserve_23 : decode cL_reserve 23 = .ok (.iconst 0, 1) := by decide +kernel
theorem dL_reserve_24 : decode cL_reserve 24 = .ok (.ireturn, 1) := by decide +kernel
theorem dL_cancelReservation_0 : decode cL_cancelReservation 0 = .ok (.aload_n 0, 1) := by decide +kernel
theorem dL_cancelReservation_1 : decode cL_cancelReservation 1 = .ok (.iload_n 1, 1) := by decide +kernel
theorem dL_cancelReservation_2 : decode cL_cancelReservation 2 = .ok (.invokevirtual 34, 3) := by decide +kernel
theorem dL_cancelReservation_5 : decode cL_cancelReservation 5 = .ok (.goto 9, 3) := by decide +kernel
theorem dL_cancelReservation_8 : decode cL_cancelReservation 8 = .ok (.astore_n 2, 1) := by decide +kernel
theorem dL_cancelReservation_9 : decode cL_cancelReservation 9 = .ok (.iconst 1, 1) := by decide +kernel
theorem dL_cancelReservation_10 : decode cL_cancelReservation 10 = .ok (.ireturn, 1) := by decide +kernel
theorem dL_cancelReservation_11 : decode cL_cancelReservation 11 = .ok (.astore_n 2, 1) := by decide +kernel
theorem dL_cancelReservation_12 : decode cL_cancelReservation 12 = .ok (.iconst 2, 1) := by decide +kernel
theorem dL_cancelReservation_13 : decode cL_cancelReservation 13 = .ok (.ireturn, 1) := by decide +kernel
theorem dL_cancelReservation_14 : decode cL_cancelReservation 14 = .ok (.iconst 0, 1) := by decide +kernel
theorem dL_cancelReservation_15 : decode cL_cancelReservation 15 = .ok (.ireturn, 1) := by decide +kernel
theorem dL_reservedProcessor_0 : decode cL_reservedProcessor 0 = .ok (.aload_n 2, 1) := by decide +kernel
theorem dL_reservedProcessor_1 : decode cL_reservedProcessor 1 = .ok (.iconst 0, 1) := by decide +kernel
theorem dL_reservedProcessor_2 : decode cL_reservedProcessor 2 = .ok (.aload_n 0, 1) := by decide +kernel
theorem dL_reservedProcessor_3 : decode cL_reservedProcessor 3 = .ok (.iload_n 1, 1) := by decide +kernel
theorem dL_reservedProcessor_4 : decode cL_reservedProcessor 4 = .ok (.invokevirtual 38, 3) := by decide +kernel
theorem dL_reservedProcessor_7 : decode cL_reservedProcessor 7 = .ok (.i2l, 1) := by decide +kernel
theorem dL_reservedProcessor_8 : decode cL_reservedProcessor 8 = .ok (.lastore, 1) := by decide +kernel
theorem dL_reservedProcessor_9 : decode cL_reservedProcessor 9 = .ok (.goto 9, 3) := by decide +kernel
theorem dL_reservedProcessor_12 : decode cL_reservedProcessor 12 = .ok (.astore_n 3, 1) := by decide +kernel
theorem dL_reservedProcessor_13 : decode cL_reservedProcessor 13 = .ok (.iconst 1, 1) := by decide +kernel
theorem dL_reservedProcessor_14 : decode cL_reservedProcessor 14 = .ok (.ireturn, 1) := by decide +kernel
theorem dL_reservedProcessor_15 : decode cL_reservedProcessor 15 = .ok (.astore_n 3, 1) := by decide +kernel
theorem dL_reservedProcessor_16 : decode cL_reservedProcessor 16 = .ok (.iconst 2, 1) := by decide +kernel
theorem dL_reservedProcessor_17 : decode cL_reservedProcessor 17 = .ok (.ireturn, 1) := by decide +kernel
theorem dL_reservedProcessor_18 : decode cL_reservedProcessor 18 = .ok (.iconst 0, 1) := by decide +kernel
theorem dL_reservedProcessor_19 : decode cL_reservedProcessor 19 = .ok (.ireturn, 1) := by decide +kernel
theorem dL_state_0 : decode cL_state 0 = .ok (.aload_n 2, 1) := by decide +kernel
theorem dL_state_1 : decode cL_state 1 = .ok (.iconst 0, 1) := by decide +kernel
theorem dL_state_2 : decode cL_state 2 = .ok (.aload_n 0, 1) := by decide +kernel
theorem dL_state_3 : decode cL_state 3 = .ok (.iload_n 1, 1) := by decide +kernel
theorem dL_state_4 : decode cL_state 4 = .ok (.invokevirtual 41, 3) := by decide +kernel
theorem dL_state_7 : decode cL_state 7 = .ok (.i2l, 1) := by decide +kernel
theorem dL_state_8 : decode cL_state 8 = .ok (.lastore, 1) := by decide +kernel
theorem dL_state_9 : decode cL_state 9 = .ok (.goto 6, 3) := by decide +kernel
theorem dL_state_12 : decode cL_state 12 = .ok (.astore_n 3, 1) := by decide +kernel
theorem dL_state_13 : decode cL_state 13 = .ok (.iconst 1, 1) := by decide +kernel
theorem dL_state_14 : decode cL_state 14 = .ok (.ireturn, 1) := by decide +kernel
theorem dL_state_15 : decode cL_state 15 = .ok (.iconst 0, 1) := by decide +kernel
theorem dL_state_16 : decode cL_state 16 = .ok (.ireturn, 1) := by decide +kernel
theorem dL_startTime_0 : decode cL_startTime 0 = .ok (.aload_n 2, 1) := by decide +kernel
theorem dL_startTime_1 : decode cL_startTime 1 = .ok (.iconst 0, 1) := by decide +kernel
theorem dL_startTime_2 : decode cL_startTime 2 = .ok (.aload_n 0, 1) := by decide +kernel
theorem dL_startTime_3 : decode cL_startTime 3 = .ok (.iload_n 1, 1) := by decide +kernel
theorem dL_startTime_4 : decode cL_startTime 4 = .ok (.invokevirtual 44, 3) := by decide +kernel
theorem dL_startTime_7 : decode cL_startTime 7 = .ok (.i2l, 1) := by decide +kernel
theorem dL_startTime_8 : decode cL_startTime 8 = .ok (.lastore, 1) := by decide +kernel
theorem dL_startTime_9 : decode cL_startTime 9 = .ok (.goto 9, 3) := by decide +kernel
theorem dL_startTime_12 : decode cL_startTime 12 = .ok (.astore_n 3, 1) := by decide +kernel
theorem dL_startTime_13 : decode cL_startTime 13 = .ok (.iconst 1, 1) := by decide +kernel
theorem dL_startTime_14 : decode cL_startTime 14 = .ok (.ireturn, 1) := by decide +kernel
theorem dL_startTime_15 : decode cL_startTime 15 = .ok (.astore_n 3, 1) := by decide +kernel
theorem dL_startTime_16 : decode cL_startTime 16 = .ok (.iconst 2, 1) := by decide +kernel
theorem dL_startTime_17 : decode cL_startTime 17 = .ok (.ireturn, 1) := by decide +kernel
theorem dL_startTime_18 : decode cL_startTime 18 = .ok (.iconst 0, 1) := by decide +kernel
theorem dL_startTime_19 : decode cL_startTime 19 = .ok (.ireturn, 1) := by decide +kernel
theorem dL_firstProcessor_0 : decode cL_firstProcessor 0 = .ok (.aload_n 2, 1) := by decide +kernel
theorem dL_firstProcessor_1 : decode cL_firstProcessor 1 = .ok (.iconst 0, 1) := by decide +kernel
theorem dL_firstProcessor_2 : decode cL_firstProcessor 2 = .ok (.aload_n 0, 1) := by decide +kernel
theorem dL_firstProcessor_3 : decode cL_firstProcessor 3 = .ok (.iload_n 1, 1) := by decide +kernel
theorem dL_firstProcessor_4 : decode cL_firstProcessor 4 = .ok (.invokevirtual 47, 3) := by decide +kernel
theorem dL_firstProcessor_7 : decode cL_firstProcessor 7 = .ok (.i2l, 1) := by decide +kernel
theorem dL_firstProcessor_8 : decode cL_firstProcessor 8 = .ok (.lastore, 1) := by decide +kernel
theorem dL_firstProcessor_9 : decode cL_firstProcessor 9 = .ok (.goto 9, 3) := by decide +kernel
theorem dL_firstProcessor_12 : decode cL_firstProcessor 12 = .ok (.astore_n 3, 1) := by decide +kernel
theorem dL_firstProcessor_13 : decode cL_firstProcessor 13 = .ok (.iconst 1, 1) := by decide +kernel
theorem dL_firstProcessor_14 : decode cL_firstProcessor 14 = .ok (.ireturn, 1) := by decide +kernel
theorem dL_firstProcessor_15 : decode cL_firstProcessor 15 = .ok (.astore_n 3, 1) := by decide +kernel
theorem dL_firstProcessor_16 : decode cL_firstProcessor 16 = .ok (.iconst 2, 1) := by decide +kernel
theorem dL_firstProcessor_17 : decode cL_firstProcessor 17 = .ok (.ireturn, 1) := by decide +kernel
theorem dL_firstProcessor_18 : decode cL_firstProcessor 18 = .ok (.iconst 0, 1) := by decide +kernel
theorem dL_firstProcessor_19 : decode cL_firstProcessor 19 = .ok (.ireturn, 1) := by decide +kernel
theorem dL_promise_0 : decode cL_promise 0 = .ok (.aload_n 2, 1) := by decide +kernel
theorem dL_promise_1 : decode cL_promise 1 = .ok (.iconst 0, 1) := by decide +kernel
theorem dL_promise_2 : decode cL_promise 2 = .ok (.aload_n 0, 1) := by decide +kernel
theorem dL_promise_3 : decode cL_promise 3 = .ok (.iload_n 1, 1) := by decide +kernel
theorem dL_promise_4 : decode cL_promise 4 = .ok (.invokevirtual 50, 3) := by decide +kernel
theorem dL_promise_7 : decode cL_promise 7 = .ok (.i2l, 1) := by decide +kernel
theorem dL_promise_8 : decode cL_promise 8 = .ok (.lastore, 1) := by decide +kernel
theorem dL_promise_9 : decode cL_promise 9 = .ok (.goto 6, 3) := by decide +kernel
theorem dL_promise_12 : decode cL_promise 12 = .ok (.astore_n 3, 1) := by decide +kernel
theorem dL_promise_13 : decode cL_promise 13 = .ok (.iconst 1, 1) := by decide +kernel
theorem dL_promise_14 : decode cL_promise 14 = .ok (.ireturn, 1) := by decide +kernel
theorem dL_promise_15 : decode cL_promise 15 = .ok (.iconst 0, 1) := by decide +kernel
theorem dL_promise_16 : decode cL_promise 16 = .ok (.ireturn, 1) := by decide +kernel
theorem dL_finishTime_0 : decode cL_finishTime 0 = .ok (.aload_n 2, 1) := by decide +kernel
theorem dL_finishTime_1 : decode cL_finishTime 1 = .ok (.iconst 0, 1) := by decide +kernel
theorem dL_finishTime_2 : decode cL_finishTime 2 = .ok (.aload_n 0, 1) := by decide +kernel
theorem dL_finishTime_3 : decode cL_finishTime 3 = .ok (.iload_n 1, 1) := by decide +kernel
theorem dL_finishTime_4 : decode cL_finishTime 4 = .ok (.invokevirtual 53, 3) := by decide +kernel
theorem dL_finishTime_7 : decode cL_finishTime 7 = .ok (.i2l, 1) := by decide +kernel
theorem dL_finishTime_8 : decode cL_finishTime 8 = .ok (.lastore, 1) := by decide +kernel
theorem dL_finishTime_9 : decode cL_finishTime 9 = .ok (.goto 9, 3) := by decide +kernel
theorem dL_finishTime_12 : decode cL_finishTime 12 = .ok (.astore_n 3, 1) := by decide +kernel
theorem dL_finishTime_13 : decode cL_finishTime 13 = .ok (.iconst 1, 1) := by decide +kernel
theorem dL_finishTime_14 : decode cL_finishTime 14 = .ok (.ireturn, 1) := by decide +kernel
theorem dL_finishTime_15 : decode cL_finishTime 15 = .ok (.astore_n 3, 1) := by decide +kernel
theorem dL_finishTime_16 : decode cL_finishTime 16 = .ok (.iconst 2, 1) := by decide +kernel
theorem dL_finishTime_17 : decode cL_finishTime 17 = .ok (.ireturn, 1) := by decide +kernel
theorem dL_finishTime_18 : decode cL_finishTime 18 = .ok (.iconst 0, 1) := by decide +kernel
theorem dL_finishTime_19 : decode cL_finishTime 19 = .ok (.ireturn, 1) := by decide +kernel
theorem dL_preemptions_0 : decode cL_preemptions 0 = .ok (.aload_n 2, 1) := by decide +kernel
theorem dL_preemptions_1 : decode cL_preemptions 1 = .ok (.iconst 0, 1) := by decide +kernel
theorem dL_preemptions_2 : decode cL_preemptions 2 = .ok (.aload_n 0, 1) := by decide +kernel
theorem dL_preemptions_3 : decode cL_preemptions 3 = .ok (.iload_n 1, 1) := by decide +kernel
theorem dL_preemptions_4 : decode cL_preemptions 4 = .ok (.invokevirtual 56, 3) := by decide +kernel
theorem dL_preemptions_7 : decode cL_preemptions 7 = .ok (.i2l, 1) := by decide +kernel
theorem dL_preemptions_8 : decode cL_preemptions 8 = .ok (.lastore, 1) := by decide +kernel
theorem dL_preemptions_9 : decode cL_preemptions 9 = .ok (.goto 6, 3) := by decide +kernel
theorem dL_preemptions_12 : decode cL_preemptions 12 = .ok (.astore_n 3, 1) := by decide +kernel
theorem dL_preemptions_13 : decode cL_preemptions 13 = .ok (.iconst 1, 1) := by decide +kernel
theorem dL_preemptions_14 : decode cL_preemptions 14 = .ok (.ireturn, 1) := by decide +kernel
theorem dL_preemptions_15 : decode cL_preemptions 15 = .ok (.iconst 0, 1) := by decide +kernel
theorem dL_preemptions_16 : decode cL_preemptions 16 = .ok (.ireturn, 1) := by decide +kernel
theorem dL_waitTime_0 : decode cL_waitTime 0 = .ok (.aload_n 2, 1) := by decide +kernel
theorem dL_waitTime_1 : decode cL_waitTime 1 = .ok (.iconst 0, 1) := by decide +kernel
theorem dL_waitTime_2 : decode cL_waitTime 2 = .ok (.aload_n 0, 1) := by decide +kernel
theorem dL_waitTime_3 : decode cL_waitTime 3 = .ok (.iload_n 1, 1) := by decide +kernel
theorem dL_waitTime_4 : decode cL_waitTime 4 = .ok (.invokevirtual 59, 3) := by decide +kernel
theorem dL_waitTime_7 : decode cL_waitTime 7 = .ok (.i2l, 1) := by decide +kernel
theorem dL_waitTime_8 : decode cL_waitTime 8 = .ok (.lastore, 1) := by decide +kernel
theorem dL_waitTime_9 : decode cL_waitTime 9 = .ok (.goto 9, 3) := by decide +kernel
theorem dL_waitTime_12 : decode cL_waitTime 12 = .ok (.astore_n 3, 1) := by decide +kernel
theorem dL_waitTime_13 : decode cL_waitTime 13 = .ok (.iconst 1, 1) := by decide +kernel
theorem dL_waitTime_14 : decode cL_waitTime 14 = .ok (.ireturn, 1) := by decide +kernel
theorem dL_waitTime_15 : decode cL_waitTime 15 = .ok (.astore_n 3, 1) := by decide +kernel
theorem dL_waitTime_16 : decode cL_waitTime 16 = .ok (.iconst 2, 1) := by decide +kernel
theorem dL_waitTime_17 : decode cL_waitTime 17 = .ok (.ireturn, 1) := by decide +kernel
theorem dL_waitTime_18 : decode cL_waitTime 18 = .ok (.iconst 0, 1) := by decide +kernel
theorem dL_waitTime_19 : decode cL_waitTime 19 = .ok (.ireturn, 1) := by decide +kernel
theorem dL_averageWait_0 : decode cL_averageWait 0 = .ok (.aload_n 1, 1) := by decide +kernel
theorem dL_averageWait_1 : decode cL_averageWait 1 = .ok (.iconst 0, 1) := by decide +kernel
theorem dL_averageWait_2 : decode cL_averageWait 2 = .ok (.aload_n 0, 1) := by decide +kernel
theorem dL_averageWait_3 : decode cL_averageWait 3 = .ok (.invokevirtual 62, 3) := by decide +kernel
theorem dL_averageWait_6 : decode cL_averageWait 6 = .ok (.dastore, 1) := by decide +kernel
theorem dL_averageWait_7 : decode cL_averageWait 7 = .ok (.goto 6, 3) := by decide +kernel
theorem dL_averageWait_10 : decode cL_averageWait 10 = .ok (.astore_n 2, 1) := by decide +kernel
theorem dL_averageWait_11 : decode cL_averageWait 11 = .ok (.iconst 1, 1) := by decide +kernel
theorem dL_averageWait_12 : decode cL_averageWait 12 = .ok (.ireturn, 1) := by decide +kernel
theorem dL_averageWait_13 : decode cL_averageWait 13 = .ok (.iconst 0, 1) := by decide +kernel
theorem dL_averageWait_14 : decode cL_averageWait 14 = .ok (.ireturn, 1) := by decide +kernel
theorem dL_slowdown_0 : decode cL_slowdown 0 = .ok (.aload_n 2, 1) := by decide +kernel
theorem dL_slowdown_1 : decode cL_slowdown 1 = .ok (.iconst 0, 1) := by decide +kernel
theorem dL_slowdown_2 : decode cL_slowdown 2 = .ok (.aload_n 0, 1) := by decide +kernel
theorem dL_slowdown_3 : decode cL_slowdown 3 = .ok (.iload_n 1, 1) := by decide +kernel
theorem dL_slowdown_4 : decode cL_slowdown 4 = .ok (.invokevirtual 68, 3) := by decide +kernel
theorem dL_slowdown_7 : decode cL_slowdown 7 = .ok (.f2d, 1) := by decide +kernel
theorem dL_slowdown_8 : decode cL_slowdown 8 = .ok (.dastore, 1) := by decide +kernel
theorem dL_slowdown_9 : decode cL_slowdown 9 = .ok (.goto 9, 3) := by decide +kernel
theorem dL_slowdown_12 : decode cL_slowdown 12 = .ok (.astore_n 3, 1) := by decide +kernel
theorem dL_slowdown_13 : decode cL_slowdown 13 = .ok (.iconst 1, 1) := by decide +kernel
theorem dL_slowdown_14 : decode cL_slowdown 14 = .ok (.ireturn, 1) := by decide +kernel
theorem dL_slowdown_15 : decode cL_slowdown 15 = .ok (.astore_n 3, 1) := by decide +kernel
theorem dL_slowdown_16 : decode cL_slowdown 16 = .ok (.iconst 2, 1) := by decide +kernel
theorem dL_slowdown_17 : decode cL_slowdown 17 = .ok (.ireturn, 1) := by decide +kernel
theorem dL_slowdown_18 : decode cL_slowdown 18 = .ok (.iconst 0, 1) := by decide +kernel
theorem dL_slowdown_19 : decode cL_slowdown 19 = .ok (.ireturn, 1) := by decide +kernel
theorem dL_usage_0 : decode cL_usage 0 = .ok (.aload_n 2, 1) := by decide +kernel
theorem dL_usage_1 : decode cL_usage 1 = .ok (.iconst 0, 1) := by decide +kernel
theorem dL_usage_2 : decode cL_usage 2 = .ok (.aload_n 0, 1) := by decide +kernel
theorem dL_usage_3 : decode cL_usage 3 = .ok (.iload_n 1, 1) := by decide +kernel
theorem dL_usage_4 : decode cL_usage 4 = .ok (.invokevirtual 72, 3) := by decide +kernel
theorem dL_usage_7 : decode cL_usage 7 = .ok (.i2l, 1) := by decide +kernel
theorem dL_usage_8 : decode cL_usage 8 = .ok (.lastore, 1) := by decide +kernel
theorem dL_usage_9 : decode cL_usage 9 = .ok (.goto 6, 3) := by decide +kernel
theorem dL_usage_12 : decode cL_usage 12 = .ok (.astore_n 3, 1) := by decide +kernel
theorem dL_usage_13 : decode cL_usage 13 = .ok (.iconst 1, 1) := by decide +kernel
theorem dL_usage_14 : decode cL_usage 14 = .ok (.ireturn, 1) := by decide +kernel
theorem dL_usage_15 : decode cL_usage 15 = .ok (.iconst 0, 1) := by decide +kernel
theorem dL_usage_16 : decode cL_usage 16 = .ok (.ireturn, 1) := by decide +kernel
theorem dL_utilization_0 : decode cL_utilization 0 = .ok (.aload_n 1, 1) := by decide +kernel
theorem dL_utilization_1 : decode cL_utilization 1 = .ok (.iconst 0, 1) := by decide +kernel
theorem dL_utilization_2 : decode cL_utilization 2 = .ok (.aload_n 0, 1) := by decide +kernel
theorem dL_utilization_3 : decode cL_utilization 3 = .ok (.invokevirtual 75, 3) := by decide +kernel
theorem dL_utilization_6 : decode cL_utilization 6 = .ok (.dastore, 1) := by decide +kernel
theorem dL_utilization_7 : decode cL_utilization 7 = .ok (.goto 6, 3) := by decide +kernel
theorem dL_utilization_10 : decode cL_utilization 10 = .ok (.astore_n 2, 1) := by decide +kernel
theorem dL_utilization_11 : decode cL_utilization 11 = .ok (.iconst 1, 1) := by decide +kernel
theorem dL_utilization_12 : decode cL_utilization 12 = .ok (.ireturn, 1) := by decide +kernel
theorem dL_utilization_13 : decode cL_utilization 13 = .ok (.iconst 0, 1) := by decide +kernel
theorem dL_utilization_14 : decode cL_utilization 14 = .ok (.ireturn, 1) := by decide +kernel
theorem dL_ownerAt_0 : decode cL_ownerAt 0 = .ok (.aload_n 3, 1) := by decide +kernel
theorem dL_ownerAt_1 : decode cL_ownerAt 1 = .ok (.iconst 0, 1) := by decide +kernel
theorem dL_ownerAt_2 : decode cL_ownerAt 2 = .ok (.aload_n 0, 1) := by decide +kernel
theorem dL_ownerAt_3 : decode cL_ownerAt 3 = .ok (.iload_n 1, 1) := by decide +kernel
theorem dL_ownerAt_4 : decode cL_ownerAt 4 = .ok (.iload_n 2, 1) := by decide +kernel
theorem dL_ownerAt_5 : decode cL_ownerAt 5 = .ok (.invokevirtual 78, 3) := by decide +kernel
theorem dL_ownerAt_8 : decode cL_ownerAt 8 = .ok (.i2l, 1) := by decide +kernel
theorem dL_ownerAt_9 : decode cL_ownerAt 9 = .ok (.lastore, 1) := by decide +kernel
theorem dL_ownerAt_10 : decode cL_ownerAt 10 = .ok (.goto 7, 3) := by decide +kernel
theorem dL_ownerAt_13 : decode cL_ownerAt 13 = .ok (.astore 4, 2) := by decide +kernel
theorem dL_ownerAt_15 : decode cL_ownerAt 15 = .ok (.iconst 1, 1) := by decide +kernel
theorem dL_ownerAt_16 : decode cL_ownerAt 16 = .ok (.ireturn, 1) := by decide +kernel
theorem dL_ownerAt_17 : decode cL_ownerAt 17 = .ok (.iconst 0, 1) := by decide +kernel
theorem dL_ownerAt_18 : decode cL_ownerAt 18 = .ok (.ireturn, 1) := by decide +kernel
theorem dL_freeProcessors_0 : decode cL_freeProcessors 0 = .ok (.aload_n 2, 1) := by decide +kernel
theorem dL_freeProcessors_1 : decode cL_freeProcessors 1 = .ok (.iconst 0, 1) := by decide +kernel
theorem dL_freeProcessors_2 : decode cL_freeProcessors 2 = .ok (.aload_n 0, 1) := by decide +kernel
theorem dL_freeProcessors_3 : decode cL_freeProcessors 3 = .ok (.iload_n 1, 1) := by decide +kernel
theorem dL_freeProcessors_4 : decode cL_freeProcessors 4 = .ok (.invokevirtual 81, 3) := by decide +kernel
theorem dL_freeProcessors_7 : decode cL_freeProcessors 7 = .ok (.i2l, 1) := by decide +kernel
theorem dL_freeProcessors_8 : decode cL_freeProcessors 8 = .ok (.lastore, 1) := by decide +kernel
theorem dL_freeProcessors_9 : decode cL_freeProcessors 9 = .ok (.goto 6, 3) := by decide +kernel
theorem dL_freeProcessors_12 : decode cL_freeProcessors 12 = .ok (.astore_n 3, 1) := by decide +kernel
theorem dL_freeProcessors_13 : decode cL_freeProcessors 13 = .ok (.iconst 1, 1) := by decide +kernel
theorem dL_freeProcessors_14 : decode cL_freeProcessors 14 = .ok (.ireturn, 1) := by decide +kernel
theorem dL_freeProcessors_15 : decode cL_freeProcessors 15 = .ok (.iconst 0, 1) := by decide +kernel
theorem dL_freeProcessors_16 : decode cL_freeProcessors 16 = .ok (.ireturn, 1) := by decide +kernel
theorem dL_freeBlocks_0 : decode cL_freeBlocks 0 = .ok (.aload_n 2, 1) := by decide +kernel
theorem dL_freeBlocks_1 : decode cL_freeBlocks 1 = .ok (.iconst 0, 1) := by decide +kernel
theorem dL_freeBlocks_2 : decode cL_freeBlocks 2 = .ok (.aload_n 0, 1) := by decide +kernel
theorem dL_freeBlocks_3 : decode cL_freeBlocks 3 = .ok (.iload_n 1, 1) := by decide +kernel
theorem dL_freeBlocks_4 : decode cL_freeBlocks 4 = .ok (.invokevirtual 84, 3) := by decide +kernel
theorem dL_freeBlocks_7 : decode cL_freeBlocks 7 = .ok (.i2l, 1) := by decide +kernel
theorem dL_freeBlocks_8 : decode cL_freeBlocks 8 = .ok (.lastore, 1) := by decide +kernel
theorem dL_freeBlocks_9 : decode cL_freeBlocks 9 = .ok (.goto 6, 3) := by decide +kernel
theorem dL_freeBlocks_12 : decode cL_freeBlocks 12 = .ok (.astore_n 3, 1) := by decide +kernel
theorem dL_freeBlocks_13 : decode cL_freeBlocks 13 = .ok (.iconst 1, 1) := by decide +kernel
theorem dL_freeBlocks_14 : decode cL_freeBlocks 14 = .ok (.ireturn, 1) := by decide +kernel
theorem dL_freeBlocks_15 : decode cL_freeBlocks 15 = .ok (.iconst 0, 1) := by decide +kernel
theorem dL_freeBlocks_16 : decode cL_freeBlocks 16 = .ok (.ireturn, 1) := by decide +kernel
theorem dL_largestFree_0 : decode cL_largestFree 0 = .ok (.aload_n 1, 1) := by decide +kernel
theorem dL_largestFree_1 : decode cL_largestFree 1 = .ok (.iconst 0, 1) := by decide +kernel
theorem dL_largestFree_2 : decode cL_largestFree 2 = .ok (.aload_n 0, 1) := by decide +kernel
theorem dL_largestFree_3 : decode cL_largestFree 3 = .ok (.invokevirtual 87, 3) := by decide +kernel
theorem dL_largestFree_6 : decode cL_largestFree 6 = .ok (.i2l, 1) := by decide +kernel
theorem dL_largestFree_7 : decode cL_largestFree 7 = .ok (.lastore, 1) := by decide +kernel
theorem dL_largestFree_8 : decode cL_largestFree 8 = .ok (.goto 6, 3) := by decide +kernel
theorem dL_largestFree_11 : decode cL_largestFree 11 = .ok (.astore_n 2, 1) := by decide +kernel
theorem dL_largestFree_12 : decode cL_largestFree 12 = .ok (.iconst 1, 1) := by decide +kernel
theorem dL_largestFree_13 : decode cL_largestFree 13 = .ok (.ireturn, 1) := by decide +kernel
theorem dL_largestFree_14 : decode cL_largestFree 14 = .ok (.iconst 0, 1) := by decide +kernel
theorem dL_largestFree_15 : decode cL_largestFree 15 = .ok (.ireturn, 1) := by decide +kernel
theorem dL_fragmentation_0 : decode cL_fragmentation 0 = .ok (.aload_n 1, 1) := by decide +kernel
theorem dL_fragmentation_1 : decode cL_fragmentation 1 = .ok (.iconst 0, 1) := by decide +kernel
theorem dL_fragmentation_2 : decode cL_fragmentation 2 = .ok (.aload_n 0, 1) := by decide +kernel
theorem dL_fragmentation_3 : decode cL_fragmentation 3 = .ok (.invokevirtual 93, 3) := by decide +kernel
theorem dL_fragmentation_6 : decode cL_fragmentation 6 = .ok (.dastore, 1) := by decide +kernel
theorem dL_fragmentation_7 : decode cL_fragmentation 7 = .ok (.goto 6, 3) := by decide +kernel
theorem dL_fragmentation_10 : decode cL_fragmentation 10 = .ok (.astore_n 2, 1) := by decide +kernel
theorem dL_fragmentation_11 : decode cL_fragmentation 11 = .ok (.iconst 1, 1) := by decide +kernel
theorem dL_fragmentation_12 : decode cL_fragmentation 12 = .ok (.ireturn, 1) := by decide +kernel
theorem dL_fragmentation_13 : decode cL_fragmentation 13 = .ok (.iconst 0, 1) := by decide +kernel
theorem dL_fragmentation_14 : decode cL_fragmentation 14 = .ok (.ireturn, 1) := by decide +kernel
theorem dL_earliestStart_0 : decode cL_earliestStart 0 = .ok (.aload_n 3, 1) := by decide +kernel
theorem dL_earliestStart_1 : decode cL_earliestStart 1 = .ok (.iconst 0, 1) := by decide +kernel
theorem dL_earliestStart_2 : decode cL_earliestStart 2 = .ok (.aload_n 0, 1) := by decide +kernel
theorem dL_earliestStart_3 : decode cL_earliestStart 3 = .ok (.iload_n 1, 1) := by decide +kernel
theorem dL_earliestStart_4 : decode cL_earliestStart 4 = .ok (.iload_n 2, 1) := by decide +kernel
theorem dL_earliestStart_5 : decode cL_earliestStart 5 = .ok (.invokevirtual 96, 3) := by decide +kernel
theorem dL_earliestStart_8 : decode cL_earliestStart 8 = .ok (.i2l, 1) := by decide +kernel
theorem dL_earliestStart_9 : decode cL_earliestStart 9 = .ok (.lastore, 1) := by decide +kernel
theorem dL_earliestStart_10 : decode cL_earliestStart 10 = .ok (.goto 7, 3) := by decide +kernel
theorem dL_earliestStart_13 : decode cL_earliestStart 13 = .ok (.astore 4, 2) := by decide +kernel
theorem dL_earliestStart_15 : decode cL_earliestStart 15 = .ok (.iconst 1, 1) := by decide +kernel
theorem dL_earliestStart_16 : decode cL_earliestStart 16 = .ok (.ireturn, 1) := by decide +kernel
theorem dL_earliestStart_17 : decode cL_earliestStart 17 = .ok (.iconst 0, 1) := by decide +kernel
theorem dL_earliestStart_18 : decode cL_earliestStart 18 = .ok (.ireturn, 1) := by decide +kernel
theorem dL_lowestBlock_0 : decode cL_lowestBlock 0 = .ok (.aload 4, 2) := by decide +kernel
theorem dL_lowestBlock_2 : decode cL_lowestBlock 2 = .ok (.iconst 0, 1) := by decide +kernel
theorem dL_lowestBlock_3 : decode cL_lowestBlock 3 = .ok (.aload_n 0, 1) := by decide +kernel
theorem dL_lowestBlock_4 : decode cL_lowestBlock 4 = .ok (.iload_n 1, 1) := by decide +kernel
theorem dL_lowestBlock_5 : decode cL_lowestBlock 5 = .ok (.iload_n 2, 1) := by decide +kernel
theorem dL_lowestBlock_6 : decode cL_lowestBlock 6 = .ok (.iload_n 3, 1) := by decide +kernel
theorem dL_lowestBlock_7 : decode cL_lowestBlock 7 = .ok (.invokevirtual 99, 3) := by decide +kernel
theorem dL_lowestBlock_10 : decode cL_lowestBlock 10 = .ok (.i2l, 1) := by decide +kernel
theorem dL_lowestBlock_11 : decode cL_lowestBlock 11 = .ok (.lastore, 1) := by decide +kernel
theorem dL_lowestBlock_12 : decode cL_lowestBlock 12 = .ok (.goto 11, 3) := by decide +kernel
theorem dL_lowestBlock_15 : decode cL_lowestBlock 15 = .ok (.astore 5, 2) := by decide +kernel
theorem dL_lowestBlock_17 : decode cL_lowestBlock 17 = .ok (.iconst 1, 1) := by decide +kernel
theorem dL_lowestBlock_18 : decode cL_lowestBlock 18 = .ok (.ireturn, 1) := by decide +kernel
theorem dL_lowestBlock_19 : decode cL_lowestBlock 19 = .ok (.astore 5, 2) := by decide +kernel
theorem dL_lowestBlock_21 : decode cL_lowestBlock 21 = .ok (.iconst 2, 1) := by decide +kernel
theorem dL_lowestBlock_22 : decode cL_lowestBlock 22 = .ok (.ireturn, 1) := by decide +kernel
theorem dL_lowestBlock_23 : decode cL_lowestBlock 23 = .ok (.iconst 0, 1) := by decide +kernel
theorem dL_lowestBlock_24 : decode cL_lowestBlock 24 = .ok (.ireturn, 1) := by decide +kernel
theorem dL_blockStarts_0 : decode cL_blockStarts 0 = .ok (.aload_n 3, 1) := by decide +kernel
theorem dL_blockStarts_1 : decode cL_blockStarts 1 = .ok (.iconst 0, 1) := by decide +kernel
theorem dL_blockStarts_2 : decode cL_blockStarts 2 = .ok (.aload_n 0, 1) := by decide +kernel
theorem dL_blockStarts_3 : decode cL_blockStarts 3 = .ok (.iload_n 1, 1) := by decide +kernel
theorem dL_blockStarts_4 : decode cL_blockStarts 4 = .ok (.iload_n 2, 1) := by decide +kernel
theorem dL_blockStarts_5 : decode cL_blockStarts 5 = .ok (.invokevirtual 102, 3) := by decide +kernel
theorem dL_blockStarts_8 : decode cL_blockStarts 8 = .ok (.i2l, 1) := by decide +kernel
theorem dL_blockStarts_9 : decode cL_blockStarts 9 = .ok (.lastore, 1) := by decide +kernel
theorem dL_blockStarts_10 : decode cL_blockStarts 10 = .ok (.goto 7, 3) := by decide +kernel
theorem dL_blockStarts_13 : decode cL_blockStarts 13 = .ok (.astore 4, 2) := by decide +kernel
theorem dL_blockStarts_15 : decode cL_blockStarts 15 = .ok (.iconst 1, 1) := by decide +kernel
theorem dL_blockStarts_16 : decode cL_blockStarts 16 = .ok (.ireturn, 1) := by decide +kernel
theorem dL_blockStarts_17 : decode cL_blockStarts 17 = .ok (.iconst 0, 1) := by decide +kernel
theorem dL_blockStarts_18 : decode cL_blockStarts 18 = .ok (.ireturn, 1) := by decide +kernel
theorem dL_busiestBlock_0 : decode cL_busiestBlock 0 = .ok (.aload_n 1, 1) := by decide +kernel
theorem dL_busiestBlock_1 : decode cL_busiestBlock 1 = .ok (.iconst 0, 1) := by decide +kernel
theorem dL_busiestBlock_2 : decode cL_busiestBlock 2 = .ok (.aload_n 0, 1) := by decide +kernel
theorem dL_busiestBlock_3 : decode cL_busiestBlock 3 = .ok (.invokevirtual 105, 3) := by decide +kernel
theorem dL_busiestBlock_6 : decode cL_busiestBlock 6 = .ok (.i2l, 1) := by decide +kernel
theorem dL_busiestBlock_7 : decode cL_busiestBlock 7 = .ok (.lastore, 1) := by decide +kernel
theorem dL_busiestBlock_8 : decode cL_busiestBlock 8 = .ok (.goto 6, 3) := by decide +kernel
theorem dL_busiestBlock_11 : decode cL_busiestBlock 11 = .ok (.astore_n 2, 1) := by decide +kernel
theorem dL_busiestBlock_12 : decode cL_busiestBlock 12 = .ok (.iconst 1, 1) := by decide +kernel
theorem dL_busiestBlock_13 : decode cL_busiestBlock 13 = .ok (.ireturn, 1) := by decide +kernel
theorem dL_busiestBlock_14 : decode cL_busiestBlock 14 = .ok (.iconst 0, 1) := by decide +kernel
theorem dL_busiestBlock_15 : decode cL_busiestBlock 15 = .ok (.ireturn, 1) := by decide +kernel
theorem dL_event_0 : decode cL_event 0 = .ok (.aload_n 3, 1) := by decide +kernel
theorem dL_event_1 : decode cL_event 1 = .ok (.iconst 0, 1) := by decide +kernel
theorem dL_event_2 : decode cL_event 2 = .ok (.aload_n 0, 1) := by decide +kernel
theorem dL_event_3 : decode cL_event 3 = .ok (.iload_n 1, 1) := by decide +kernel
theorem dL_event_4 : decode cL_event 4 = .ok (.iload_n 2, 1) := by decide +kernel
theorem dL_event_5 : decode cL_event 5 = .ok (.invokevirtual 108, 3) := by decide +kernel
theorem dL_event_8 : decode cL_event 8 = .ok (.i2l, 1) := by decide +kernel
theorem dL_event_9 : decode cL_event 9 = .ok (.lastore, 1) := by decide +kernel
theorem dL_event_10 : decode cL_event 10 = .ok (.goto 7, 3) := by decide +kernel
theorem dL_event_13 : decode cL_event 13 = .ok (.astore 4, 2) := by decide +kernel
theorem dL_event_15 : decode cL_event 15 = .ok (.iconst 1, 1) := by decide +kernel
theorem dL_event_16 : decode cL_event 16 = .ok (.ireturn, 1) := by decide +kernel
theorem dL_event_17 : decode cL_event 17 = .ok (.iconst 0, 1) := by decide +kernel
theorem dL_event_18 : decode cL_event 18 = .ok (.ireturn, 1) := by decide +kernel
theorem dL_restore_0 : decode cL_restore 0 = .ok (.aload_n 1, 1) := by decide +kernel
theorem dL_restore_1 : decode cL_restore 1 = .ok (.iconst 0, 1) := by decide +kernel
theorem dL_restore_2 : decode cL_restore 2 = .ok (.aload_n 0, 1) := by decide +kernel
theorem dL_restore_3 : decode cL_restore 3 = .ok (.invokevirtual 111, 3) := by decide +kernel
theorem dL_restore_6 : decode cL_restore 6 = .ok (.i2l, 1) := by decide +kernel
theorem dL_restore_7 : decode cL_restore 7 = .ok (.lastore, 1) := by decide +kernel
theorem dL_restore_8 : decode cL_restore 8 = .ok (.goto 6, 3) := by decide +kernel
theorem dL_restore_11 : decode cL_restore 11 = .ok (.astore_n 2, 1) := by decide +kernel
theorem dL_restore_12 : decode cL_restore 12 = .ok (.iconst 1, 1) := by decide +kernel
theorem dL_restore_13 : decode cL_restore 13 = .ok (.ireturn, 1) := by decide +kernel
theorem dL_restore_14 : decode cL_restore 14 = .ok (.iconst 0, 1) := by decide +kernel
theorem dL_restore_15 : decode cL_restore 15 = .ok (.ireturn, 1) := by decide +kernel
end
section
theorem dL_law_0 : decode cL_law 0 = .ok (.new 8, 3) := by decide +kernel
theorem dL_law_3 : decode cL_law 3 = .ok (.dup, 1) := by decide +kernel
theorem dL_law_4 : decode cL_law 4 = .ok (.invokespecial 114, 3) := by decide +kernel
theorem dL_law_7 : decode cL_law 7 = .ok (.astore_n 1, 1) := by decide +kernel
theorem dL_law_8 : decode cL_law 8 = .ok (.new 115, 3) := by decide +kernel
theorem dL_law_11 : decode cL_law 11 = .ok (.dup, 1) := by decide +kernel
theorem dL_law_12 : decode cL_law 12 = .ok (.invokespecial 117, 3) := by decide +kernel
theorem dL_law_15 : decode cL_law 15 = .ok (.astore_n 2, 1) := by decide +kernel
theorem dL_law_16 : decode cL_law 16 = .ok (.iconst 1, 1) := by decide +kernel
theorem dL_law_17 : decode cL_law 17 = .ok (.newarray .long, 2) := by decide +kernel
theorem dL_law_19 : decode cL_law 19 = .ok (.astore_n 3, 1) := by decide +kernel
theorem dL_law_20 : decode cL_law 20 = .ok (.iconst 1, 1) := by decide +kernel
theorem dL_law_21 : decode cL_law 21 = .ok (.newarray .double, 2) := by decide +kernel
theorem dL_law_23 : decode cL_law 23 = .ok (.astore 4, 2) := by decide +kernel
theorem dL_law_25 : decode cL_law 25 = .ok (.iconst 0, 1) := by decide +kernel
theorem dL_law_26 : decode cL_law 26 = .ok (.istore 5, 2) := by decide +kernel
theorem dL_law_28 : decode cL_law 28 = .ok (.iload 5, 2) := by decide +kernel
theorem dL_law_30 : decode cL_law 30 = .ok (.aload_n 0, 1) := by decide +kernel
theorem dL_law_31 : decode cL_law 31 = .ok (.arraylength, 1) := by decide +kernel
theorem dL_law_32 : decode cL_law 32 = .ok (.iconst 5, 1) := by decide +kernel
theorem dL_law_33 : decode cL_law 33 = .ok (.isub, 1) := by decide +kernel
theorem dL_law_34 : decode cL_law 34 = .ok (.if_icmp .gt 2054, 3) := by decide +kernel
theorem dL_law_37 : decode cL_law 37 = .ok (.aload_n 0, 1) := by decide +kernel
theorem dL_law_38 : decode cL_law 38 = .ok (.iload 5, 2) := by decide +kernel
theorem dL_law_40 : decode cL_law 40 = .ok (.iaload, 1) := by decide +kernel
theorem dL_law_41 : decode cL_law 41 = .ok (.bipush 63, 2) := by decide +kernel
theorem dL_law_43 : decode cL_law 43 = .ok (.iand, 1) := by decide +kernel
theorem dL_law_44 : decode cL_law 44 = .ok (.tableswitch 2038 0 35 #[160, 252, 308, 364, 432, 512, 525, 561, 617, 658, 671, 684, 740, 796, 852, 908, 964, 1020, 1076, 1141, 1219, 1275, 1340, 1353, 1421, 1477, 1533, 1577, 1642, 1710, 1790, 1858, 1902, 1915, 1983, 1994], 160) := by decide +kernel
theorem dL_law_204 : decode cL_law 204 = .ok (.aload_n 1, 1) := by decide +kernel
theorem dL_law_205 : decode cL_law 205 = .ok (.aload_n 0, 1) := by decide +kernel
theorem dL_law_206 : decode cL_law 206 = .ok (.iload 5, 2) := by decide +kernel
theorem dL_law_208 : decode cL_law 208 = .ok (.iconst 1, 1) := by decide +kernel
theorem dL_law_209 : decode cL_law 209 = .ok (.iadd, 1) := by decide +kernel
theorem dL_law_210 : decode cL_law 210 = .ok (.iaload, 1) := by decide +kernel
theorem dL_law_211 : decode cL_law 211 = .ok (.aload_n 0, 1) := by decide +kernel
theorem dL_law_212 : decode cL_law 212 = .ok (.iload 5, 2) := by decide +kernel
theorem dL_law_214 : decode cL_law 214 = .ok (.iconst 2, 1) := by decide +kernel
theorem dL_law_215 : decode cL_law 215 = .ok (.iadd, 1) := by decide +kernel
theorem dL_law_216 : decode cL_law 216 = .ok (.iaload, 1) := by decide +kernel
theorem dL_law_217 : decode cL_law 217 = .ok (.aload_n 0, 1) := by decide +kernel
theorem dL_law_218 : decode cL_law 218 = .ok (.iload 5, 2) := by decide +kernel
theorem dL_law_220 : decode cL_law 220 = .ok (.iconst 3, 1) := by decide +kernel
theorem dL_law_221 : decode cL_law 221 = .ok (.iadd, 1) := by decide +kernel
theorem dL_law_222 : decode cL_law 222 = .ok (.iaload, 1) := by decide +kernel
theorem dL_law_223 : decode cL_law 223 = .ok (.aload_n 0, 1) := by decide +kernel
theorem dL_law_224 : decode cL_law 224 = .ok (.iload 5, 2) := by decide +kernel
theorem dL_law_226 : decode cL_law 226 = .ok (.iconst 4, 1) := by decide +kernel
theorem dL_law_227 : decode cL_law 227 = .ok (.iadd, 1) := by decide +kernel
theorem dL_law_228 : decode cL_law 228 = .ok (.iaload, 1) := by decide +kernel
theorem dL_law_229 : decode cL_law 229 = .ok (.aload_n 3, 1) := by decide +kernel
theorem dL_law_230 : decode cL_law 230 = .ok (.invokestatic 118, 3) := by decide +kernel
theorem dL_law_233 : decode cL_law 233 = .ok (.istore 6, 2) := by decide +kernel
theorem dL_law_235 : decode cL_law 235 = .ok (.aload_n 2, 1) := by decide +kernel
theorem dL_law_236 : decode cL_law 236 = .ok (.aload_n 0, 1) := by decide +kernel
theorem dL_law_237 : decode cL_law 237 = .ok (.iload 5, 2) := by decide +kernel
theorem dL_law_239 : decode cL_law 239 = .ok (.iconst 1, 1) := by decide +kernel
theorem dL_law_240 : decode cL_law 240 = .ok (.iadd, 1) := by decide +kernel
theorem dL_law_241 : decode cL_law 241 = .ok (.iaload, 1) := by decide +kernel
theorem dL_law_242 : decode cL_law 242 = .ok (.aload_n 0, 1) := by decide +kernel
theorem dL_law_243 : decode cL_law 243 = .ok (.iload 5, 2) := by decide +kernel
theorem dL_law_245 : decode cL_law 245 = .ok (.iconst 2, 1) := by decide +kernel
theorem dL_law_246 : decode cL_law 246 = .ok (.iadd, 1) := by decide +kernel
theorem dL_law_247 : decode cL_law 247 = .ok (.iaload, 1) := by decide +kernel
theorem dL_law_248 : decode cL_law 248 = .ok (.aload_n 0, 1) := by decide +kernel
theorem dL_law_249 : decode cL_law 249 = .ok (.iload 5, 2) := by decide +kernel
theorem dL_law_251 : decode cL_law 251 = .ok (.iconst 3, 1) := by decide +kernel
theorem dL_law_252 : decode cL_law 252 = .ok (.iadd, 1) := by decide +kernel
theorem dL_law_253 : decode cL_law 253 = .ok (.iaload, 1) := by decide +kernel
theorem dL_law_254 : decode cL_law 254 = .ok (.aload_n 0, 1) := by decide +kernel
theorem dL_law_255 : decode cL_law 255 = .ok (.iload 5, 2) := by decide +kernel
theorem dL_law_257 : decode cL_law 257 = .ok (.iconst 4, 1) := by decide +kernel
theorem dL_law_258 : decode cL_law 258 = .ok (.iadd, 1) := by decide +kernel
theorem dL_law_259 : decode cL_law 259 = .ok (.iaload, 1) := by decide +kernel
theorem dL_law_260 : decode cL_law 260 = .ok (.invokevirtual 123, 3) := by decide +kernel
theorem dL_law_263 : decode cL_law 263 = .ok (.istore 7, 2) := by decide +kernel
theorem dL_law_265 : decode cL_law 265 = .ok (.aload_n 2, 1) := by decide +kernel
theorem dL_law_266 : decode cL_law 266 = .ok (.invokevirtual 124, 3) := by decide +kernel
theorem dL_law_269 : decode cL_law 269 = .ok (.iload 6, 2) := by decide +kernel
theorem dL_law_271 : decode cL_law 271 = .ok (.if_icmp .eq 5, 3) := by decide +kernel
theorem dL_law_274 : decode cL_law 274 = .ok (.iconst 0, 1) := by decide +kernel
theorem dL_law_275 : decode cL_law 275 = .ok (.ireturn, 1) := by decide +kernel
theorem dL_law_276 : decode cL_law 276 = .ok (.iload 6, 2) := by decide +kernel
theorem dL_law_278 : decode cL_law 278 = .ok (.ifCond .ne 15, 3) := by decide +kernel
theorem dL_law_281 : decode cL_law 281 = .ok (.aload_n 3, 1) := by decide +kernel
theorem dL_law_282 : decode cL_law 282 = .ok (.iconst 0, 1) := by decide +kernel
theorem dL_law_283 : decode cL_law 283 = .ok (.laload, 1) := by decide +kernel
theorem dL_law_284 : decode cL_law 284 = .ok (.iload 7, 2) := by decide +kernel
theorem dL_law_286 : decode cL_law 286 = .ok (.i2l, 1) := by decide +kernel
theorem dL_law_287 : decode cL_law 287 = .ok (.lcmp, 1) := by decide +kernel
theorem dL_law_288 : decode cL_law 288 = .ok (.ifCond .eq 5, 3) := by decide +kernel
theorem dL_law_291 : decode cL_law 291 = .ok (.iconst 0, 1) := by decide +kernel
theorem dL_law_292 : decode cL_law 292 = .ok (.ireturn, 1) := by decide +kernel
theorem dL_law_293 : decode cL_law 293 = .ok (.goto 1789, 3) := by decide +kernel
theorem dL_law_296 : decode cL_law 296 = .ok (.aload_n 1, 1) := by decide +kernel
theorem dL_law_297 : decode cL_law 297 = .ok (.aload_n 0, 1) := by decide +kernel
theorem dL_law_298 : decode cL_law 298 = .ok (.iload 5, 2) := by decide +kernel
theorem dL_law_300 : decode cL_law 300 = .ok (.iconst 1, 1) := by decide +kernel
theorem dL_law_301 : decode cL_law 301 = .ok (.iadd, 1) := by decide +kernel
theorem dL_law_302 : decode cL_law 302 = .ok (.iaload, 1) := by decide +kernel
theorem dL_law_303 : decode cL_law 303 = .ok (.aload_n 3, 1) := by decide +kernel
theorem dL_law_304 : decode cL_law 304 = .ok (.invokestatic 127, 3) := by decide +kernel
theorem dL_law_307 : decode cL_law 307 = .ok (.istore 6, 2) := by decide +kernel
theorem dL_law_309 : decode cL_law 309 = .ok (.aload_n 2, 1) := by decide +kernel
theorem dL_law_310 : decode cL_law 310 = .ok (.aload_n 0, 1) := by decide +kernel
theorem dL_law_311 : decode cL_law 311 = .ok (.iload 5, 2) := by decide +kernel
theorem dL_law_313 : decode cL_law 313 = .ok (.iconst 1, 1) := by decide +kernel
theorem dL_law_314 : decode cL_law 314 = .ok (.iadd, 1) := by decide +kernel
theorem dL_law_315 : decode cL_law 315 = .ok (.iaload, 1) := by decide +kernel
theorem dL_law_316 : decode cL_law 316 = .ok (.invokevirtual 130, 3) := by decide +kernel
theorem dL_law_319 : decode cL_law 319 = .ok (.istore 7, 2) := by decide +kernel
theorem dL_law_321 : decode cL_law 321 = .ok (.aload_n 2, 1) := by decide +kernel
theorem dL_law_322 : decode cL_law 322 = .ok (.invokevirtual 124, 3) := by decide +kernel
theorem dL_law_325 : decode cL_law 325 = .ok (.iload 6, 2) := by decide +kernel
theorem dL_law_327 : decode cL_law 327 = .ok (.if_icmp .eq 5, 3) := by decide +kernel
theorem dL_law_330 : decode cL_law 330 = .ok (.iconst 0, 1) := by decide +kernel
theorem dL_law_331 : decode cL_law 331 = .ok (.ireturn, 1) := by decide +kernel
theorem dL_law_332 : decode cL_law 332 = .ok (.iload 6, 2) := by decide +kernel
theorem dL_law_334 : decode cL_law 334 = .ok (.ifCond .ne 15, 3) := by decide +kernel
theorem dL_law_337 : decode cL_law 337 = .ok (.aload_n 3, 1) := by decide +kernel
theorem dL_law_338 : decode cL_law 338 = .ok (.iconst 0, 1) := by decide +kernel
theorem dL_law_339 : decode cL_law 339 = .ok (.laload, 1) := by decide +kernel
theorem dL_law_340 : decode cL_law 340 = .ok (.iload 7, 2) := by decide +kernel
theorem dL_law_342 : decode cL_law 342 = .ok (.i2l, 1) := by decide +kernel
theorem dL_law_343 : decode cL_law 343 = .ok (.lcmp, 1) := by decide +kernel
theorem dL_law_344 : decode cL_law 344 = .ok (.ifCond .eq 5, 3) := by decide +kernel
theorem dL_law_347 : decode cL_law 347 = .ok (.iconst 0, 1) := by decide +kernel
theorem dL_law_348 : decode cL_law 348 = .ok (.ireturn, 1) := by decide +kernel
theorem dL_law_349 : decode cL_law 349 = .ok (.goto 1733, 3) := by decide +kernel
theorem dL_law_352 : decode cL_law 352 = .ok (.aload_n 1, 1) := by decide +kernel
theorem dL_law_353 : decode cL_law 353 = .ok (.aload_n 0, 1) := by decide +kernel
theorem dL_law_354 : decode cL_law 354 = .ok (.iload 5, 2) := by decide +kernel
theorem dL_law_356 : decode cL_law 356 = .ok (.iconst 1, 1) := by decide +kernel
theorem dL_law_357 : decode cL_law 357 = .ok (.iadd, 1) := by decide +kernel
theorem dL_law_358 : decode cL_law 358 = .ok (.iaload, 1) := by decide +kernel
theorem dL_law_359 : decode cL_law 359 = .ok (.aload_n 3, 1) := by decide +kernel
theorem dL_law_360 : decode cL_law 360 = .ok (.invokestatic 131, 3) := by decide +kernel
theorem dL_law_363 : decode cL_law 363 = .ok (.istore 6, 2) := by decide +kernel
theorem dL_law_365 : decode cL_law 365 = .ok (.aload_n 2, 1) := by decide +kernel
theorem dL_law_366 : decode cL_law 366 = .ok (.aload_n 0, 1) := by decide +kernel
theorem dL_law_367 : decode cL_law 367 = .ok (.iload 5, 2) := by decide +kernel
theorem dL_law_369 : decode cL_law 369 = .ok (.iconst 1, 1) := by decide +kernel
theorem dL_law_370 : decode cL_law 370 = .ok (.iadd, 1) := by decide +kernel
theorem dL_law_371 : decode cL_law 371 = .ok (.iaload, 1) := by decide +kernel
theorem dL_law_372 : decode cL_law 372 = .ok (.invokevirtual 133, 3) := by decide +kernel
theorem dL_law_375 : decode cL_law 375 = .ok (.istore 7, 2) := by decide +kernel
theorem dL_law_377 : decode cL_law 377 = .ok (.aload_n 2, 1) := by decide +kernel
theorem dL_law_378 : decode cL_law 378 = .ok (.invokevirtual 124, 3) := by decide +kernel
theorem dL_law_381 : decode cL_law 381 = .ok (.iload 6, 2) := by decide +kernel
theorem dL_law_383 : decode cL_law 383 = .ok (.if_icmp .eq 5, 3) := by decide +kernel
theorem dL_law_386 : decode cL_law 386 = .ok (.iconst 0, 1) := by decide +kernel
theorem dL_law_387 : decode cL_law 387 = .ok (.ireturn, 1) := by decide +kernel
theorem dL_law_388 : decode cL_law 388 = .ok (.iload 6, 2) := by decide +kernel
theorem dL_law_390 : decode cL_law 390 = .ok (.ifCond .ne 15, 3) := by decide +kernel
theorem dL_law_393 : decode cL_law 393 = .ok (.aload_n 3, 1) := by decide +kernel
theorem dL_law_394 : decode cL_law 394 = .ok (.iconst 0, 1) := by decide +kernel
theorem dL_law_395 : decode cL_law 395 = .ok (.laload, 1) := by decide +kernel
theorem dL_law_396 : decode cL_law 396 = .ok (.iload 7, 2) := by decide +kernel
theorem dL_law_398 : decode cL_law 398 = .ok (.i2l, 1) := by decide +kernel
theorem dL_law_399 : decode cL_law 399 = .ok (.lcmp, 1) := by decide +kernel
theorem dL_law_400 : decode cL_law 400 = .ok (.ifCond .eq 5, 3) := by decide +kernel
theorem dL_law_403 : decode cL_law 403 = .ok (.iconst 0, 1) := by decide +kernel
theorem dL_law_404 : decode cL_law 404 = .ok (.ireturn, 1) := by decide +kernel
theorem dL_law_405 : decode cL_law 405 = .ok (.goto 1677, 3) := by decide +kernel
theorem dL_law_408 : decode cL_law 408 = .ok (.aload_n 1, 1) := by decide +kernel
theorem dL_law_409 : decode cL_law 409 = .ok (.aload_n 0, 1) := by decide +kernel
theorem dL_law_410 : decode cL_law 410 = .ok (.iload 5, 2) := by decide +kernel
theorem dL_law_412 : decode cL_law 412 = .ok (.iconst 1, 1) := by decide +kernel
theorem dL_law_413 : decode cL_law 413 = .ok (.iadd, 1) := by decide +kernel
theorem dL_law_414 : decode cL_law 414 = .ok (.iaload, 1) := by decide +kernel
theorem dL_law_415 : decode cL_law 415 = .ok (.aload_n 0, 1) := by decide +kernel
theorem dL_law_416 : decode cL_law 416 = .ok (.iload 5, 2) := by decide +kernel
theorem dL_law_418 : decode cL_law 418 = .ok (.iconst 2, 1) := by decide +kernel
theorem dL_law_419 : decode cL_law 419 = .ok (.iadd, 1) := by decide +kernel
theorem dL_law_420 : decode cL_law 420 = .ok (.iaload, 1) := by decide +kernel
theorem dL_law_421 : decode cL_law 421 = .ok (.aload_n 3, 1) := by decide +kernel
theorem dL_law_422 : decode cL_law 422 = .ok (.invokestatic 134, 3) := by decide +kernel
theorem dL_law_425 : decode cL_law 425 = .ok (.istore 6, 2) := by decide +kernel
theorem dL_law_427 : decode cL_law 427 = .ok (.aload_n 2, 1) := by decide +kernel
theorem dL_law_428 : decode cL_law 428 = .ok (.aload_n 0, 1) := by decide +kernel
theorem dL_law_429 : decode cL_law 429 = .ok (.iload 5, 2) := by decide +kernel
theorem dL_law_431 : decode cL_law 431 = .ok (.iconst 1, 1) := by decide +kernel
theorem dL_law_432 : decode cL_law 432 = .ok (.iadd, 1) := by decide +kernel
theorem dL_law_433 : decode cL_law 433 = .ok (.iaload, 1) := by decide +kernel
theorem dL_law_434 : decode cL_law 434 = .ok (.aload_n 0, 1) := by decide +kernel
theorem dL_law_435 : decode cL_law 435 = .ok (.iload 5, 2) := by decide +kernel
theorem dL_law_437 : decode cL_law 437 = .ok (.iconst 2, 1) := by decide +kernel
theorem dL_law_438 : decode cL_law 438 = .ok (.iadd, 1) := by decide +kernel
theorem dL_law_439 : decode cL_law 439 = .ok (.iaload, 1) := by decide +kernel
theorem dL_law_440 : decode cL_law 440 = .ok (.invokevirtual 137, 3) := by decide +kernel
theorem dL_law_443 : decode cL_law 443 = .ok (.istore 7, 2) := by decide +kernel
theorem dL_law_445 : decode cL_law 445 = .ok (.aload_n 2, 1) := by decide +kernel
theorem dL_law_446 : decode cL_law 446 = .ok (.invokevirtual 124, 3) := by decide +kernel
theorem dL_law_449 : decode cL_law 449 = .ok (.iload 6, 2) := by decide +kernel
theorem dL_law_451 : decode cL_law 451 = .ok (.if_icmp .eq 5, 3) := by decide +kernel
theorem dL_law_454 : decode cL_law 454 = .ok (.iconst 0, 1) := by decide +kernel
theorem dL_law_455 : decode cL_law 455 = .ok (.ireturn, 1) := by decide +kernel
theorem dL_law_456 : decode cL_law 456 = .ok (.iload 6, 2) := by decide +kernel
theorem dL_law_458 : decode cL_law 458 = .ok (.ifCond .ne 15, 3) := by decide +kernel
theorem dL_law_461 : decode cL_law 461 = .ok (.aload_n 3, 1) := by decide +kernel
theorem dL_law_462 : decode cL_law 462 = .ok (.iconst 0, 1) := by decide +kernel
theorem dL_law_463 : decode cL_law 463 = .ok (.laload, 1) := by decide +kernel
theorem dL_law_464 : decode cL_law 464 = .ok (.iload 7, 2) := by decide +kernel
theorem dL_law_466 : decode cL_law 466 = .ok (.i2l, 1) := by decide +kernel
theorem dL_law_467 : decode cL_law 467 = .ok (.lcmp, 1) := by decide +kernel
theorem dL_law_468 : decode cL_law 468 = .ok (.ifCond .eq 5, 3) := by decide +kernel
theorem dL_law_471 : decode cL_law 471 = .ok (.iconst 0, 1) := by decide +kernel
theorem dL_law_472 : decode cL_law 472 = .ok (.ireturn, 1) := by decide +kernel
theorem dL_law_473 : decode cL_law 473 = .ok (.goto 1609, 3) := by decide +kernel
theorem dL_law_476 : decode cL_law 476 = .ok (.aload_n 1, 1) := by decide +kernel
theorem dL_law_477 : decode cL_law 477 = .ok (.aload_n 0, 1) := by decide +kernel
theorem dL_law_478 : decode cL_law 478 = .ok (.iload 5, 2) := by decide +kernel
theorem dL_law_480 : decode cL_law 480 = .ok (.iconst 1, 1) := by decide +kernel
theorem dL_law_481 : decode cL_law 481 = .ok (.iadd, 1) := by decide +kernel
theorem dL_law_482 : decode cL_law 482 = .ok (.iaload, 1) := by decide +kernel
theorem dL_law_483 : decode cL_law 483 = .ok (.aload_n 0, 1) := by decide +kernel
theorem dL_law_484 : decode cL_law 484 = .ok (.iload 5, 2) := by decide +kernel
theorem dL_law_486 : decode cL_law 486 = .ok (.iconst 2, 1) := by decide +kernel
theorem dL_law_487 : decode cL_law 487 = .ok (.iadd, 1) := by decide +kernel
theorem dL_law_488 : decode cL_law 488 = .ok (.iaload, 1) := by decide +kernel
theorem dL_law_489 : decode cL_law 489 = .ok (.aload_n 0, 1) := by decide +kernel
theorem dL_law_490 : decode cL_law 490 = .ok (.iload 5, 2) := by decide +kernel
theorem dL_law_492 : decode cL_law 492 = .ok (.iconst 3, 1) := by decide +kernel
theorem dL_law_493 : decode cL_law 493 = .ok (.iadd, 1) := by decide +kernel
theorem dL_law_494 : decode cL_law 494 = .ok (.iaload, 1) := by decide +kernel
theorem dL_law_495 : decode cL_law 495 = .ok (.aload_n 3, 1) := by decide +kernel
theorem dL_law_496 : decode cL_law 496 = .ok (.invokestatic 138, 3) := by decide +kernel
theorem dL_law_499 : decode cL_law 499 = .ok (.istore 6, 2) := by decide +kernel
theorem dL_law_501 : decode cL_law 501 = .ok (.aload_n 2, 1) := by decide +kernel
theorem dL_law_502 : decode cL_law 502 = .ok (.aload_n 0, 1) := by decide +kernel
theorem dL_law_503 : decode cL_law 503 = .ok (.iload 5, 2) := by decide +kernel
theorem dL_law_505 : decode cL_law 505 = .ok (.iconst 1, 1) := by decide +kernel
theorem dL_law_506 : decode cL_law 506 = .ok (.iadd, 1) := by decide +kernel
theorem dL_law_507 : decode cL_law 507 = .ok (.iaload, 1) := by decide +kernel
theorem dL_law_508 : decode cL_law 508 = .ok (.aload_n 0, 1) := by decide +kernel
theorem dL_law_509 : decode cL_law 509 = .ok (.iload 5, 2) := by decide +kernel
theorem dL_law_511 : decode cL_law 511 = .ok (.iconst 2, 1) := by decide +kernel
theorem dL_law_512 : decode cL_law 512 = .ok (.iadd, 1) := by decide +kernel
theorem dL_law_513 : decode cL_law 513 = .ok (.iaload, 1) := by decide +kernel
theorem dL_law_514 : decode cL_law 514 = .ok (.aload_n 0, 1) := by decide +kernel
theorem dL_law_515 : decode cL_law 515 = .ok (.iload 5, 2) := by decide +kernel
theorem dL_law_517 : decode cL_law 517 = .ok (.iconst 3, 1) := by decide +kernel
theorem dL_law_518 : decode cL_law 518 = .ok (.iadd, 1) := by decide +kernel
theorem dL_law_519 : decode cL_law 519 = .ok (.iaload, 1) := by decide +kernel
theorem dL_law_520 : decode cL_law 520 = .ok (.invokevirtual 141, 3) := by decide +kernel
theorem dL_law_523 : decode cL_law 523 = .ok (.istore 7, 2) := by decide +kernel
theorem dL_law_525 : decode cL_law 525 = .ok (.aload_n 2, 1) := by decide +kernel
theorem dL_law_526 : decode cL_law 526 = .ok (.invokevirtual 124, 3) := by decide +kernel
theorem dL_law_529 : decode cL_law 529 = .ok (.iload 6, 2) := by decide +kernel
theorem dL_law_531 : decode cL_law 531 = .ok (.if_icmp .eq 5, 3) := by decide +kernel
theorem dL_law_534 : decode cL_law 534 = .ok (.iconst 0, 1) := by decide +kernel
theorem dL_law_535 : decode cL_law 535 = .ok (.ireturn, 1) := by decide +kernel
theorem dL_law_536 : decode cL_law 536 = .ok (.iload 6, 2) := by decide +kernel
theorem dL_law_538 : decode cL_law 538 = .ok (.ifCond .ne 15, 3) := by decide +kernel
theorem dL_law_541 : decode cL_law 541 = .ok (.aload_n 3, 1) := by decide +kernel
theorem dL_law_542 : decode cL_law 542 = .ok (.iconst 0, 1) := by decide +kernel
theorem dL_law_543 : decode cL_law 543 = .ok (.laload, 1) := by decide +kernel
theorem dL_law_544 : decode cL_law 544 = .ok (.iload 7, 2) := by decide +kernel
theorem dL_law_546 : decode cL_law 546 = .ok (.i2l, 1) := by decide +kernel
theorem dL_law_547 : decode cL_law 547 = .ok (.lcmp, 1) := by decide +kernel
theorem dL_law_548 : decode cL_law 548 = .ok (.ifCond .eq 5, 3) := by decide +kernel
theorem dL_law_551 : decode cL_law 551 = .ok (.iconst 0, 1) := by decide +kernel
theorem dL_law_552 : decode cL_law 552 = .ok (.ireturn, 1) := by decide +kernel
theorem dL_law_553 : decode cL_law 553 = .ok (.goto 1529, 3) := by decide +kernel
theorem dL_law_556 : decode cL_law 556 = .ok (.aload_n 1, 1) := by decide +kernel
theorem dL_law_557 : decode cL_law 557 = .ok (.invokevirtual 142, 3) := by decide +kernel
theorem dL_law_560 : decode cL_law 560 = .ok (.aload_n 2, 1) := by decide +kernel
theorem dL_law_561 : decode cL_law 561 = .ok (.invokevirtual 145, 3) := by decide +kernel
theorem dL_law_564 : decode cL_law 564 = .ok (.if_icmp .eq 1518, 3) := by decide +kernel
theorem dL_law_567 : decode cL_law 567 = .ok (.iconst 0, 1) := by decide +kernel
theorem dL_law_568 : decode cL_law 568 = .ok (.ireturn, 1) := by decide +kernel
theorem dL_law_569 : decode cL_law 569 = .ok (.aload_n 1, 1) := by decide +kernel
theorem dL_law_570 : decode cL_law 570 = .ok (.aload_n 0, 1) := by decide +kernel
theorem dL_law_571 : decode cL_law 571 = .ok (.iload 5, 2) := by decide +kernel
theorem dL_law_573 : decode cL_law 573 = .ok (.iconst 1, 1) := by decide +kernel
theorem dL_law_574 : decode cL_law 574 = .ok (.iadd, 1) := by decide +kernel
theorem dL_law_575 : decode cL_law 575 = .ok (.iaload, 1) := by decide +kernel
theorem dL_law_576 : decode cL_law 576 = .ok (.invokestatic 146, 3) := by decide +kernel
theorem dL_law_579 : decode cL_law 579 = .ok (.istore 6, 2) := by decide +kernel
theorem dL_law_581 : decode cL_law 581 = .ok (.aload_n 2, 1) := by decide +kernel
theorem dL_law_582 : decode cL_law 582 = .ok (.aload_n 0, 1) := by decide +kernel
theorem dL_law_583 : decode cL_law 583 = .ok (.iload 5, 2) := by decide +kernel
theorem dL_law_585 : decode cL_law 585 = .ok (.iconst 1, 1) := by decide +kernel
theorem dL_law_586 : decode cL_law 586 = .ok (.iadd, 1) := by decide +kernel
theorem dL_law_587 : decode cL_law 587 = .ok (.iaload, 1) := by decide +kernel
theorem dL_law_588 : decode cL_law 588 = .ok (.invokevirtual 149, 3) := by decide +kernel
theorem dL_law_591 : decode cL_law 591 = .ok (.aload_n 2, 1) := by decide +kernel
theorem dL_law_592 : decode cL_law 592 = .ok (.invokevirtual 124, 3) := by decide +kernel
theorem dL_law_595 : decode cL_law 595 = .ok (.iload 6, 2) := by decide +kernel
theorem dL_law_597 : decode cL_law 597 = .ok (.if_icmp .eq 5, 3) := by decide +kernel
theorem dL_law_600 : decode cL_law 600 = .ok (.iconst 0, 1) := by decide +kernel
theorem dL_law_601 : decode cL_law 601 = .ok (.ireturn, 1) := by decide +kernel
theorem dL_law_602 : decode cL_law 602 = .ok (.goto 1480, 3) := by decide +kernel
theorem dL_law_605 : decode cL_law 605 = .ok (.aload_n 1, 1) := by decide +kernel
theorem dL_law_606 : decode cL_law 606 = .ok (.aload_n 0, 1) := by decide +kernel
theorem dL_law_607 : decode cL_law 607 = .ok (.iload 5, 2) := by decide +kernel
theorem dL_law_609 : decode cL_law 609 = .ok (.iconst 1, 1) := by decide +kernel
theorem dL_law_610 : decode cL_law 610 = .ok (.iadd, 1) := by decide +kernel
theorem dL_law_611 : decode cL_law 611 = .ok (.iaload, 1) := by decide +kernel
theorem dL_law_612 : decode cL_law 612 = .ok (.aload_n 3, 1) := by decide +kernel
theorem dL_law_613 : decode cL_law 613 = .ok (.invokestatic 150, 3) := by decide +kernel
theorem dL_law_616 : decode cL_law 616 = .ok (.istore 6, 2) := by decide +kernel
theorem dL_law_618 : decode cL_law 618 = .ok (.aload_n 2, 1) := by decide +kernel
theorem dL_law_619 : decode cL_law 619 = .ok (.aload_n 0, 1) := by decide +kernel
theorem dL_law_620 : decode cL_law 620 = .ok (.iload 5, 2) := by decide +kernel
theorem dL_law_622 : decode cL_law 622 = .ok (.iconst 1, 1) := by decide +kernel
theorem dL_law_623 : decode cL_law 623 = .ok (.iadd, 1) := by decide +kernel
theorem dL_law_624 : decode cL_law 624 = .ok (.iaload, 1) := by decide +kernel
theorem dL_law_625 : decode cL_law 625 = .ok (.invokevirtual 152, 3) := by decide +kernel
theorem dL_law_628 : decode cL_law 628 = .ok (.istore 7, 2) := by decide +kernel
theorem dL_law_630 : decode cL_law 630 = .ok (.aload_n 2, 1) := by decide +kernel
theorem dL_law_631 : decode cL_law 631 = .ok (.invokevirtual 124, 3) := by decide +kernel
theorem dL_law_634 : decode cL_law 634 = .ok (.iload 6, 2) := by decide +kernel
theorem dL_law_636 : decode cL_law 636 = .ok (.if_icmp .eq 5, 3) := by decide +kernel
theorem dL_law_639 : decode cL_law 639 = .ok (.iconst 0, 1) := by decide +kernel
theorem dL_law_640 : decode cL_law 640 = .ok (.ireturn, 1) := by decide +kernel
theorem dL_law_641 : decode cL_law 641 = .ok (.iload 6, 2) := by decide +kernel
theorem dL_law_643 : decode cL_law 643 = .ok (.ifCond .ne 15, 3) := by decide +kernel
theorem dL_law_646 : decode cL_law 646 = .ok (.aload_n 3, 1) := by decide +kernel
theorem dL_law_647 : decode cL_law 647 = .ok (.iconst 0, 1) := by decide +kernel
theorem dL_law_648 : decode cL_law 648 = .ok (.laload, 1) := by decide +kernel
theorem dL_law_649 : decode cL_law 649 = .ok (.iload 7, 2) := by decide +kernel
theorem dL_law_651 : decode cL_law 651 = .ok (.i2l, 1) := by decide +kernel
theorem dL_law_652 : decode cL_law 652 = .ok (.lcmp, 1) := by decide +kernel
theorem dL_law_653 : decode cL_law 653 = .ok (.ifCond .eq 5, 3) := by decide +kernel
theorem dL_law_656 : decode cL_law 656 = .ok (.iconst 0, 1) := by decide +kernel
theorem dL_law_657 : decode cL_law 657 = .ok (.ireturn, 1) := by decide +kernel
theorem dL_law_658 : decode cL_law 658 = .ok (.goto 1424, 3) := by decide +kernel
theorem dL_law_661 : decode cL_law 661 = .ok (.aload_n 1, 1) := by decide +kernel
theorem dL_law_662 : decode cL_law 662 = .ok (.aload_n 0, 1) := by decide +kernel
theorem dL_law_663 : decode cL_law 663 = .ok (.iload 5, 2) := by decide +kernel
theorem dL_law_665 : decode cL_law 665 = .ok (.iconst 1, 1) := by decide +kernel
theorem dL_law_666 : decode cL_law 666 = .ok (.iadd, 1) := by decide +kernel
theorem dL_law_667 : decode cL_law 667 = .ok (.iaload, 1) := by decide +kernel
theorem dL_law_668 : decode cL_law 668 = .ok (.ifCond .eq 7, 3) := by decide +kernel
theorem dL_law_671 : decode cL_law 671 = .ok (.iconst 1, 1) := by decide +kernel
theorem dL_law_672 : decode cL_law 672 = .ok (.goto 4, 3) := by decide +kernel
theorem dL_law_675 : decode cL_law 675 = .ok (.iconst 0, 1) := by decide +kernel
theorem dL_law_676 : decode cL_law 676 = .ok (.invokevirtual 153, 3) := by decide +kernel
theorem dL_law_679 : decode cL_law 679 = .ok (.aload_n 2, 1) := by decide +kernel
theorem dL_law_680 : decode cL_law 680 = .ok (.aload_n 0, 1) := by decide +kernel
theorem dL_law_681 : decode cL_law 681 = .ok (.iload 5, 2) := by decide +kernel
theorem dL_law_683 : decode cL_law 683 = .ok (.iconst 1, 1) := by decide +kernel
theorem dL_law_684 : decode cL_law 684 = .ok (.iadd, 1) := by decide +kernel
theorem dL_law_685 : decode cL_law 685 = .ok (.iaload, 1) := by decide +kernel
theorem dL_law_686 : decode cL_law 686 = .ok (.ifCond .eq 7, 3) := by decide +kernel
theorem dL_law_689 : decode cL_law 689 = .ok (.iconst 1, 1) := by decide +kernel
theorem dL_law_690 : decode cL_law 690 = .ok (.goto 4, 3) := by decide +kernel
theorem dL_law_693 : decode cL_law 693 = .ok (.iconst 0, 1) := by decide +kernel
theorem dL_law_694 : decode cL_law 694 = .ok (.invokevirtual 157, 3) := by decide +kernel
theorem dL_law_697 : decode cL_law 697 = .ok (.if_icmp .eq 1385, 3) := by decide +kernel
theorem dL_law_700 : decode cL_law 700 = .ok (.iconst 0, 1) := by decide +kernel
theorem dL_law_701 : decode cL_law 701 = .ok (.ireturn, 1) := by decide +kernel
theorem dL_law_702 : decode cL_law 702 = .ok (.aload_n 1, 1) := by decide +kernel
theorem dL_law_703 : decode cL_law 703 = .ok (.invokevirtual 158, 3) := by decide +kernel
theorem dL_law_706 : decode cL_law 706 = .ok (.aload_n 2, 1) := by decide +kernel
theorem dL_law_707 : decode cL_law 707 = .ok (.invokevirtual 161, 3) := by decide +kernel
theorem dL_law_710 : decode cL_law 710 = .ok (.if_icmp .eq 1372, 3) := by decide +kernel
theorem dL_law_713 : decode cL_law 713 = .ok (.iconst 0, 1) := by decide +kernel
theorem dL_law_714 : decode cL_law 714 = .ok (.ireturn, 1) := by decide +kernel
theorem dL_law_715 : decode cL_law 715 = .ok (.aload_n 1, 1) := by decide +kernel
theorem dL_law_716 : decode cL_law 716 = .ok (.invokevirtual 162, 3) := by decide +kernel
theorem dL_law_719 : decode cL_law 719 = .ok (.aload_n 2, 1) := by decide +kernel
theorem dL_law_720 : decode cL_law 720 = .ok (.invokevirtual 165, 3) := by decide +kernel
theorem dL_law_723 : decode cL_law 723 = .ok (.if_icmp .eq 1359, 3) := by decide +kernel
theorem dL_law_726 : decode cL_law 726 = .ok (.iconst 0, 1) := by decide +kernel
theorem dL_law_727 : decode cL_law 727 = .ok (.ireturn, 1) := by decide +kernel
theorem dL_law_728 : decode cL_law 728 = .ok (.aload_n 1, 1) := by decide +kernel
theorem dL_law_729 : decode cL_law 729 = .ok (.aload_n 0, 1) := by decide +kernel
theorem dL_law_730 : decode cL_law 730 = .ok (.iload 5, 2) := by decide +kernel
theorem dL_law_732 : decode cL_law 732 = .ok (.iconst 1, 1) := by decide +kernel
theorem dL_law_733 : decode cL_law 733 = .ok (.iadd, 1) := by decide +kernel
theorem dL_law_734 : decode cL_law 734 = .ok (.iaload, 1) := by decide +kernel
theorem dL_law_735 : decode cL_law 735 = .ok (.aload_n 3, 1) := by decide +kernel
theorem dL_law_736 : decode cL_law 736 = .ok (.invokestatic 166, 3) := by decide +kernel
theorem dL_law_739 : decode cL_law 739 = .ok (.istore 6, 2) := by decide +kernel
theorem dL_law_741 : decode cL_law 741 = .ok (.aload_n 2, 1) := by decide +kernel
theorem dL_law_742 : decode cL_law 742 = .ok (.aload_n 0, 1) := by decide +kernel
theorem dL_law_743 : decode cL_law 743 = .ok (.iload 5, 2) := by decide +kernel
theorem dL_law_745 : decode cL_law 745 = .ok (.iconst 1, 1) := by decide +kernel
theorem dL_law_746 : decode cL_law 746 = .ok (.iadd, 1) := by decide +kernel
theorem dL_law_747 : decode cL_law 747 = .ok (.iaload, 1) := by decide +kernel
theorem dL_law_748 : decode cL_law 748 = .ok (.invokevirtual 168, 3) := by decide +kernel
theorem dL_law_751 : decode cL_law 751 = .ok (.istore 7, 2) := by decide +kernel
theorem dL_law_753 : decode cL_law 753 = .ok (.aload_n 2, 1) := by decide +kernel
theorem dL_law_754 : decode cL_law 754 = .ok (.invokevirtual 124, 3) := by decide +kernel
theorem dL_law_757 : decode cL_law 757 = .ok (.iload 6, 2) := by decide +kernel
theorem dL_law_759 : decode cL_law 759 = .ok (.if_icmp .eq 5, 3) := by decide +kernel
theorem dL_law_762 : decode cL_law 762 = .ok (.iconst 0, 1) := by decide +kernel
theorem dL_law_763 : decode cL_law 763 = .ok (.ireturn, 1) := by decide +kernel
theorem dL_law_764 : decode cL_law 764 = .ok (.iload 6, 2) := by decide +kernel
theorem dL_law_766 : decode cL_law 766 = .ok (.ifCond .ne 15, 3) := by decide +kernel
theorem dL_law_769 : decode cL_law 769 = .ok (.aload_n 3, 1) := by decide +kernel
theorem dL_law_770 : decode cL_law 770 = .ok (.iconst 0, 1) := by decide +kernel
theorem dL_law_771 : decode cL_law 771 = .ok (.laload, 1) := by decide +kernel
theorem dL_law_772 : decode cL_law 772 = .ok (.iload 7, 2) := by decide +kernel
theorem dL_law_774 : decode cL_law 774 = .ok (.i2l, 1) := by decide +kernel
theorem dL_law_775 : decode cL_law 775 = .ok (.lcmp, 1) := by decide +kernel
theorem dL_law_776 : decode cL_law 776 = .ok (.ifCond .eq 5, 3) := by decide +kernel
theorem dL_law_779 : decode cL_law 779 = .ok (.iconst 0, 1) := by decide +kernel
theorem dL_law_780 : decode cL_law 780 = .ok (.ireturn, 1) := by decide +kernel
theorem dL_law_781 : decode cL_law 781 = .ok (.goto 1301, 3) := by decide +kernel
theorem dL_law_784 : decode cL_law 784 = .ok (.aload_n 1, 1) := by decide +kernel
end
section
theorem dL_law_785 : decode cL_law 785 = .ok (.aload_n 0, 1) := by decide +kernel
theorem dL_law_786 : decode cL_law 786 = .ok (.iload 5, 2) := by decide +kernel
theorem dL_law_788 : decode cL_law 788 = .ok (.iconst 1, 1) := by decide +kernel
theorem dL_law_789 : decode cL_law 789 = .ok (.iadd, 1) := by decide +kernel
theorem dL_law_790 : decode cL_law 790 = .ok (.iaload, 1) := by decide +kernel
theorem dL_law_791 : decode cL_law 791 = .ok (.aload_n 3, 1) := by decide +kernel
theorem dL_law_792 : decode cL_law 792 = .ok (.invokestatic 169, 3) := by decide +kernel
theorem dL_law_795 : decode cL_law 795 = .ok (.istore 6, 2) := by decide +kernel
theorem dL_law_797 : decode cL_law 797 = .ok (.aload_n 2, 1) := by decide +kernel
theorem dL_law_798 : decode cL_law 798 = .ok (.aload_n 0, 1) := by decide +kernel
theorem dL_law_799 : decode cL_law 799 = .ok (.iload 5, 2) := by decide +kernel
theorem dL_law_801 : decode cL_law 801 = .ok (.iconst 1, 1) := by decide +kernel
theorem dL_law_802 : decode cL_law 802 = .ok (.iadd, 1) := by decide +kernel
theorem dL_law_803 : decode cL_law 803 = .ok (.iaload, 1) := by decide +kernel
theorem dL_law_804 : decode cL_law 804 = .ok (.invokevirtual 171, 3) := by decide +kernel
theorem dL_law_807 : decode cL_law 807 = .ok (.istore 7, 2) := by decide +kernel
theorem dL_law_809 : decode cL_law 809 = .ok (.aload_n 2, 1) := by decide +kernel
theorem dL_law_810 : decode cL_law 810 = .ok (.invokevirtual 124, 3) := by decide +kernel
theorem dL_law_813 : decode cL_law 813 = .ok (.iload 6, 2) := by decide +kernel
theorem dL_law_815 : decode cL_law 815 = .ok (.if_icmp .eq 5, 3) := by decide +kernel
theorem dL_law_818 : decode cL_law 818 = .ok (.iconst 0, 1) := by decide +kernel
theorem dL_law_819 : decode cL_law 819 = .ok (.ireturn, 1) := by decide +kernel
theorem dL_law_820 : decode cL_law 820 = .ok (.iload 6, 2) := by decide +kernel
theorem dL_law_822 : decode cL_law 822 = .ok (.ifCond .ne 15, 3) := by decide +kernel
theorem dL_law_825 : decode cL_law 825 = .ok (.aload_n 3, 1) := by decide +kernel
theorem dL_law_826 : decode cL_law 826 = .ok (.iconst 0, 1) := by decide +kernel
theorem dL_law_827 : decode cL_law 827 = .ok (.laload, 1) := by decide +kernel
theorem dL_law_828 : decode cL_law 828 = .ok (.iload 7, 2) := by decide +kernel
theorem dL_law_830 : decode cL_law 830 = .ok (.i2l, 1) := by decide +kernel
theorem dL_law_831 : decode cL_law 831 = .ok (.lcmp, 1) := by decide +kernel
theorem dL_law_832 : decode cL_law 832 = .ok (.ifCond .eq 5, 3) := by decide +kernel
theorem dL_law_835 : decode cL_law 835 = .ok (.iconst 0, 1) := by decide +kernel
theorem dL_law_836 : decode cL_law 836 = .ok (.ireturn, 1) := by decide +kernel
theorem dL_law_837 : decode cL_law 837 = .ok (.goto 1245, 3) := by decide +kernel
theorem dL_law_840 : decode cL_law 840 = .ok (.aload_n 1, 1) := by decide +kernel
theorem dL_law_841 : decode cL_law 841 = .ok (.aload_n 0, 1) := by decide +kernel
theorem dL_law_842 : decode cL_law 842 = .ok (.iload 5, 2) := by decide +kernel
theorem dL_law_844 : decode cL_law 844 = .ok (.iconst 1, 1) := by decide +kernel
theorem dL_law_845 : decode cL_law 845 = .ok (.iadd, 1) := by decide +kernel
theorem dL_law_846 : decode cL_law 846 = .ok (.iaload, 1) := by decide +kernel
theorem dL_law_847 : decode cL_law 847 = .ok (.aload_n 3, 1) := by decide +kernel
theorem dL_law_848 : decode cL_law 848 = .ok (.invokestatic 172, 3) := by decide +kernel
theorem dL_law_851 : decode cL_law 851 = .ok (.istore 6, 2) := by decide +kernel
theorem dL_law_853 : decode cL_law 853 = .ok (.aload_n 2, 1) := by decide +kernel
theorem dL_law_854 : decode cL_law 854 = .ok (.aload_n 0, 1) := by decide +kernel
theorem dL_law_855 : decode cL_law 855 = .ok (.iload 5, 2) := by decide +kernel
theorem dL_law_857 : decode cL_law 857 = .ok (.iconst 1, 1) := by decide +kernel
theorem dL_law_858 : decode cL_law 858 = .ok (.iadd, 1) := by decide +kernel
theorem dL_law_859 : decode cL_law 859 = .ok (.iaload, 1) := by decide +kernel
theorem dL_law_860 : decode cL_law 860 = .ok (.invokevirtual 174, 3) := by decide +kernel
theorem dL_law_863 : decode cL_law 863 = .ok (.istore 7, 2) := by decide +kernel
theorem dL_law_865 : decode cL_law 865 = .ok (.aload_n 2, 1) := by decide +kernel
theorem dL_law_866 : decode cL_law 866 = .ok (.invokevirtual 124, 3) := by decide +kernel
theorem dL_law_869 : decode cL_law 869 = .ok (.iload 6, 2) := by decide +kernel
theorem dL_law_871 : decode cL_law 871 = .ok (.if_icmp .eq 5, 3) := by decide +kernel
theorem dL_law_874 : decode cL_law 874 = .ok (.iconst 0, 1) := by decide +kernel
theorem dL_law_875 : decode cL_law 875 = .ok (.ireturn, 1) := by decide +kernel
theorem dL_law_876 : decode cL_law 876 = .ok (.iload 6, 2) := by decide +kernel
theorem dL_law_878 : decode cL_law 878 = .ok (.ifCond .ne 15, 3) := by decide +kernel
theorem dL_law_881 : decode cL_law 881 = .ok (.aload_n 3, 1) := by decide +kernel
theorem dL_law_882 : decode cL_law 882 = .ok (.iconst 0, 1) := by decide +kernel
theorem dL_law_883 : decode cL_law 883 = .ok (.laload, 1) := by decide +kernel
theorem dL_law_884 : decode cL_law 884 = .ok (.iload 7, 2) := by decide +kernel
theorem dL_law_886 : decode cL_law 886 = .ok (.i2l, 1) := by decide +kernel
theorem dL_law_887 : decode cL_law 887 = .ok (.lcmp, 1) := by decide +kernel
theorem dL_law_888 : decode cL_law 888 = .ok (.ifCond .eq 5, 3) := by decide +kernel
theorem dL_law_891 : decode cL_law 891 = .ok (.iconst 0, 1) := by decide +kernel
theorem dL_law_892 : decode cL_law 892 = .ok (.ireturn, 1) := by decide +kernel
theorem dL_law_893 : decode cL_law 893 = .ok (.goto 1189, 3) := by decide +kernel
theorem dL_law_896 : decode cL_law 896 = .ok (.aload_n 1, 1) := by decide +kernel
theorem dL_law_897 : decode cL_law 897 = .ok (.aload_n 0, 1) := by decide +kernel
theorem dL_law_898 : decode cL_law 898 = .ok (.iload 5, 2) := by decide +kernel
theorem dL_law_900 : decode cL_law 900 = .ok (.iconst 1, 1) := by decide +kernel
theorem dL_law_901 : decode cL_law 901 = .ok (.iadd, 1) := by decide +kernel
theorem dL_law_902 : decode cL_law 902 = .ok (.iaload, 1) := by decide +kernel
theorem dL_law_903 : decode cL_law 903 = .ok (.aload_n 3, 1) := by decide +kernel
theorem dL_law_904 : decode cL_law 904 = .ok (.invokestatic 175, 3) := by decide +kernel
theorem dL_law_907 : decode cL_law 907 = .ok (.istore 6, 2) := by decide +kernel
theorem dL_law_909 : decode cL_law 909 = .ok (.aload_n 2, 1) := by decide +kernel
theorem dL_law_910 : decode cL_law 910 = .ok (.aload_n 0, 1) := by decide +kernel
theorem dL_law_911 : decode cL_law 911 = .ok (.iload 5, 2) := by decide +kernel
theorem dL_law_913 : decode cL_law 913 = .ok (.iconst 1, 1) := by decide +kernel
theorem dL_law_914 : decode cL_law 914 = .ok (.iadd, 1) := by decide +kernel
theorem dL_law_915 : decode cL_law 915 = .ok (.iaload, 1) := by decide +kernel
theorem dL_law_916 : decode cL_law 916 = .ok (.invokevirtual 177, 3) := by decide +kernel
theorem dL_law_919 : decode cL_law 919 = .ok (.istore 7, 2) := by decide +kernel
theorem dL_law_921 : decode cL_law 921 = .ok (.aload_n 2, 1) := by decide +kernel
theorem dL_law_922 : decode cL_law 922 = .ok (.invokevirtual 124, 3) := by decide +kernel
theorem dL_law_925 : decode cL_law 925 = .ok (.iload 6, 2) := by decide +kernel
theorem dL_law_927 : decode cL_law 927 = .ok (.if_icmp .eq 5, 3) := by decide +kernel
theorem dL_law_930 : decode cL_law 930 = .ok (.iconst 0, 1) := by decide +kernel
theorem dL_law_931 : decode cL_law 931 = .ok (.ireturn, 1) := by decide +kernel
theorem dL_law_932 : decode cL_law 932 = .ok (.iload 6, 2) := by decide +kernel
theorem dL_law_934 : decode cL_law 934 = .ok (.ifCond .ne 15, 3) := by decide +kernel
theorem dL_law_937 : decode cL_law 937 = .ok (.aload_n 3, 1) := by decide +kernel
theorem dL_law_938 : decode cL_law 938 = .ok (.iconst 0, 1) := by decide +kernel
theorem dL_law_939 : decode cL_law 939 = .ok (.laload, 1) := by decide +kernel
theorem dL_law_940 : decode cL_law 940 = .ok (.iload 7, 2) := by decide +kernel
theorem dL_law_942 : decode cL_law 942 = .ok (.i2l, 1) := by decide +kernel
theorem dL_law_943 : decode cL_law 943 = .ok (.lcmp, 1) := by decide +kernel
theorem dL_law_944 : decode cL_law 944 = .ok (.ifCond .eq 5, 3) := by decide +kernel
theorem dL_law_947 : decode cL_law 947 = .ok (.iconst 0, 1) := by decide +kernel
theorem dL_law_948 : decode cL_law 948 = .ok (.ireturn, 1) := by decide +kernel
theorem dL_law_949 : decode cL_law 949 = .ok (.goto 1133, 3) := by decide +kernel
theorem dL_law_952 : decode cL_law 952 = .ok (.aload_n 1, 1) := by decide +kernel
theorem dL_law_953 : decode cL_law 953 = .ok (.aload_n 0, 1) := by decide +kernel
theorem dL_law_954 : decode cL_law 954 = .ok (.iload 5, 2) := by decide +kernel
theorem dL_law_956 : decode cL_law 956 = .ok (.iconst 1, 1) := by decide +kernel
theorem dL_law_957 : decode cL_law 957 = .ok (.iadd, 1) := by decide +kernel
theorem dL_law_958 : decode cL_law 958 = .ok (.iaload, 1) := by decide +kernel
theorem dL_law_959 : decode cL_law 959 = .ok (.aload_n 3, 1) := by decide +kernel
theorem dL_law_960 : decode cL_law 960 = .ok (.invokestatic 178, 3) := by decide +kernel
theorem dL_law_963 : decode cL_law 963 = .ok (.istore 6, 2) := by decide +kernel
theorem dL_law_965 : decode cL_law 965 = .ok (.aload_n 2, 1) := by decide +kernel
theorem dL_law_966 : decode cL_law 966 = .ok (.aload_n 0, 1) := by decide +kernel
theorem dL_law_967 : decode cL_law 967 = .ok (.iload 5, 2) := by decide +kernel
theorem dL_law_969 : decode cL_law 969 = .ok (.iconst 1, 1) := by decide +kernel
theorem dL_law_970 : decode cL_law 970 = .ok (.iadd, 1) := by decide +kernel
theorem dL_law_971 : decode cL_law 971 = .ok (.iaload, 1) := by decide +kernel
theorem dL_law_972 : decode cL_law 972 = .ok (.invokevirtual 180, 3) := by decide +kernel
theorem dL_law_975 : decode cL_law 975 = .ok (.istore 7, 2) := by decide +kernel
theorem dL_law_977 : decode cL_law 977 = .ok (.aload_n 2, 1) := by decide +kernel
theorem dL_law_978 : decode cL_law 978 = .ok (.invokevirtual 124, 3) := by decide +kernel
theorem dL_law_981 : decode cL_law 981 = .ok (.iload 6, 2) := by decide +kernel
theorem dL_law_983 : decode cL_law 983 = .ok (.if_icmp .eq 5, 3) := by decide +kernel
theorem dL_law_986 : decode cL_law 986 = .ok (.iconst 0, 1) := by decide +kernel
theorem dL_law_987 : decode cL_law 987 = .ok (.ireturn, 1) := by decide +kernel
theorem dL_law_988 : decode cL_law 988 = .ok (.iload 6, 2) := by decide +kernel
theorem dL_law_990 : decode cL_law 990 = .ok (.ifCond .ne 15, 3) := by decide +kernel
theorem dL_law_993 : decode cL_law 993 = .ok (.aload_n 3, 1) := by decide +kernel
theorem dL_law_994 : decode cL_law 994 = .ok (.iconst 0, 1) := by decide +kernel
theorem dL_law_995 : decode cL_law 995 = .ok (.laload, 1) := by decide +kernel
theorem dL_law_996 : decode cL_law 996 = .ok (.iload 7, 2) := by decide +kernel
theorem dL_law_998 : decode cL_law 998 = .ok (.i2l, 1) := by decide +kernel
theorem dL_law_999 : decode cL_law 999 = .ok (.lcmp, 1) := by decide +kernel
theorem dL_law_1000 : decode cL_law 1000 = .ok (.ifCond .eq 5, 3) := by decide +kernel
theorem dL_law_1003 : decode cL_law 1003 = .ok (.iconst 0, 1) := by decide +kernel
theorem dL_law_1004 : decode cL_law 1004 = .ok (.ireturn, 1) := by decide +kernel
theorem dL_law_1005 : decode cL_law 1005 = .ok (.goto 1077, 3) := by decide +kernel
theorem dL_law_1008 : decode cL_law 1008 = .ok (.aload_n 1, 1) := by decide +kernel
theorem dL_law_1009 : decode cL_law 1009 = .ok (.aload_n 0, 1) := by decide +kernel
theorem dL_law_1010 : decode cL_law 1010 = .ok (.iload 5, 2) := by decide +kernel
theorem dL_law_1012 : decode cL_law 1012 = .ok (.iconst 1, 1) := by decide +kernel
theorem dL_law_1013 : decode cL_law 1013 = .ok (.iadd, 1) := by decide +kernel
theorem dL_law_1014 : decode cL_law 1014 = .ok (.iaload, 1) := by decide +kernel
theorem dL_law_1015 : decode cL_law 1015 = .ok (.aload_n 3, 1) := by decide +kernel
theorem dL_law_1016 : decode cL_law 1016 = .ok (.invokestatic 181, 3) := by decide +kernel
theorem dL_law_1019 : decode cL_law 1019 = .ok (.istore 6, 2) := by decide +kernel
theorem dL_law_1021 : decode cL_law 1021 = .ok (.aload_n 2, 1) := by decide +kernel
theorem dL_law_1022 : decode cL_law 1022 = .ok (.aload_n 0, 1) := by decide +kernel
theorem dL_law_1023 : decode cL_law 1023 = .ok (.iload 5, 2) := by decide +kernel
theorem dL_law_1025 : decode cL_law 1025 = .ok (.iconst 1, 1) := by decide +kernel
theorem dL_law_1026 : decode cL_law 1026 = .ok (.iadd, 1) := by decide +kernel
theorem dL_law_1027 : decode cL_law 1027 = .ok (.iaload, 1) := by decide +kernel
theorem dL_law_1028 : decode cL_law 1028 = .ok (.invokevirtual 183, 3) := by decide +kernel
theorem dL_law_1031 : decode cL_law 1031 = .ok (.istore 7, 2) := by decide +kernel
theorem dL_law_1033 : decode cL_law 1033 = .ok (.aload_n 2, 1) := by decide +kernel
theorem dL_law_1034 : decode cL_law 1034 = .ok (.invokevirtual 124, 3) := by decide +kernel
theorem dL_law_1037 : decode cL_law 1037 = .ok (.iload 6, 2) := by decide +kernel
theorem dL_law_1039 : decode cL_law 1039 = .ok (.if_icmp .eq 5, 3) := by decide +kernel
theorem dL_law_1042 : decode cL_law 1042 = .ok (.iconst 0, 1) := by decide +kernel
theorem dL_law_1043 : decode cL_law 1043 = .ok (.ireturn, 1) := by decide +kernel
theorem dL_law_1044 : decode cL_law 1044 = .ok (.iload 6, 2) := by decide +kernel
theorem dL_law_1046 : decode cL_law 1046 = .ok (.ifCond .ne 15, 3) := by decide +kernel
theorem dL_law_1049 : decode cL_law 1049 = .ok (.aload_n 3, 1) := by decide +kernel
theorem dL_law_1050 : decode cL_law 1050 = .ok (.iconst 0, 1) := by decide +kernel
theorem dL_law_1051 : decode cL_law 1051 = .ok (.laload, 1) := by decide +kernel
theorem dL_law_1052 : decode cL_law 1052 = .ok (.iload 7, 2) := by decide +kernel
theorem dL_law_1054 : decode cL_law 1054 = .ok (.i2l, 1) := by decide +kernel
theorem dL_law_1055 : decode cL_law 1055 = .ok (.lcmp, 1) := by decide +kernel
theorem dL_law_1056 : decode cL_law 1056 = .ok (.ifCond .eq 5, 3) := by decide +kernel
theorem dL_law_1059 : decode cL_law 1059 = .ok (.iconst 0, 1) := by decide +kernel
theorem dL_law_1060 : decode cL_law 1060 = .ok (.ireturn, 1) := by decide +kernel
theorem dL_law_1061 : decode cL_law 1061 = .ok (.goto 1021, 3) := by decide +kernel
theorem dL_law_1064 : decode cL_law 1064 = .ok (.aload_n 1, 1) := by decide +kernel
theorem dL_law_1065 : decode cL_law 1065 = .ok (.aload_n 0, 1) := by decide +kernel
theorem dL_law_1066 : decode cL_law 1066 = .ok (.iload 5, 2) := by decide +kernel
theorem dL_law_1068 : decode cL_law 1068 = .ok (.iconst 1, 1) := by decide +kernel
theorem dL_law_1069 : decode cL_law 1069 = .ok (.iadd, 1) := by decide +kernel
theorem dL_law_1070 : decode cL_law 1070 = .ok (.iaload, 1) := by decide +kernel
theorem dL_law_1071 : decode cL_law 1071 = .ok (.aload_n 3, 1) := by decide +kernel
theorem dL_law_1072 : decode cL_law 1072 = .ok (.invokestatic 184, 3) := by decide +kernel
theorem dL_law_1075 : decode cL_law 1075 = .ok (.istore 6, 2) := by decide +kernel
theorem dL_law_1077 : decode cL_law 1077 = .ok (.aload_n 2, 1) := by decide +kernel
theorem dL_law_1078 : decode cL_law 1078 = .ok (.aload_n 0, 1) := by decide +kernel
theorem dL_law_1079 : decode cL_law 1079 = .ok (.iload 5, 2) := by decide +kernel
theorem dL_law_1081 : decode cL_law 1081 = .ok (.iconst 1, 1) := by decide +kernel
theorem dL_law_1082 : decode cL_law 1082 = .ok (.iadd, 1) := by decide +kernel
theorem dL_law_1083 : decode cL_law 1083 = .ok (.iaload, 1) := by decide +kernel
theorem dL_law_1084 : decode cL_law 1084 = .ok (.invokevirtual 186, 3) := by decide +kernel
theorem dL_law_1087 : decode cL_law 1087 = .ok (.istore 7, 2) := by decide +kernel
theorem dL_law_1089 : decode cL_law 1089 = .ok (.aload_n 2, 1) := by decide +kernel
theorem dL_law_1090 : decode cL_law 1090 = .ok (.invokevirtual 124, 3) := by decide +kernel
theorem dL_law_1093 : decode cL_law 1093 = .ok (.iload 6, 2) := by decide +kernel
theorem dL_law_1095 : decode cL_law 1095 = .ok (.if_icmp .eq 5, 3) := by decide +kernel
theorem dL_law_1098 : decode cL_law 1098 = .ok (.iconst 0, 1) := by decide +kernel
theorem dL_law_1099 : decode cL_law 1099 = .ok (.ireturn, 1) := by decide +kernel
theorem dL_law_1100 : decode cL_law 1100 = .ok (.iload 6, 2) := by decide +kernel
theorem dL_law_1102 : decode cL_law 1102 = .ok (.ifCond .ne 15, 3) := by decide +kernel
theorem dL_law_1105 : decode cL_law 1105 = .ok (.aload_n 3, 1) := by decide +kernel
theorem dL_law_1106 : decode cL_law 1106 = .ok (.iconst 0, 1) := by decide +kernel
theorem dL_law_1107 : decode cL_law 1107 = .ok (.laload, 1) := by decide +kernel
theorem dL_law_1108 : decode cL_law 1108 = .ok (.iload 7, 2) := by decide +kernel
theorem dL_law_1110 : decode cL_law 1110 = .ok (.i2l, 1) := by decide +kernel
theorem dL_law_1111 : decode cL_law 1111 = .ok (.lcmp, 1) := by decide +kernel
theorem dL_law_1112 : decode cL_law 1112 = .ok (.ifCond .eq 5, 3) := by decide +kernel
theorem dL_law_1115 : decode cL_law 1115 = .ok (.iconst 0, 1) := by decide +kernel
theorem dL_law_1116 : decode cL_law 1116 = .ok (.ireturn, 1) := by decide +kernel
theorem dL_law_1117 : decode cL_law 1117 = .ok (.goto 965, 3) := by decide +kernel
theorem dL_law_1120 : decode cL_law 1120 = .ok (.aload_n 1, 1) := by decide +kernel
theorem dL_law_1121 : decode cL_law 1121 = .ok (.aload 4, 2) := by decide +kernel
theorem dL_law_1123 : decode cL_law 1123 = .ok (.invokestatic 187, 3) := by decide +kernel
theorem dL_law_1126 : decode cL_law 1126 = .ok (.istore 6, 2) := by decide +kernel
theorem dL_law_1128 : decode cL_law 1128 = .ok (.aload_n 2, 1) := by decide +kernel
theorem dL_law_1129 : decode cL_law 1129 = .ok (.invokevirtual 190, 3) := by decide +kernel
theorem dL_law_1132 : decode cL_law 1132 = .ok (.dstore 7, 2) := by decide +kernel
theorem dL_law_1134 : decode cL_law 1134 = .ok (.aload_n 2, 1) := by decide +kernel
theorem dL_law_1135 : decode cL_law 1135 = .ok (.invokevirtual 124, 3) := by decide +kernel
theorem dL_law_1138 : decode cL_law 1138 = .ok (.iload 6, 2) := by decide +kernel
theorem dL_law_1140 : decode cL_law 1140 = .ok (.if_icmp .eq 5, 3) := by decide +kernel
theorem dL_law_1143 : decode cL_law 1143 = .ok (.iconst 0, 1) := by decide +kernel
theorem dL_law_1144 : decode cL_law 1144 = .ok (.ireturn, 1) := by decide +kernel
theorem dL_law_1145 : decode cL_law 1145 = .ok (.iload 6, 2) := by decide +kernel
theorem dL_law_1147 : decode cL_law 1147 = .ok (.ifCond .ne 35, 3) := by decide +kernel
theorem dL_law_1150 : decode cL_law 1150 = .ok (.aload 4, 2) := by decide +kernel
theorem dL_law_1152 : decode cL_law 1152 = .ok (.iconst 0, 1) := by decide +kernel
theorem dL_law_1153 : decode cL_law 1153 = .ok (.daload, 1) := by decide +kernel
theorem dL_law_1154 : decode cL_law 1154 = .ok (.dload 7, 2) := by decide +kernel
theorem dL_law_1156 : decode cL_law 1156 = .ok (.dcmp .l, 1) := by decide +kernel
theorem dL_law_1157 : decode cL_law 1157 = .ok (.ifCond .eq 25, 3) := by decide +kernel
theorem dL_law_1160 : decode cL_law 1160 = .ok (.aload 4, 2) := by decide +kernel
theorem dL_law_1162 : decode cL_law 1162 = .ok (.iconst 0, 1) := by decide +kernel
theorem dL_law_1163 : decode cL_law 1163 = .ok (.daload, 1) := by decide +kernel
theorem dL_law_1164 : decode cL_law 1164 = .ok (.aload 4, 2) := by decide +kernel
theorem dL_law_1166 : decode cL_law 1166 = .ok (.iconst 0, 1) := by decide +kernel
theorem dL_law_1167 : decode cL_law 1167 = .ok (.daload, 1) := by decide +kernel
theorem dL_law_1168 : decode cL_law 1168 = .ok (.dcmp .l, 1) := by decide +kernel
theorem dL_law_1169 : decode cL_law 1169 = .ok (.ifCond .eq 11, 3) := by decide +kernel
theorem dL_law_1172 : decode cL_law 1172 = .ok (.dload 7, 2) := by decide +kernel
theorem dL_law_1174 : decode cL_law 1174 = .ok (.dload 7, 2) := by decide +kernel
theorem dL_law_1176 : decode cL_law 1176 = .ok (.dcmp .l, 1) := by decide +kernel
theorem dL_law_1177 : decode cL_law 1177 = .ok (.ifCond .ne 5, 3) := by decide +kernel
theorem dL_law_1180 : decode cL_law 1180 = .ok (.iconst 0, 1) := by decide +kernel
theorem dL_law_1181 : decode cL_law 1181 = .ok (.ireturn, 1) := by decide +kernel
theorem dL_law_1182 : decode cL_law 1182 = .ok (.goto 900, 3) := by decide +kernel
theorem dL_law_1185 : decode cL_law 1185 = .ok (.aload_n 1, 1) := by decide +kernel
theorem dL_law_1186 : decode cL_law 1186 = .ok (.aload_n 0, 1) := by decide +kernel
theorem dL_law_1187 : decode cL_law 1187 = .ok (.iload 5, 2) := by decide +kernel
theorem dL_law_1189 : decode cL_law 1189 = .ok (.iconst 1, 1) := by decide +kernel
theorem dL_law_1190 : decode cL_law 1190 = .ok (.iadd, 1) := by decide +kernel
theorem dL_law_1191 : decode cL_law 1191 = .ok (.iaload, 1) := by decide +kernel
theorem dL_law_1192 : decode cL_law 1192 = .ok (.aload 4, 2) := by decide +kernel
theorem dL_law_1194 : decode cL_law 1194 = .ok (.invokestatic 191, 3) := by decide +kernel
theorem dL_law_1197 : decode cL_law 1197 = .ok (.istore 6, 2) := by decide +kernel
theorem dL_law_1199 : decode cL_law 1199 = .ok (.aload_n 2, 1) := by decide +kernel
theorem dL_law_1200 : decode cL_law 1200 = .ok (.aload_n 0, 1) := by decide +kernel
theorem dL_law_1201 : decode cL_law 1201 = .ok (.iload 5, 2) := by decide +kernel
theorem dL_law_1203 : decode cL_law 1203 = .ok (.iconst 1, 1) := by decide +kernel
theorem dL_law_1204 : decode cL_law 1204 = .ok (.iadd, 1) := by decide +kernel
theorem dL_law_1205 : decode cL_law 1205 = .ok (.iaload, 1) := by decide +kernel
theorem dL_law_1206 : decode cL_law 1206 = .ok (.invokevirtual 194, 3) := by decide +kernel
theorem dL_law_1209 : decode cL_law 1209 = .ok (.fstore 7, 2) := by decide +kernel
theorem dL_law_1211 : decode cL_law 1211 = .ok (.aload_n 2, 1) := by decide +kernel
theorem dL_law_1212 : decode cL_law 1212 = .ok (.invokevirtual 124, 3) := by decide +kernel
theorem dL_law_1215 : decode cL_law 1215 = .ok (.iload 6, 2) := by decide +kernel
theorem dL_law_1217 : decode cL_law 1217 = .ok (.if_icmp .eq 5, 3) := by decide +kernel
theorem dL_law_1220 : decode cL_law 1220 = .ok (.iconst 0, 1) := by decide +kernel
theorem dL_law_1221 : decode cL_law 1221 = .ok (.ireturn, 1) := by decide +kernel
theorem dL_law_1222 : decode cL_law 1222 = .ok (.iload 6, 2) := by decide +kernel
theorem dL_law_1224 : decode cL_law 1224 = .ok (.ifCond .ne 36, 3) := by decide +kernel
theorem dL_law_1227 : decode cL_law 1227 = .ok (.aload 4, 2) := by decide +kernel
theorem dL_law_1229 : decode cL_law 1229 = .ok (.iconst 0, 1) := by decide +kernel
theorem dL_law_1230 : decode cL_law 1230 = .ok (.daload, 1) := by decide +kernel
theorem dL_law_1231 : decode cL_law 1231 = .ok (.fload 7, 2) := by decide +kernel
theorem dL_law_1233 : decode cL_law 1233 = .ok (.f2d, 1) := by decide +kernel
theorem dL_law_1234 : decode cL_law 1234 = .ok (.dcmp .l, 1) := by decide +kernel
theorem dL_law_1235 : decode cL_law 1235 = .ok (.ifCond .eq 25, 3) := by decide +kernel
theorem dL_law_1238 : decode cL_law 1238 = .ok (.aload 4, 2) := by decide +kernel
theorem dL_law_1240 : decode cL_law 1240 = .ok (.iconst 0, 1) := by decide +kernel
theorem dL_law_1241 : decode cL_law 1241 = .ok (.daload, 1) := by decide +kernel
theorem dL_law_1242 : decode cL_law 1242 = .ok (.aload 4, 2) := by decide +kernel
theorem dL_law_1244 : decode cL_law 1244 = .ok (.iconst 0, 1) := by decide +kernel
theorem dL_law_1245 : decode cL_law 1245 = .ok (.daload, 1) := by decide +kernel
theorem dL_law_1246 : decode cL_law 1246 = .ok (.dcmp .l, 1) := by decide +kernel
theorem dL_law_1247 : decode cL_law 1247 = .ok (.ifCond .eq 11, 3) := by decide +kernel
theorem dL_law_1250 : decode cL_law 1250 = .ok (.fload 7, 2) := by decide +kernel
theorem dL_law_1252 : decode cL_law 1252 = .ok (.fload 7, 2) := by decide +kernel
theorem dL_law_1254 : decode cL_law 1254 = .ok (.fcmp .l, 1) := by decide +kernel
theorem dL_law_1255 : decode cL_law 1255 = .ok (.ifCond .ne 5, 3) := by decide +kernel
theorem dL_law_1258 : decode cL_law 1258 = .ok (.iconst 0, 1) := by decide +kernel
theorem dL_law_1259 : decode cL_law 1259 = .ok (.ireturn, 1) := by decide +kernel
theorem dL_law_1260 : decode cL_law 1260 = .ok (.goto 822, 3) := by decide +kernel
theorem dL_law_1263 : decode cL_law 1263 = .ok (.aload_n 1, 1) := by decide +kernel
theorem dL_law_1264 : decode cL_law 1264 = .ok (.aload_n 0, 1) := by decide +kernel
theorem dL_law_1265 : decode cL_law 1265 = .ok (.iload 5, 2) := by decide +kernel
theorem dL_law_1267 : decode cL_law 1267 = .ok (.iconst 1, 1) := by decide +kernel
theorem dL_law_1268 : decode cL_law 1268 = .ok (.iadd, 1) := by decide +kernel
theorem dL_law_1269 : decode cL_law 1269 = .ok (.iaload, 1) := by decide +kernel
theorem dL_law_1270 : decode cL_law 1270 = .ok (.aload_n 3, 1) := by decide +kernel
theorem dL_law_1271 : decode cL_law 1271 = .ok (.invokestatic 195, 3) := by decide +kernel
theorem dL_law_1274 : decode cL_law 1274 = .ok (.istore 6, 2) := by decide +kernel
theorem dL_law_1276 : decode cL_law 1276 = .ok (.aload_n 2, 1) := by decide +kernel
theorem dL_law_1277 : decode cL_law 1277 = .ok (.aload_n 0, 1) := by decide +kernel
theorem dL_law_1278 : decode cL_law 1278 = .ok (.iload 5, 2) := by decide +kernel
theorem dL_law_1280 : decode cL_law 1280 = .ok (.iconst 1, 1) := by decide +kernel
theorem dL_law_1281 : decode cL_law 1281 = .ok (.iadd, 1) := by decide +kernel
theorem dL_law_1282 : decode cL_law 1282 = .ok (.iaload, 1) := by decide +kernel
theorem dL_law_1283 : decode cL_law 1283 = .ok (.invokevirtual 197, 3) := by decide +kernel
theorem dL_law_1286 : decode cL_law 1286 = .ok (.istore 7, 2) := by decide +kernel
theorem dL_law_1288 : decode cL_law 1288 = .ok (.aload_n 2, 1) := by decide +kernel
theorem dL_law_1289 : decode cL_law 1289 = .ok (.invokevirtual 124, 3) := by decide +kernel
theorem dL_law_1292 : decode cL_law 1292 = .ok (.iload 6, 2) := by decide +kernel
theorem dL_law_1294 : decode cL_law 1294 = .ok (.if_icmp .eq 5, 3) := by decide +kernel
theorem dL_law_1297 : decode cL_law 1297 = .ok (.iconst 0, 1) := by decide +kernel
theorem dL_law_1298 : decode cL_law 1298 = .ok (.ireturn, 1) := by decide +kernel
theorem dL_law_1299 : decode cL_law 1299 = .ok (.iload 6, 2) := by decide +kernel
theorem dL_law_1301 : decode cL_law 1301 = .ok (.ifCond .ne 15, 3) := by decide +kernel
theorem dL_law_1304 : decode cL_law 1304 = .ok (.aload_n 3, 1) := by decide +kernel
theorem dL_law_1305 : decode cL_law 1305 = .ok (.iconst 0, 1) := by decide +kernel
theorem dL_law_1306 : decode cL_law 1306 = .ok (.laload, 1) := by decide +kernel
theorem dL_law_1307 : decode cL_law 1307 = .ok (.iload 7, 2) := by decide +kernel
theorem dL_law_1309 : decode cL_law 1309 = .ok (.i2l, 1) := by decide +kernel
theorem dL_law_1310 : decode cL_law 1310 = .ok (.lcmp, 1) := by decide +kernel
theorem dL_law_1311 : decode cL_law 1311 = .ok (.ifCond .eq 5, 3) := by decide +kernel
theorem dL_law_1314 : decode cL_law 1314 = .ok (.iconst 0, 1) := by decide +kernel
theorem dL_law_1315 : decode cL_law 1315 = .ok (.ireturn, 1) := by decide +kernel
theorem dL_law_1316 : decode cL_law 1316 = .ok (.goto 766, 3) := by decide +kernel
theorem dL_law_1319 : decode cL_law 1319 = .ok (.aload_n 1, 1) := by decide +kernel
theorem dL_law_1320 : decode cL_law 1320 = .ok (.aload 4, 2) := by decide +kernel
theorem dL_law_1322 : decode cL_law 1322 = .ok (.invokestatic 198, 3) := by decide +kernel
theorem dL_law_1325 : decode cL_law 1325 = .ok (.istore 6, 2) := by decide +kernel
theorem dL_law_1327 : decode cL_law 1327 = .ok (.aload_n 2, 1) := by decide +kernel
theorem dL_law_1328 : decode cL_law 1328 = .ok (.invokevirtual 200, 3) := by decide +kernel
theorem dL_law_1331 : decode cL_law 1331 = .ok (.dstore 7, 2) := by decide +kernel
theorem dL_law_1333 : decode cL_law 1333 = .ok (.aload_n 2, 1) := by decide +kernel
theorem dL_law_1334 : decode cL_law 1334 = .ok (.invokevirtual 124, 3) := by decide +kernel
theorem dL_law_1337 : decode cL_law 1337 = .ok (.iload 6, 2) := by decide +kernel
theorem dL_law_1339 : decode cL_law 1339 = .ok (.if_icmp .eq 5, 3) := by decide +kernel
theorem dL_law_1342 : decode cL_law 1342 = .ok (.iconst 0, 1) := by decide +kernel
theorem dL_law_1343 : decode cL_law 1343 = .ok (.ireturn, 1) := by decide +kernel
theorem dL_law_1344 : decode cL_law 1344 = .ok (.iload 6, 2) := by decide +kernel
theorem dL_law_1346 : decode cL_law 1346 = .ok (.ifCond .ne 35, 3) := by decide +kernel
theorem dL_law_1349 : decode cL_law 1349 = .ok (.aload 4, 2) := by decide +kernel
theorem dL_law_1351 : decode cL_law 1351 = .ok (.iconst 0, 1) := by decide +kernel
theorem dL_law_1352 : decode cL_law 1352 = .ok (.daload, 1) := by decide +kernel
theorem dL_law_1353 : decode cL_law 1353 = .ok (.dload 7, 2) := by decide +kernel
theorem dL_law_1355 : decode cL_law 1355 = .ok (.dcmp .l, 1) := by decide +kernel
theorem dL_law_1356 : decode cL_law 1356 = .ok (.ifCond .eq 25, 3) := by decide +kernel
theorem dL_law_1359 : decode cL_law 1359 = .ok (.aload 4, 2) := by decide +kernel
theorem dL_law_1361 : decode cL_law 1361 = .ok (.iconst 0, 1) := by decide +kernel
theorem dL_law_1362 : decode cL_law 1362 = .ok (.daload, 1) := by decide +kernel
theorem dL_law_1363 : decode cL_law 1363 = .ok (.aload 4, 2) := by decide +kernel
theorem dL_law_1365 : decode cL_law 1365 = .ok (.iconst 0, 1) := by decide +kernel
theorem dL_law_1366 : decode cL_law 1366 = .ok (.daload, 1) := by decide +kernel
theorem dL_law_1367 : decode cL_law 1367 = .ok (.dcmp .l, 1) := by decide +kernel
theorem dL_law_1368 : decode cL_law 1368 = .ok (.ifCond .eq 11, 3) := by decide +kernel
theorem dL_law_1371 : decode cL_law 1371 = .ok (.dload 7, 2) := by decide +kernel
theorem dL_law_1373 : decode cL_law 1373 = .ok (.dload 7, 2) := by decide +kernel
theorem dL_law_1375 : decode cL_law 1375 = .ok (.dcmp .l, 1) := by decide +kernel
theorem dL_law_1376 : decode cL_law 1376 = .ok (.ifCond .ne 5, 3) := by decide +kernel
theorem dL_law_1379 : decode cL_law 1379 = .ok (.iconst 0, 1) := by decide +kernel
theorem dL_law_1380 : decode cL_law 1380 = .ok (.ireturn, 1) := by decide +kernel
theorem dL_law_1381 : decode cL_law 1381 = .ok (.goto 701, 3) := by decide +kernel
theorem dL_law_1384 : decode cL_law 1384 = .ok (.aload_n 1, 1) := by decide +kernel
theorem dL_law_1385 : decode cL_law 1385 = .ok (.invokevirtual 201, 3) := by decide +kernel
theorem dL_law_1388 : decode cL_law 1388 = .ok (.aload_n 2, 1) := by decide +kernel
theorem dL_law_1389 : decode cL_law 1389 = .ok (.invokevirtual 204, 3) := by decide +kernel
theorem dL_law_1392 : decode cL_law 1392 = .ok (.if_icmp .eq 690, 3) := by decide +kernel
theorem dL_law_1395 : decode cL_law 1395 = .ok (.iconst 0, 1) := by decide +kernel
theorem dL_law_1396 : decode cL_law 1396 = .ok (.ireturn, 1) := by decide +kernel
theorem dL_law_1397 : decode cL_law 1397 = .ok (.aload_n 1, 1) := by decide +kernel
theorem dL_law_1398 : decode cL_law 1398 = .ok (.aload_n 0, 1) := by decide +kernel
theorem dL_law_1399 : decode cL_law 1399 = .ok (.iload 5, 2) := by decide +kernel
theorem dL_law_1401 : decode cL_law 1401 = .ok (.iconst 1, 1) := by decide +kernel
theorem dL_law_1402 : decode cL_law 1402 = .ok (.iadd, 1) := by decide +kernel
theorem dL_law_1403 : decode cL_law 1403 = .ok (.iaload, 1) := by decide +kernel
theorem dL_law_1404 : decode cL_law 1404 = .ok (.aload_n 0, 1) := by decide +kernel
theorem dL_law_1405 : decode cL_law 1405 = .ok (.iload 5, 2) := by decide +kernel
theorem dL_law_1407 : decode cL_law 1407 = .ok (.iconst 2, 1) := by decide +kernel
theorem dL_law_1408 : decode cL_law 1408 = .ok (.iadd, 1) := by decide +kernel
theorem dL_law_1409 : decode cL_law 1409 = .ok (.iaload, 1) := by decide +kernel
theorem dL_law_1410 : decode cL_law 1410 = .ok (.aload_n 3, 1) := by decide +kernel
theorem dL_law_1411 : decode cL_law 1411 = .ok (.invokestatic 205, 3) := by decide +kernel
theorem dL_law_1414 : decode cL_law 1414 = .ok (.istore 6, 2) := by decide +kernel
theorem dL_law_1416 : decode cL_law 1416 = .ok (.aload_n 2, 1) := by decide +kernel
theorem dL_law_1417 : decode cL_law 1417 = .ok (.aload_n 0, 1) := by decide +kernel
theorem dL_law_1418 : decode cL_law 1418 = .ok (.iload 5, 2) := by decide +kernel
theorem dL_law_1420 : decode cL_law 1420 = .ok (.iconst 1, 1) := by decide +kernel
theorem dL_law_1421 : decode cL_law 1421 = .ok (.iadd, 1) := by decide +kernel
theorem dL_law_1422 : decode cL_law 1422 = .ok (.iaload, 1) := by decide +kernel
theorem dL_law_1423 : decode cL_law 1423 = .ok (.aload_n 0, 1) := by decide +kernel
theorem dL_law_1424 : decode cL_law 1424 = .ok (.iload 5, 2) := by decide +kernel
theorem dL_law_1426 : decode cL_law 1426 = .ok (.iconst 2, 1) := by decide +kernel
theorem dL_law_1427 : decode cL_law 1427 = .ok (.iadd, 1) := by decide +kernel
theorem dL_law_1428 : decode cL_law 1428 = .ok (.iaload, 1) := by decide +kernel
theorem dL_law_1429 : decode cL_law 1429 = .ok (.invokevirtual 207, 3) := by decide +kernel
theorem dL_law_1432 : decode cL_law 1432 = .ok (.istore 7, 2) := by decide +kernel
theorem dL_law_1434 : decode cL_law 1434 = .ok (.aload_n 2, 1) := by decide +kernel
theorem dL_law_1435 : decode cL_law 1435 = .ok (.invokevirtual 124, 3) := by decide +kernel
theorem dL_law_1438 : decode cL_law 1438 = .ok (.iload 6, 2) := by decide +kernel
theorem dL_law_1440 : decode cL_law 1440 = .ok (.if_icmp .eq 5, 3) := by decide +kernel
theorem dL_law_1443 : decode cL_law 1443 = .ok (.iconst 0, 1) := by decide +kernel
end
section
theorem dL_law_1444 : decode cL_law 1444 = .ok (.ireturn, 1) := by decide +kernel
theorem dL_law_1445 : decode cL_law 1445 = .ok (.iload 6, 2) := by decide +kernel
theorem dL_law_1447 : decode cL_law 1447 = .ok (.ifCond .ne 15, 3) := by decide +kernel
theorem dL_law_1450 : decode cL_law 1450 = .ok (.aload_n 3, 1) := by decide +kernel
theorem dL_law_1451 : decode cL_law 1451 = .ok (.iconst 0, 1) := by decide +kernel
theorem dL_law_1452 : decode cL_law 1452 = .ok (.laload, 1) := by decide +kernel
theorem dL_law_1453 : decode cL_law 1453 = .ok (.iload 7, 2) := by decide +kernel
theorem dL_law_1455 : decode cL_law 1455 = .ok (.i2l, 1) := by decide +kernel
theorem dL_law_1456 : decode cL_law 1456 = .ok (.lcmp, 1) := by decide +kernel
theorem dL_law_1457 : decode cL_law 1457 = .ok (.ifCond .eq 5, 3) := by decide +kernel
theorem dL_law_1460 : decode cL_law 1460 = .ok (.iconst 0, 1) := by decide +kernel
theorem dL_law_1461 : decode cL_law 1461 = .ok (.ireturn, 1) := by decide +kernel
theorem dL_law_1462 : decode cL_law 1462 = .ok (.goto 620, 3) := by decide +kernel
theorem dL_law_1465 : decode cL_law 1465 = .ok (.aload_n 1, 1) := by decide +kernel
theorem dL_law_1466 : decode cL_law 1466 = .ok (.aload_n 0, 1) := by decide +kernel
theorem dL_law_1467 : decode cL_law 1467 = .ok (.iload 5, 2) := by decide +kernel
theorem dL_law_1469 : decode cL_law 1469 = .ok (.iconst 1, 1) := by decide +kernel
theorem dL_law_1470 : decode cL_law 1470 = .ok (.iadd, 1) := by decide +kernel
theorem dL_law_1471 : decode cL_law 1471 = .ok (.iaload, 1) := by decide +kernel
theorem dL_law_1472 : decode cL_law 1472 = .ok (.aload_n 3, 1) := by decide +kernel
theorem dL_law_1473 : decode cL_law 1473 = .ok (.invokestatic 208, 3) := by decide +kernel
theorem dL_law_1476 : decode cL_law 1476 = .ok (.istore 6, 2) := by decide +kernel
theorem dL_law_1478 : decode cL_law 1478 = .ok (.aload_n 2, 1) := by decide +kernel
theorem dL_law_1479 : decode cL_law 1479 = .ok (.aload_n 0, 1) := by decide +kernel
theorem dL_law_1480 : decode cL_law 1480 = .ok (.iload 5, 2) := by decide +kernel
theorem dL_law_1482 : decode cL_law 1482 = .ok (.iconst 1, 1) := by decide +kernel
theorem dL_law_1483 : decode cL_law 1483 = .ok (.iadd, 1) := by decide +kernel
theorem dL_law_1484 : decode cL_law 1484 = .ok (.iaload, 1) := by decide +kernel
theorem dL_law_1485 : decode cL_law 1485 = .ok (.invokevirtual 210, 3) := by decide +kernel
theorem dL_law_1488 : decode cL_law 1488 = .ok (.istore 7, 2) := by decide +kernel
theorem dL_law_1490 : decode cL_law 1490 = .ok (.aload_n 2, 1) := by decide +kernel
theorem dL_law_1491 : decode cL_law 1491 = .ok (.invokevirtual 124, 3) := by decide +kernel
theorem dL_law_1494 : decode cL_law 1494 = .ok (.iload 6, 2) := by decide +kernel
theorem dL_law_1496 : decode cL_law 1496 = .ok (.if_icmp .eq 5, 3) := by decide +kernel
theorem dL_law_1499 : decode cL_law 1499 = .ok (.iconst 0, 1) := by decide +kernel
theorem dL_law_1500 : decode cL_law 1500 = .ok (.ireturn, 1) := by decide +kernel
theorem dL_law_1501 : decode cL_law 1501 = .ok (.iload 6, 2) := by decide +kernel
theorem dL_law_1503 : decode cL_law 1503 = .ok (.ifCond .ne 15, 3) := by decide +kernel
theorem dL_law_1506 : decode cL_law 1506 = .ok (.aload_n 3, 1) := by decide +kernel
theorem dL_law_1507 : decode cL_law 1507 = .ok (.iconst 0, 1) := by decide +kernel
theorem dL_law_1508 : decode cL_law 1508 = .ok (.laload, 1) := by decide +kernel
theorem dL_law_1509 : decode cL_law 1509 = .ok (.iload 7, 2) := by decide +kernel
theorem dL_law_1511 : decode cL_law 1511 = .ok (.i2l, 1) := by decide +kernel
theorem dL_law_1512 : decode cL_law 1512 = .ok (.lcmp, 1) := by decide +kernel
theorem dL_law_1513 : decode cL_law 1513 = .ok (.ifCond .eq 5, 3) := by decide +kernel
theorem dL_law_1516 : decode cL_law 1516 = .ok (.iconst 0, 1) := by decide +kernel
theorem dL_law_1517 : decode cL_law 1517 = .ok (.ireturn, 1) := by decide +kernel
theorem dL_law_1518 : decode cL_law 1518 = .ok (.goto 564, 3) := by decide +kernel
theorem dL_law_1521 : decode cL_law 1521 = .ok (.aload_n 1, 1) := by decide +kernel
theorem dL_law_1522 : decode cL_law 1522 = .ok (.aload_n 0, 1) := by decide +kernel
theorem dL_law_1523 : decode cL_law 1523 = .ok (.iload 5, 2) := by decide +kernel
theorem dL_law_1525 : decode cL_law 1525 = .ok (.iconst 1, 1) := by decide +kernel
theorem dL_law_1526 : decode cL_law 1526 = .ok (.iadd, 1) := by decide +kernel
theorem dL_law_1527 : decode cL_law 1527 = .ok (.iaload, 1) := by decide +kernel
theorem dL_law_1528 : decode cL_law 1528 = .ok (.aload_n 3, 1) := by decide +kernel
theorem dL_law_1529 : decode cL_law 1529 = .ok (.invokestatic 211, 3) := by decide +kernel
theorem dL_law_1532 : decode cL_law 1532 = .ok (.istore 6, 2) := by decide +kernel
theorem dL_law_1534 : decode cL_law 1534 = .ok (.aload_n 2, 1) := by decide +kernel
theorem dL_law_1535 : decode cL_law 1535 = .ok (.aload_n 0, 1) := by decide +kernel
theorem dL_law_1536 : decode cL_law 1536 = .ok (.iload 5, 2) := by decide +kernel
theorem dL_law_1538 : decode cL_law 1538 = .ok (.iconst 1, 1) := by decide +kernel
theorem dL_law_1539 : decode cL_law 1539 = .ok (.iadd, 1) := by decide +kernel
theorem dL_law_1540 : decode cL_law 1540 = .ok (.iaload, 1) := by decide +kernel
theorem dL_law_1541 : decode cL_law 1541 = .ok (.invokevirtual 213, 3) := by decide +kernel
theorem dL_law_1544 : decode cL_law 1544 = .ok (.istore 7, 2) := by decide +kernel
theorem dL_law_1546 : decode cL_law 1546 = .ok (.aload_n 2, 1) := by decide +kernel
theorem dL_law_1547 : decode cL_law 1547 = .ok (.invokevirtual 124, 3) := by decide +kernel
theorem dL_law_1550 : decode cL_law 1550 = .ok (.iload 6, 2) := by decide +kernel
theorem dL_law_1552 : decode cL_law 1552 = .ok (.if_icmp .eq 5, 3) := by decide +kernel
theorem dL_law_1555 : decode cL_law 1555 = .ok (.iconst 0, 1) := by decide +kernel
theorem dL_law_1556 : decode cL_law 1556 = .ok (.ireturn, 1) := by decide +kernel
theorem dL_law_1557 : decode cL_law 1557 = .ok (.iload 6, 2) := by decide +kernel
theorem dL_law_1559 : decode cL_law 1559 = .ok (.ifCond .ne 15, 3) := by decide +kernel
theorem dL_law_1562 : decode cL_law 1562 = .ok (.aload_n 3, 1) := by decide +kernel
theorem dL_law_1563 : decode cL_law 1563 = .ok (.iconst 0, 1) := by decide +kernel
theorem dL_law_1564 : decode cL_law 1564 = .ok (.laload, 1) := by decide +kernel
theorem dL_law_1565 : decode cL_law 1565 = .ok (.iload 7, 2) := by decide +kernel
theorem dL_law_1567 : decode cL_law 1567 = .ok (.i2l, 1) := by decide +kernel
theorem dL_law_1568 : decode cL_law 1568 = .ok (.lcmp, 1) := by decide +kernel
theorem dL_law_1569 : decode cL_law 1569 = .ok (.ifCond .eq 5, 3) := by decide +kernel
theorem dL_law_1572 : decode cL_law 1572 = .ok (.iconst 0, 1) := by decide +kernel
theorem dL_law_1573 : decode cL_law 1573 = .ok (.ireturn, 1) := by decide +kernel
theorem dL_law_1574 : decode cL_law 1574 = .ok (.goto 508, 3) := by decide +kernel
theorem dL_law_1577 : decode cL_law 1577 = .ok (.aload_n 1, 1) := by decide +kernel
theorem dL_law_1578 : decode cL_law 1578 = .ok (.aload_n 3, 1) := by decide +kernel
theorem dL_law_1579 : decode cL_law 1579 = .ok (.invokestatic 214, 3) := by decide +kernel
theorem dL_law_1582 : decode cL_law 1582 = .ok (.istore 6, 2) := by decide +kernel
theorem dL_law_1584 : decode cL_law 1584 = .ok (.aload_n 2, 1) := by decide +kernel
theorem dL_law_1585 : decode cL_law 1585 = .ok (.invokevirtual 217, 3) := by decide +kernel
theorem dL_law_1588 : decode cL_law 1588 = .ok (.istore 7, 2) := by decide +kernel
theorem dL_law_1590 : decode cL_law 1590 = .ok (.aload_n 2, 1) := by decide +kernel
theorem dL_law_1591 : decode cL_law 1591 = .ok (.invokevirtual 124, 3) := by decide +kernel
theorem dL_law_1594 : decode cL_law 1594 = .ok (.iload 6, 2) := by decide +kernel
theorem dL_law_1596 : decode cL_law 1596 = .ok (.if_icmp .eq 5, 3) := by decide +kernel
theorem dL_law_1599 : decode cL_law 1599 = .ok (.iconst 0, 1) := by decide +kernel
theorem dL_law_1600 : decode cL_law 1600 = .ok (.ireturn, 1) := by decide +kernel
theorem dL_law_1601 : decode cL_law 1601 = .ok (.iload 6, 2) := by decide +kernel
theorem dL_law_1603 : decode cL_law 1603 = .ok (.ifCond .ne 15, 3) := by decide +kernel
theorem dL_law_1606 : decode cL_law 1606 = .ok (.aload_n 3, 1) := by decide +kernel
theorem dL_law_1607 : decode cL_law 1607 = .ok (.iconst 0, 1) := by decide +kernel
theorem dL_law_1608 : decode cL_law 1608 = .ok (.laload, 1) := by decide +kernel
theorem dL_law_1609 : decode cL_law 1609 = .ok (.iload 7, 2) := by decide +kernel
theorem dL_law_1611 : decode cL_law 1611 = .ok (.i2l, 1) := by decide +kernel
theorem dL_law_1612 : decode cL_law 1612 = .ok (.lcmp, 1) := by decide +kernel
theorem dL_law_1613 : decode cL_law 1613 = .ok (.ifCond .eq 5, 3) := by decide +kernel
theorem dL_law_1616 : decode cL_law 1616 = .ok (.iconst 0, 1) := by decide +kernel
theorem dL_law_1617 : decode cL_law 1617 = .ok (.ireturn, 1) := by decide +kernel
theorem dL_law_1618 : decode cL_law 1618 = .ok (.goto 464, 3) := by decide +kernel
theorem dL_law_1621 : decode cL_law 1621 = .ok (.aload_n 1, 1) := by decide +kernel
theorem dL_law_1622 : decode cL_law 1622 = .ok (.aload 4, 2) := by decide +kernel
theorem dL_law_1624 : decode cL_law 1624 = .ok (.invokestatic 218, 3) := by decide +kernel
theorem dL_law_1627 : decode cL_law 1627 = .ok (.istore 6, 2) := by decide +kernel
theorem dL_law_1629 : decode cL_law 1629 = .ok (.aload_n 2, 1) := by decide +kernel
theorem dL_law_1630 : decode cL_law 1630 = .ok (.invokevirtual 220, 3) := by decide +kernel
theorem dL_law_1633 : decode cL_law 1633 = .ok (.dstore 7, 2) := by decide +kernel
theorem dL_law_1635 : decode cL_law 1635 = .ok (.aload_n 2, 1) := by decide +kernel
theorem dL_law_1636 : decode cL_law 1636 = .ok (.invokevirtual 124, 3) := by decide +kernel
theorem dL_law_1639 : decode cL_law 1639 = .ok (.iload 6, 2) := by decide +kernel
theorem dL_law_1641 : decode cL_law 1641 = .ok (.if_icmp .eq 5, 3) := by decide +kernel
theorem dL_law_1644 : decode cL_law 1644 = .ok (.iconst 0, 1) := by decide +kernel
theorem dL_law_1645 : decode cL_law 1645 = .ok (.ireturn, 1) := by decide +kernel
theorem dL_law_1646 : decode cL_law 1646 = .ok (.iload 6, 2) := by decide +kernel
theorem dL_law_1648 : decode cL_law 1648 = .ok (.ifCond .ne 35, 3) := by decide +kernel
theorem dL_law_1651 : decode cL_law 1651 = .ok (.aload 4, 2) := by decide +kernel
theorem dL_law_1653 : decode cL_law 1653 = .ok (.iconst 0, 1) := by decide +kernel
theorem dL_law_1654 : decode cL_law 1654 = .ok (.daload, 1) := by decide +kernel
theorem dL_law_1655 : decode cL_law 1655 = .ok (.dload 7, 2) := by decide +kernel
theorem dL_law_1657 : decode cL_law 1657 = .ok (.dcmp .l, 1) := by decide +kernel
theorem dL_law_1658 : decode cL_law 1658 = .ok (.ifCond .eq 25, 3) := by decide +kernel
theorem dL_law_1661 : decode cL_law 1661 = .ok (.aload 4, 2) := by decide +kernel
theorem dL_law_1663 : decode cL_law 1663 = .ok (.iconst 0, 1) := by decide +kernel
theorem dL_law_1664 : decode cL_law 1664 = .ok (.daload, 1) := by decide +kernel
theorem dL_law_1665 : decode cL_law 1665 = .ok (.aload 4, 2) := by decide +kernel
theorem dL_law_1667 : decode cL_law 1667 = .ok (.iconst 0, 1) := by decide +kernel
theorem dL_law_1668 : decode cL_law 1668 = .ok (.daload, 1) := by decide +kernel
theorem dL_law_1669 : decode cL_law 1669 = .ok (.dcmp .l, 1) := by decide +kernel
theorem dL_law_1670 : decode cL_law 1670 = .ok (.ifCond .eq 11, 3) := by decide +kernel
theorem dL_law_1673 : decode cL_law 1673 = .ok (.dload 7, 2) := by decide +kernel
theorem dL_law_1675 : decode cL_law 1675 = .ok (.dload 7, 2) := by decide +kernel
theorem dL_law_1677 : decode cL_law 1677 = .ok (.dcmp .l, 1) := by decide +kernel
theorem dL_law_1678 : decode cL_law 1678 = .ok (.ifCond .ne 5, 3) := by decide +kernel
theorem dL_law_1681 : decode cL_law 1681 = .ok (.iconst 0, 1) := by decide +kernel
theorem dL_law_1682 : decode cL_law 1682 = .ok (.ireturn, 1) := by decide +kernel
theorem dL_law_1683 : decode cL_law 1683 = .ok (.goto 399, 3) := by decide +kernel
theorem dL_law_1686 : decode cL_law 1686 = .ok (.aload_n 1, 1) := by decide +kernel
theorem dL_law_1687 : decode cL_law 1687 = .ok (.aload_n 0, 1) := by decide +kernel
theorem dL_law_1688 : decode cL_law 1688 = .ok (.iload 5, 2) := by decide +kernel
theorem dL_law_1690 : decode cL_law 1690 = .ok (.iconst 1, 1) := by decide +kernel
theorem dL_law_1691 : decode cL_law 1691 = .ok (.iadd, 1) := by decide +kernel
theorem dL_law_1692 : decode cL_law 1692 = .ok (.iaload, 1) := by decide +kernel
theorem dL_law_1693 : decode cL_law 1693 = .ok (.aload_n 0, 1) := by decide +kernel
theorem dL_law_1694 : decode cL_law 1694 = .ok (.iload 5, 2) := by decide +kernel
theorem dL_law_1696 : decode cL_law 1696 = .ok (.iconst 2, 1) := by decide +kernel
theorem dL_law_1697 : decode cL_law 1697 = .ok (.iadd, 1) := by decide +kernel
theorem dL_law_1698 : decode cL_law 1698 = .ok (.iaload, 1) := by decide +kernel
theorem dL_law_1699 : decode cL_law 1699 = .ok (.aload_n 3, 1) := by decide +kernel
theorem dL_law_1700 : decode cL_law 1700 = .ok (.invokestatic 221, 3) := by decide +kernel
theorem dL_law_1703 : decode cL_law 1703 = .ok (.istore 6, 2) := by decide +kernel
theorem dL_law_1705 : decode cL_law 1705 = .ok (.aload_n 2, 1) := by decide +kernel
theorem dL_law_1706 : decode cL_law 1706 = .ok (.aload_n 0, 1) := by decide +kernel
theorem dL_law_1707 : decode cL_law 1707 = .ok (.iload 5, 2) := by decide +kernel
theorem dL_law_1709 : decode cL_law 1709 = .ok (.iconst 1, 1) := by decide +kernel
theorem dL_law_1710 : decode cL_law 1710 = .ok (.iadd, 1) := by decide +kernel
theorem dL_law_1711 : decode cL_law 1711 = .ok (.iaload, 1) := by decide +kernel
theorem dL_law_1712 : decode cL_law 1712 = .ok (.aload_n 0, 1) := by decide +kernel
theorem dL_law_1713 : decode cL_law 1713 = .ok (.iload 5, 2) := by decide +kernel
theorem dL_law_1715 : decode cL_law 1715 = .ok (.iconst 2, 1) := by decide +kernel
theorem dL_law_1716 : decode cL_law 1716 = .ok (.iadd, 1) := by decide +kernel
theorem dL_law_1717 : decode cL_law 1717 = .ok (.iaload, 1) := by decide +kernel
theorem dL_law_1718 : decode cL_law 1718 = .ok (.invokevirtual 223, 3) := by decide +kernel
theorem dL_law_1721 : decode cL_law 1721 = .ok (.istore 7, 2) := by decide +kernel
theorem dL_law_1723 : decode cL_law 1723 = .ok (.aload_n 2, 1) := by decide +kernel
theorem dL_law_1724 : decode cL_law 1724 = .ok (.invokevirtual 124, 3) := by decide +kernel
theorem dL_law_1727 : decode cL_law 1727 = .ok (.iload 6, 2) := by decide +kernel
theorem dL_law_1729 : decode cL_law 1729 = .ok (.if_icmp .eq 5, 3) := by decide +kernel
theorem dL_law_1732 : decode cL_law 1732 = .ok (.iconst 0, 1) := by decide +kernel
theorem dL_law_1733 : decode cL_law 1733 = .ok (.ireturn, 1) := by decide +kernel
theorem dL_law_1734 : decode cL_law 1734 = .ok (.iload 6, 2) := by decide +kernel
theorem dL_law_1736 : decode cL_law 1736 = .ok (.ifCond .ne 15, 3) := by decide +kernel
theorem dL_law_1739 : decode cL_law 1739 = .ok (.aload_n 3, 1) := by decide +kernel
theorem dL_law_1740 : decode cL_law 1740 = .ok (.iconst 0, 1) := by decide +kernel
theorem dL_law_1741 : decode cL_law 1741 = .ok (.laload, 1) := by decide +kernel
theorem dL_law_1742 : decode cL_law 1742 = .ok (.iload 7, 2) := by decide +kernel
theorem dL_law_1744 : decode cL_law 1744 = .ok (.i2l, 1) := by decide +kernel
theorem dL_law_1745 : decode cL_law 1745 = .ok (.lcmp, 1) := by decide +kernel
theorem dL_law_1746 : decode cL_law 1746 = .ok (.ifCond .eq 5, 3) := by decide +kernel
theorem dL_law_1749 : decode cL_law 1749 = .ok (.iconst 0, 1) := by decide +kernel
theorem dL_law_1750 : decode cL_law 1750 = .ok (.ireturn, 1) := by decide +kernel
theorem dL_law_1751 : decode cL_law 1751 = .ok (.goto 331, 3) := by decide +kernel
theorem dL_law_1754 : decode cL_law 1754 = .ok (.aload_n 1, 1) := by decide +kernel
theorem dL_law_1755 : decode cL_law 1755 = .ok (.aload_n 0, 1) := by decide +kernel
theorem dL_law_1756 : decode cL_law 1756 = .ok (.iload 5, 2) := by decide +kernel
theorem dL_law_1758 : decode cL_law 1758 = .ok (.iconst 1, 1) := by decide +kernel
theorem dL_law_1759 : decode cL_law 1759 = .ok (.iadd, 1) := by decide +kernel
theorem dL_law_1760 : decode cL_law 1760 = .ok (.iaload, 1) := by decide +kernel
theorem dL_law_1761 : decode cL_law 1761 = .ok (.aload_n 0, 1) := by decide +kernel
theorem dL_law_1762 : decode cL_law 1762 = .ok (.iload 5, 2) := by decide +kernel
theorem dL_law_1764 : decode cL_law 1764 = .ok (.iconst 2, 1) := by decide +kernel
theorem dL_law_1765 : decode cL_law 1765 = .ok (.iadd, 1) := by decide +kernel
theorem dL_law_1766 : decode cL_law 1766 = .ok (.iaload, 1) := by decide +kernel
theorem dL_law_1767 : decode cL_law 1767 = .ok (.aload_n 0, 1) := by decide +kernel
theorem dL_law_1768 : decode cL_law 1768 = .ok (.iload 5, 2) := by decide +kernel
theorem dL_law_1770 : decode cL_law 1770 = .ok (.iconst 3, 1) := by decide +kernel
theorem dL_law_1771 : decode cL_law 1771 = .ok (.iadd, 1) := by decide +kernel
theorem dL_law_1772 : decode cL_law 1772 = .ok (.iaload, 1) := by decide +kernel
theorem dL_law_1773 : decode cL_law 1773 = .ok (.aload_n 3, 1) := by decide +kernel
theorem dL_law_1774 : decode cL_law 1774 = .ok (.invokestatic 224, 3) := by decide +kernel
theorem dL_law_1777 : decode cL_law 1777 = .ok (.istore 6, 2) := by decide +kernel
theorem dL_law_1779 : decode cL_law 1779 = .ok (.aload_n 2, 1) := by decide +kernel
theorem dL_law_1780 : decode cL_law 1780 = .ok (.aload_n 0, 1) := by decide +kernel
theorem dL_law_1781 : decode cL_law 1781 = .ok (.iload 5, 2) := by decide +kernel
theorem dL_law_1783 : decode cL_law 1783 = .ok (.iconst 1, 1) := by decide +kernel
theorem dL_law_1784 : decode cL_law 1784 = .ok (.iadd, 1) := by decide +kernel
theorem dL_law_1785 : decode cL_law 1785 = .ok (.iaload, 1) := by decide +kernel
theorem dL_law_1786 : decode cL_law 1786 = .ok (.aload_n 0, 1) := by decide +kernel
theorem dL_law_1787 : decode cL_law 1787 = .ok (.iload 5, 2) := by decide +kernel
theorem dL_law_1789 : decode cL_law 1789 = .ok (.iconst 2, 1) := by decide +kernel
theorem dL_law_1790 : decode cL_law 1790 = .ok (.iadd, 1) := by decide +kernel
theorem dL_law_1791 : decode cL_law 1791 = .ok (.iaload, 1) := by decide +kernel
theorem dL_law_1792 : decode cL_law 1792 = .ok (.aload_n 0, 1) := by decide +kernel
theorem dL_law_1793 : decode cL_law 1793 = .ok (.iload 5, 2) := by decide +kernel
theorem dL_law_1795 : decode cL_law 1795 = .ok (.iconst 3, 1) := by decide +kernel
theorem dL_law_1796 : decode cL_law 1796 = .ok (.iadd, 1) := by decide +kernel
theorem dL_law_1797 : decode cL_law 1797 = .ok (.iaload, 1) := by decide +kernel
theorem dL_law_1798 : decode cL_law 1798 = .ok (.invokevirtual 226, 3) := by decide +kernel
theorem dL_law_1801 : decode cL_law 1801 = .ok (.istore 7, 2) := by decide +kernel
theorem dL_law_1803 : decode cL_law 1803 = .ok (.aload_n 2, 1) := by decide +kernel
theorem dL_law_1804 : decode cL_law 1804 = .ok (.invokevirtual 124, 3) := by decide +kernel
theorem dL_law_1807 : decode cL_law 1807 = .ok (.iload 6, 2) := by decide +kernel
theorem dL_law_1809 : decode cL_law 1809 = .ok (.if_icmp .eq 5, 3) := by decide +kernel
theorem dL_law_1812 : decode cL_law 1812 = .ok (.iconst 0, 1) := by decide +kernel
theorem dL_law_1813 : decode cL_law 1813 = .ok (.ireturn, 1) := by decide +kernel
theorem dL_law_1814 : decode cL_law 1814 = .ok (.iload 6, 2) := by decide +kernel
theorem dL_law_1816 : decode cL_law 1816 = .ok (.ifCond .ne 15, 3) := by decide +kernel
theorem dL_law_1819 : decode cL_law 1819 = .ok (.aload_n 3, 1) := by decide +kernel
theorem dL_law_1820 : decode cL_law 1820 = .ok (.iconst 0, 1) := by decide +kernel
theorem dL_law_1821 : decode cL_law 1821 = .ok (.laload, 1) := by decide +kernel
theorem dL_law_1822 : decode cL_law 1822 = .ok (.iload 7, 2) := by decide +kernel
theorem dL_law_1824 : decode cL_law 1824 = .ok (.i2l, 1) := by decide +kernel
theorem dL_law_1825 : decode cL_law 1825 = .ok (.lcmp, 1) := by decide +kernel
theorem dL_law_1826 : decode cL_law 1826 = .ok (.ifCond .eq 5, 3) := by decide +kernel
theorem dL_law_1829 : decode cL_law 1829 = .ok (.iconst 0, 1) := by decide +kernel
theorem dL_law_1830 : decode cL_law 1830 = .ok (.ireturn, 1) := by decide +kernel
theorem dL_law_1831 : decode cL_law 1831 = .ok (.goto 251, 3) := by decide +kernel
theorem dL_law_1834 : decode cL_law 1834 = .ok (.aload_n 1, 1) := by decide +kernel
theorem dL_law_1835 : decode cL_law 1835 = .ok (.aload_n 0, 1) := by decide +kernel
theorem dL_law_1836 : decode cL_law 1836 = .ok (.iload 5, 2) := by decide +kernel
theorem dL_law_1838 : decode cL_law 1838 = .ok (.iconst 1, 1) := by decide +kernel
theorem dL_law_1839 : decode cL_law 1839 = .ok (.iadd, 1) := by decide +kernel
theorem dL_law_1840 : decode cL_law 1840 = .ok (.iaload, 1) := by decide +kernel
theorem dL_law_1841 : decode cL_law 1841 = .ok (.aload_n 0, 1) := by decide +kernel
theorem dL_law_1842 : decode cL_law 1842 = .ok (.iload 5, 2) := by decide +kernel
theorem dL_law_1844 : decode cL_law 1844 = .ok (.iconst 2, 1) := by decide +kernel
theorem dL_law_1845 : decode cL_law 1845 = .ok (.iadd, 1) := by decide +kernel
theorem dL_law_1846 : decode cL_law 1846 = .ok (.iaload, 1) := by decide +kernel
theorem dL_law_1847 : decode cL_law 1847 = .ok (.aload_n 3, 1) := by decide +kernel
theorem dL_law_1848 : decode cL_law 1848 = .ok (.invokestatic 227, 3) := by decide +kernel
theorem dL_law_1851 : decode cL_law 1851 = .ok (.istore 6, 2) := by decide +kernel
theorem dL_law_1853 : decode cL_law 1853 = .ok (.aload_n 2, 1) := by decide +kernel
theorem dL_law_1854 : decode cL_law 1854 = .ok (.aload_n 0, 1) := by decide +kernel
theorem dL_law_1855 : decode cL_law 1855 = .ok (.iload 5, 2) := by decide +kernel
theorem dL_law_1857 : decode cL_law 1857 = .ok (.iconst 1, 1) := by decide +kernel
theorem dL_law_1858 : decode cL_law 1858 = .ok (.iadd, 1) := by decide +kernel
theorem dL_law_1859 : decode cL_law 1859 = .ok (.iaload, 1) := by decide +kernel
theorem dL_law_1860 : decode cL_law 1860 = .ok (.aload_n 0, 1) := by decide +kernel
theorem dL_law_1861 : decode cL_law 1861 = .ok (.iload 5, 2) := by decide +kernel
theorem dL_law_1863 : decode cL_law 1863 = .ok (.iconst 2, 1) := by decide +kernel
theorem dL_law_1864 : decode cL_law 1864 = .ok (.iadd, 1) := by decide +kernel
theorem dL_law_1865 : decode cL_law 1865 = .ok (.iaload, 1) := by decide +kernel
theorem dL_law_1866 : decode cL_law 1866 = .ok (.invokevirtual 229, 3) := by decide +kernel
theorem dL_law_1869 : decode cL_law 1869 = .ok (.istore 7, 2) := by decide +kernel
theorem dL_law_1871 : decode cL_law 1871 = .ok (.aload_n 2, 1) := by decide +kernel
theorem dL_law_1872 : decode cL_law 1872 = .ok (.invokevirtual 124, 3) := by decide +kernel
theorem dL_law_1875 : decode cL_law 1875 = .ok (.iload 6, 2) := by decide +kernel
theorem dL_law_1877 : decode cL_law 1877 = .ok (.if_icmp .eq 5, 3) := by decide +kernel
theorem dL_law_1880 : decode cL_law 1880 = .ok (.iconst 0, 1) := by decide +kernel
theorem dL_law_1881 : decode cL_law 1881 = .ok (.ireturn, 1) := by decide +kernel
theorem dL_law_1882 : decode cL_law 1882 = .ok (.iload 6, 2) := by decide +kernel
theorem dL_law_1884 : decode cL_law 1884 = .ok (.ifCond .ne 15, 3) := by decide +kernel
theorem dL_law_1887 : decode cL_law 1887 = .ok (.aload_n 3, 1) := by decide +kernel
theorem dL_law_1888 : decode cL_law 1888 = .ok (.iconst 0, 1) := by decide +kernel
theorem dL_law_1889 : decode cL_law 1889 = .ok (.laload, 1) := by decide +kernel
theorem dL_law_1890 : decode cL_law 1890 = .ok (.iload 7, 2) := by decide +kernel
theorem dL_law_1892 : decode cL_law 1892 = .ok (.i2l, 1) := by decide +kernel
theorem dL_law_1893 : decode cL_law 1893 = .ok (.lcmp, 1) := by decide +kernel
theorem dL_law_1894 : decode cL_law 1894 = .ok (.ifCond .eq 5, 3) := by decide +kernel
theorem dL_law_1897 : decode cL_law 1897 = .ok (.iconst 0, 1) := by decide +kernel
theorem dL_law_1898 : decode cL_law 1898 = .ok (.ireturn, 1) := by decide +kernel
theorem dL_law_1899 : decode cL_law 1899 = .ok (.goto 183, 3) := by decide +kernel
theorem dL_law_1902 : decode cL_law 1902 = .ok (.aload_n 1, 1) := by decide +kernel
theorem dL_law_1903 : decode cL_law 1903 = .ok (.aload_n 3, 1) := by decide +kernel
theorem dL_law_1904 : decode cL_law 1904 = .ok (.invokestatic 230, 3) := by decide +kernel
theorem dL_law_1907 : decode cL_law 1907 = .ok (.istore 6, 2) := by decide +kernel
theorem dL_law_1909 : decode cL_law 1909 = .ok (.aload_n 2, 1) := by decide +kernel
theorem dL_law_1910 : decode cL_law 1910 = .ok (.invokevirtual 232, 3) := by decide +kernel
theorem dL_law_1913 : decode cL_law 1913 = .ok (.istore 7, 2) := by decide +kernel
theorem dL_law_1915 : decode cL_law 1915 = .ok (.aload_n 2, 1) := by decide +kernel
theorem dL_law_1916 : decode cL_law 1916 = .ok (.invokevirtual 124, 3) := by decide +kernel
theorem dL_law_1919 : decode cL_law 1919 = .ok (.iload 6, 2) := by decide +kernel
theorem dL_law_1921 : decode cL_law 1921 = .ok (.if_icmp .eq 5, 3) := by decide +kernel
theorem dL_law_1924 : decode cL_law 1924 = .ok (.iconst 0, 1) := by decide +kernel
theorem dL_law_1925 : decode cL_law 1925 = .ok (.ireturn, 1) := by decide +kernel
theorem dL_law_1926 : decode cL_law 1926 = .ok (.iload 6, 2) := by decide +kernel
theorem dL_law_1928 : decode cL_law 1928 = .ok (.ifCond .ne 15, 3) := by decide +kernel
theorem dL_law_1931 : decode cL_law 1931 = .ok (.aload_n 3, 1) := by decide +kernel
theorem dL_law_1932 : decode cL_law 1932 = .ok (.iconst 0, 1) := by decide +kernel
theorem dL_law_1933 : decode cL_law 1933 = .ok (.laload, 1) := by decide +kernel
theorem dL_law_1934 : decode cL_law 1934 = .ok (.iload 7, 2) := by decide +kernel
theorem dL_law_1936 : decode cL_law 1936 = .ok (.i2l, 1) := by decide +kernel
theorem dL_law_1937 : decode cL_law 1937 = .ok (.lcmp, 1) := by decide +kernel
theorem dL_law_1938 : decode cL_law 1938 = .ok (.ifCond .eq 5, 3) := by decide +kernel
theorem dL_law_1941 : decode cL_law 1941 = .ok (.iconst 0, 1) := by decide +kernel
theorem dL_law_1942 : decode cL_law 1942 = .ok (.ireturn, 1) := by decide +kernel
theorem dL_law_1943 : decode cL_law 1943 = .ok (.goto 139, 3) := by decide +kernel
theorem dL_law_1946 : decode cL_law 1946 = .ok (.aload_n 1, 1) := by decide +kernel
theorem dL_law_1947 : decode cL_law 1947 = .ok (.invokevirtual 233, 3) := by decide +kernel
theorem dL_law_1950 : decode cL_law 1950 = .ok (.aload_n 2, 1) := by decide +kernel
theorem dL_law_1951 : decode cL_law 1951 = .ok (.invokevirtual 236, 3) := by decide +kernel
theorem dL_law_1954 : decode cL_law 1954 = .ok (.if_icmp .eq 128, 3) := by decide +kernel
theorem dL_law_1957 : decode cL_law 1957 = .ok (.iconst 0, 1) := by decide +kernel
theorem dL_law_1958 : decode cL_law 1958 = .ok (.ireturn, 1) := by decide +kernel
theorem dL_law_1959 : decode cL_law 1959 = .ok (.aload_n 1, 1) := by decide +kernel
theorem dL_law_1960 : decode cL_law 1960 = .ok (.aload_n 0, 1) := by decide +kernel
theorem dL_law_1961 : decode cL_law 1961 = .ok (.iload 5, 2) := by decide +kernel
theorem dL_law_1963 : decode cL_law 1963 = .ok (.iconst 1, 1) := by decide +kernel
theorem dL_law_1964 : decode cL_law 1964 = .ok (.iadd, 1) := by decide +kernel
theorem dL_law_1965 : decode cL_law 1965 = .ok (.iaload, 1) := by decide +kernel
theorem dL_law_1966 : decode cL_law 1966 = .ok (.aload_n 0, 1) := by decide +kernel
theorem dL_law_1967 : decode cL_law 1967 = .ok (.iload 5, 2) := by decide +kernel
theorem dL_law_1969 : decode cL_law 1969 = .ok (.iconst 2, 1) := by decide +kernel
theorem dL_law_1970 : decode cL_law 1970 = .ok (.iadd, 1) := by decide +kernel
theorem dL_law_1971 : decode cL_law 1971 = .ok (.iaload, 1) := by decide +kernel
theorem dL_law_1972 : decode cL_law 1972 = .ok (.aload_n 3, 1) := by decide +kernel
theorem dL_law_1973 : decode cL_law 1973 = .ok (.invokestatic 237, 3) := by decide +kernel
theorem dL_law_1976 : decode cL_law 1976 = .ok (.istore 6, 2) := by decide +kernel
theorem dL_law_1978 : decode cL_law 1978 = .ok (.aload_n 2, 1) := by decide +kernel
theorem dL_law_1979 : decode cL_law 1979 = .ok (.aload_n 0, 1) := by decide +kernel
theorem dL_law_1980 : decode cL_law 1980 = .ok (.iload 5, 2) := by decide +kernel
theorem dL_law_1982 : decode cL_law 1982 = .ok (.iconst 1, 1) := by decide +kernel
theorem dL_law_1983 : decode cL_law 1983 = .ok (.iadd, 1) := by decide +kernel
theorem dL_law_1984 : decode cL_law 1984 = .ok (.iaload, 1) := by decide +kernel
theorem dL_law_1985 : decode cL_law 1985 = .ok (.aload_n 0, 1) := by decide +kernel
theorem dL_law_1986 : decode cL_law 1986 = .ok (.iload 5, 2) := by decide +kernel
theorem dL_law_1988 : decode cL_law 1988 = .ok (.iconst 2, 1) := by decide +kernel
theorem dL_law_1989 : decode cL_law 1989 = .ok (.iadd, 1) := by decide +kernel
theorem dL_law_1990 : decode cL_law 1990 = .ok (.iaload, 1) := by decide +kernel
theorem dL_law_1991 : decode cL_law 1991 = .ok (.invokevirtual 239, 3) := by decide +kernel
theorem dL_law_1994 : decode cL_law 1994 = .ok (.istore 7, 2) := by decide +kernel
theorem dL_law_1996 : decode cL_law 1996 = .ok (.aload_n 2, 1) := by decide +kernel
theorem dL_law_1997 : decode cL_law 1997 = .ok (.invokevirtual 124, 3) := by decide +kernel
theorem dL_law_2000 : decode cL_law 2000 = .ok (.iload 6, 2) := by decide +kernel
theorem dL_law_2002 : decode cL_law 2002 = .ok (.if_icmp .eq 5, 3) := by decide +kernel
theorem dL_law_2005 : decode cL_law 2005 = .ok (.iconst 0, 1) := by decide +kernel
theorem dL_law_2006 : decode cL_law 2006 = .ok (.ireturn, 1) := by decide +kernel
theorem dL_law_2007 : decode cL_law 2007 = .ok (.iload 6, 2) := by decide +kernel
theorem dL_law_2009 : decode cL_law 2009 = .ok (.ifCond .ne 15, 3) := by decide +kernel
theorem dL_law_2012 : decode cL_law 2012 = .ok (.aload_n 3, 1) := by decide +kernel
theorem dL_law_2013 : decode cL_law 2013 = .ok (.iconst 0, 1) := by decide +kernel
theorem dL_law_2014 : decode cL_law 2014 = .ok (.laload, 1) := by decide +kernel
theorem dL_law_2015 : decode cL_law 2015 = .ok (.iload 7, 2) := by decide +kernel
theorem dL_law_2017 : decode cL_law 2017 = .ok (.i2l, 1) := by decide +kernel
theorem dL_law_2018 : decode cL_law 2018 = .ok (.lcmp, 1) := by decide +kernel
theorem dL_law_2019 : decode cL_law 2019 = .ok (.ifCond .eq 5, 3) := by decide +kernel
theorem dL_law_2022 : decode cL_law 2022 = .ok (.iconst 0, 1) := by decide +kernel
theorem dL_law_2023 : decode cL_law 2023 = .ok (.ireturn, 1) := by decide +kernel
theorem dL_law_2024 : decode cL_law 2024 = .ok (.goto 58, 3) := by decide +kernel
theorem dL_law_2027 : decode cL_law 2027 = .ok (.aload_n 1, 1) := by decide +kernel
theorem dL_law_2028 : decode cL_law 2028 = .ok (.invokevirtual 240, 3) := by decide +kernel
theorem dL_law_2031 : decode cL_law 2031 = .ok (.aload_n 2, 1) := by decide +kernel
theorem dL_law_2032 : decode cL_law 2032 = .ok (.invokevirtual 243, 3) := by decide +kernel
theorem dL_law_2035 : decode cL_law 2035 = .ok (.goto 47, 3) := by decide +kernel
theorem dL_law_2038 : decode cL_law 2038 = .ok (.aload_n 1, 1) := by decide +kernel
theorem dL_law_2039 : decode cL_law 2039 = .ok (.aload_n 3, 1) := by decide +kernel
theorem dL_law_2040 : decode cL_law 2040 = .ok (.invokestatic 244, 3) := by decide +kernel
theorem dL_law_2043 : decode cL_law 2043 = .ok (.istore 6, 2) := by decide +kernel
theorem dL_law_2045 : decode cL_law 2045 = .ok (.aload_n 2, 1) := by decide +kernel
theorem dL_law_2046 : decode cL_law 2046 = .ok (.invokevirtual 246, 3) := by decide +kernel
theorem dL_law_2049 : decode cL_law 2049 = .ok (.istore 7, 2) := by decide +kernel
theorem dL_law_2051 : decode cL_law 2051 = .ok (.aload_n 2, 1) := by decide +kernel
theorem dL_law_2052 : decode cL_law 2052 = .ok (.invokevirtual 124, 3) := by decide +kernel
theorem dL_law_2055 : decode cL_law 2055 = .ok (.iload 6, 2) := by decide +kernel
theorem dL_law_2057 : decode cL_law 2057 = .ok (.if_icmp .eq 5, 3) := by decide +kernel
theorem dL_law_2060 : decode cL_law 2060 = .ok (.iconst 0, 1) := by decide +kernel
theorem dL_law_2061 : decode cL_law 2061 = .ok (.ireturn, 1) := by decide +kernel
theorem dL_law_2062 : decode cL_law 2062 = .ok (.iload 6, 2) := by decide +kernel
theorem dL_law_2064 : decode cL_law 2064 = .ok (.ifCond .ne 15, 3) := by decide +kernel
theorem dL_law_2067 : decode cL_law 2067 = .ok (.aload_n 3, 1) := by decide +kernel
theorem dL_law_2068 : decode cL_law 2068 = .ok (.iconst 0, 1) := by decide +kernel
theorem dL_law_2069 : decode cL_law 2069 = .ok (.laload, 1) := by decide +kernel
theorem dL_law_2070 : decode cL_law 2070 = .ok (.iload 7, 2) := by decide +kernel
theorem dL_law_2072 : decode cL_law 2072 = .ok (.i2l, 1) := by decide +kernel
theorem dL_law_2073 : decode cL_law 2073 = .ok (.lcmp, 1) := by decide +kernel
theorem dL_law_2074 : decode cL_law 2074 = .ok (.ifCond .eq 5, 3) := by decide +kernel
theorem dL_law_2077 : decode cL_law 2077 = .ok (.iconst 0, 1) := by decide +kernel
theorem dL_law_2078 : decode cL_law 2078 = .ok (.ireturn, 1) := by decide +kernel
theorem dL_law_2079 : decode cL_law 2079 = .ok (.goto 3, 3) := by decide +kernel
theorem dL_law_2082 : decode cL_law 2082 = .ok (.iinc 5 5, 3) := by decide +kernel
theorem dL_law_2085 : decode cL_law 2085 = .ok (.goto (-2057), 3) := by decide +kernel
theorem dL_law_2088 : decode cL_law 2088 = .ok (.iconst 1, 1) := by decide +kernel
theorem dL_law_2089 : decode cL_law 2089 = .ok (.ireturn, 1) := by decide +kernel
end
section
theorem zz_last : True := trivial
end
