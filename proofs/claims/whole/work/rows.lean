section
-- ===== PART A: goes FIRST, ahead of the names: the tables' words, and 'selects' of the private methods out of them =====
/-- a private method of a class that the tables say can be made, by its rows of tables_1 -/
def lw_okq (q : MethodName × Nat) : Prop := (q.1.cls ≠ "java/lang/invoke/MethodHandle" ∧ q.1.cls ≠ "java/lang/invoke/VarHandle") ∧ Cond.instantiable q.1.cls q.2 ∈ tables_1 ∧ Cond.privateMethod q.1 ∈ tables_1 ∧ Cond.instanceMethod q.1 ∈ tables_1
theorem lw_p0 : lw_okq (⟨"DeadlineBench$Task", "enter", "(IIII)V"⟩, 12) := ⟨⟨by decide +kernel, by decide +kernel⟩, List.mem_of_getElem? (i := 30) (by decide +kernel), List.mem_of_getElem? (i := 202) (by decide +kernel), List.mem_of_getElem? (i := 203) (by decide +kernel)⟩
theorem lw_p1 : lw_okq (⟨"DeadlineBench", "isLive", "(I)Z"⟩, 8) := ⟨⟨by decide +kernel, by decide +kernel⟩, List.mem_of_getElem? (i := 12) (by decide +kernel), List.mem_of_getElem? (i := 210) (by decide +kernel), List.mem_of_getElem? (i := 211) (by decide +kernel)⟩
theorem lw_p2 : lw_okq (⟨"DeadlineBench", "isLock", "(I)Z"⟩, 8) := ⟨⟨by decide +kernel, by decide +kernel⟩, List.mem_of_getElem? (i := 12) (by decide +kernel), List.mem_of_getElem? (i := 214) (by decide +kernel), List.mem_of_getElem? (i := 215) (by decide +kernel)⟩
theorem lw_p3 : lw_okq (⟨"DeadlineBench$SectionList", "insert", "(LDeadlineBench$Section;)Z"⟩, 2) := ⟨⟨by decide +kernel, by decide +kernel⟩, List.mem_of_getElem? (i := 123) (by decide +kernel), List.mem_of_getElem? (i := 245) (by decide +kernel), List.mem_of_getElem? (i := 246) (by decide +kernel)⟩
theorem lw_p4 : lw_okq (⟨"DeadlineBench$SectionList", "clashes", "(LDeadlineBench$Section;)Z"⟩, 2) := ⟨⟨by decide +kernel, by decide +kernel⟩, List.mem_of_getElem? (i := 123) (by decide +kernel), List.mem_of_getElem? (i := 249) (by decide +kernel), List.mem_of_getElem? (i := 250) (by decide +kernel)⟩
theorem lw_p5 : lw_okq (⟨"DeadlineBench$Section", "clashesWith", "(LDeadlineBench$Section;)Z"⟩, 5) := ⟨⟨by decide +kernel, by decide +kernel⟩, List.mem_of_getElem? (i := 218) (by decide +kernel), List.mem_of_getElem? (i := 253) (by decide +kernel), List.mem_of_getElem? (i := 254) (by decide +kernel)⟩
theorem lw_p6 : lw_okq (⟨"DeadlineBench$Section", "covers", "(LDeadlineBench$Section;)Z"⟩, 5) := ⟨⟨by decide +kernel, by decide +kernel⟩, List.mem_of_getElem? (i := 218) (by decide +kernel), List.mem_of_getElem? (i := 257) (by decide +kernel), List.mem_of_getElem? (i := 258) (by decide +kernel)⟩
theorem lw_p7 : lw_okq (⟨"DeadlineBench$Section", "goesBefore", "(LDeadlineBench$Section;)Z"⟩, 5) := ⟨⟨by decide +kernel, by decide +kernel⟩, List.mem_of_getElem? (i := 218) (by decide +kernel), List.mem_of_getElem? (i := 261) (by decide +kernel), List.mem_of_getElem? (i := 262) (by decide +kernel)⟩
theorem lw_p8 : lw_okq (⟨"DeadlineBench", "dropJob", "(I)V"⟩, 8) := ⟨⟨by decide +kernel, by decide +kernel⟩, List.mem_of_getElem? (i := 12) (by decide +kernel), List.mem_of_getElem? (i := 269) (by decide +kernel), List.mem_of_getElem? (i := 270) (by decide +kernel)⟩
theorem lw_p9 : lw_okq (⟨"DeadlineBench", "letGo", "(I)V"⟩, 8) := ⟨⟨by decide +kernel, by decide +kernel⟩, List.mem_of_getElem? (i := 12) (by decide +kernel), List.mem_of_getElem? (i := 273) (by decide +kernel), List.mem_of_getElem? (i := 274) (by decide +kernel)⟩
theorem lw_p10 : lw_okq (⟨"DeadlineBench", "inheritDeadlines", "()V"⟩, 8) := ⟨⟨by decide +kernel, by decide +kernel⟩, List.mem_of_getElem? (i := 12) (by decide +kernel), List.mem_of_getElem? (i := 277) (by decide +kernel), List.mem_of_getElem? (i := 278) (by decide +kernel)⟩
theorem lw_p11 : lw_okq (⟨"DeadlineBench", "holderAwaitedBy", "(I)I"⟩, 8) := ⟨⟨by decide +kernel, by decide +kernel⟩, List.mem_of_getElem? (i := 12) (by decide +kernel), List.mem_of_getElem? (i := 281) (by decide +kernel), List.mem_of_getElem? (i := 282) (by decide +kernel)⟩
theorem lw_p12 : lw_okq (⟨"DeadlineBench", "aheadOfAll", "(I)I"⟩, 8) := ⟨⟨by decide +kernel, by decide +kernel⟩, List.mem_of_getElem? (i := 12) (by decide +kernel), List.mem_of_getElem? (i := 285) (by decide +kernel), List.mem_of_getElem? (i := 286) (by decide +kernel)⟩
theorem lw_p13 : lw_okq (⟨"DeadlineBench$SectionList", "removeAllOf", "(I)V"⟩, 2) := ⟨⟨by decide +kernel, by decide +kernel⟩, List.mem_of_getElem? (i := 123) (by decide +kernel), List.mem_of_getElem? (i := 289) (by decide +kernel), List.mem_of_getElem? (i := 290) (by decide +kernel)⟩
theorem lw_p14 : lw_okq (⟨"DeadlineBench", "demandAt", "(I)J"⟩, 8) := ⟨⟨by decide +kernel, by decide +kernel⟩, List.mem_of_getElem? (i := 12) (by decide +kernel), List.mem_of_getElem? (i := 297) (by decide +kernel), List.mem_of_getElem? (i := 298) (by decide +kernel)⟩
theorem lw_p15 : lw_okq (⟨"DeadlineBench", "passTick", "()I"⟩, 8) := ⟨⟨by decide +kernel, by decide +kernel⟩, List.mem_of_getElem? (i := 12) (by decide +kernel), List.mem_of_getElem? (i := 305) (by decide +kernel), List.mem_of_getElem? (i := 306) (by decide +kernel)⟩
def lw_privs_1 : List (MethodName × Nat) := [(⟨"DeadlineBench$Task", "enter", "(IIII)V"⟩, 12), (⟨"DeadlineBench", "isLive", "(I)Z"⟩, 8), (⟨"DeadlineBench", "isLock", "(I)Z"⟩, 8), (⟨"DeadlineBench$SectionList", "insert", "(LDeadlineBench$Section;)Z"⟩, 2), (⟨"DeadlineBench$SectionList", "clashes", "(LDeadlineBench$Section;)Z"⟩, 2), (⟨"DeadlineBench$Section", "clashesWith", "(LDeadlineBench$Section;)Z"⟩, 5), (⟨"DeadlineBench$Section", "covers", "(LDeadlineBench$Section;)Z"⟩, 5), (⟨"DeadlineBench$Section", "goesBefore", "(LDeadlineBench$Section;)Z"⟩, 5), (⟨"DeadlineBench", "dropJob", "(I)V"⟩, 8), (⟨"DeadlineBench", "letGo", "(I)V"⟩, 8), (⟨"DeadlineBench", "inheritDeadlines", "()V"⟩, 8), (⟨"DeadlineBench", "holderAwaitedBy", "(I)I"⟩, 8), (⟨"DeadlineBench", "aheadOfAll", "(I)I"⟩, 8), (⟨"DeadlineBench$SectionList", "removeAllOf", "(I)V"⟩, 2), (⟨"DeadlineBench", "demandAt", "(I)J"⟩, 8), (⟨"DeadlineBench", "passTick", "()I"⟩, 8)]
theorem lw_r1 : ∀ q ∈ lw_privs_1, lw_okq q := List.forall_mem_cons.mpr ⟨lw_p0, List.forall_mem_cons.mpr ⟨lw_p1, List.forall_mem_cons.mpr ⟨lw_p2, List.forall_mem_cons.mpr ⟨lw_p3, List.forall_mem_cons.mpr ⟨lw_p4, List.forall_mem_cons.mpr ⟨lw_p5, List.forall_mem_cons.mpr ⟨lw_p6, List.forall_mem_cons.mpr ⟨lw_p7, List.forall_mem_cons.mpr ⟨lw_p8, List.forall_mem_cons.mpr ⟨lw_p9, List.forall_mem_cons.mpr ⟨lw_p10, List.forall_mem_cons.mpr ⟨lw_p11, List.forall_mem_cons.mpr ⟨lw_p12, List.forall_mem_cons.mpr ⟨lw_p13, List.forall_mem_cons.mpr ⟨lw_p14, List.forall_mem_cons.mpr ⟨lw_p15, fun _ h => absurd h List.not_mem_nil⟩⟩⟩⟩⟩⟩⟩⟩⟩⟩⟩⟩⟩⟩⟩⟩
theorem lw_p16 : lw_okq (⟨"DeadlineBench", "dropLateJobs", "()V"⟩, 8) := ⟨⟨by decide +kernel, by decide +kernel⟩, List.mem_of_getElem? (i := 12) (by decide +kernel), List.mem_of_getElem? (i := 309) (by decide +kernel), List.mem_of_getElem? (i := 310) (by decide +kernel)⟩
theorem lw_p17 : lw_okq (⟨"DeadlineBench$MissLog", "note", "(II)V"⟩, 3) := ⟨⟨by decide +kernel, by decide +kernel⟩, List.mem_of_getElem? (i := 141) (by decide +kernel), List.mem_of_getElem? (i := 313) (by decide +kernel), List.mem_of_getElem? (i := 314) (by decide +kernel)⟩
theorem lw_p18 : lw_okq (⟨"DeadlineBench", "releaseJobs", "()V"⟩, 8) := ⟨⟨by decide +kernel, by decide +kernel⟩, List.mem_of_getElem? (i := 12) (by decide +kernel), List.mem_of_getElem? (i := 317) (by decide +kernel), List.mem_of_getElem? (i := 318) (by decide +kernel)⟩
theorem lw_p19 : lw_okq (⟨"DeadlineBench$Task", "releaseJob", "()V"⟩, 12) := ⟨⟨by decide +kernel, by decide +kernel⟩, List.mem_of_getElem? (i := 30) (by decide +kernel), List.mem_of_getElem? (i := 321) (by decide +kernel), List.mem_of_getElem? (i := 322) (by decide +kernel)⟩
theorem lw_p20 : lw_okq (⟨"DeadlineBench$Job", "begin", "(II)V"⟩, 7) := ⟨⟨by decide +kernel, by decide +kernel⟩, List.mem_of_getElem? (i := 36) (by decide +kernel), List.mem_of_getElem? (i := 325) (by decide +kernel), List.mem_of_getElem? (i := 326) (by decide +kernel)⟩
theorem lw_p21 : lw_okq (⟨"DeadlineBench", "runOneJob", "()I"⟩, 8) := ⟨⟨by decide +kernel, by decide +kernel⟩, List.mem_of_getElem? (i := 12) (by decide +kernel), List.mem_of_getElem? (i := 329) (by decide +kernel), List.mem_of_getElem? (i := 330) (by decide +kernel)⟩
theorem lw_p22 : lw_okq (⟨"DeadlineBench", "takeLocks", "(I)Z"⟩, 8) := ⟨⟨by decide +kernel, by decide +kernel⟩, List.mem_of_getElem? (i := 12) (by decide +kernel), List.mem_of_getElem? (i := 333) (by decide +kernel), List.mem_of_getElem? (i := 334) (by decide +kernel)⟩
theorem lw_p23 : lw_okq (⟨"DeadlineBench", "workOneUnit", "(I)V"⟩, 8) := ⟨⟨by decide +kernel, by decide +kernel⟩, List.mem_of_getElem? (i := 12) (by decide +kernel), List.mem_of_getElem? (i := 337) (by decide +kernel), List.mem_of_getElem? (i := 338) (by decide +kernel)⟩
theorem lw_p24 : lw_okq (⟨"DeadlineBench$Task", "endJob", "(I)V"⟩, 12) := ⟨⟨by decide +kernel, by decide +kernel⟩, List.mem_of_getElem? (i := 30) (by decide +kernel), List.mem_of_getElem? (i := 341) (by decide +kernel), List.mem_of_getElem? (i := 342) (by decide +kernel)⟩
theorem lw_p25 : lw_okq (⟨"DeadlineBench", "countWaitsAndPutBys", "(I)V"⟩, 8) := ⟨⟨by decide +kernel, by decide +kernel⟩, List.mem_of_getElem? (i := 12) (by decide +kernel), List.mem_of_getElem? (i := 346) (by decide +kernel), List.mem_of_getElem? (i := 347) (by decide +kernel)⟩
theorem lw_p26 : lw_okq (⟨"DeadlineBench$RunHistory", "note", "(I)V"⟩, 2) := ⟨⟨by decide +kernel, by decide +kernel⟩, List.mem_of_getElem? (i := 160) (by decide +kernel), List.mem_of_getElem? (i := 350) (by decide +kernel), List.mem_of_getElem? (i := 351) (by decide +kernel)⟩
theorem lw_p27 : lw_okq (⟨"DeadlineBench$RunHistory", "runnerBack", "(I)I"⟩, 2) := ⟨⟨by decide +kernel, by decide +kernel⟩, List.mem_of_getElem? (i := 160) (by decide +kernel), List.mem_of_getElem? (i := 362) (by decide +kernel), List.mem_of_getElem? (i := 363) (by decide +kernel)⟩
theorem lw_p28 : lw_okq (⟨"DeadlineBench", "hasJob", "(I)Z"⟩, 8) := ⟨⟨by decide +kernel, by decide +kernel⟩, List.mem_of_getElem? (i := 12) (by decide +kernel), List.mem_of_getElem? (i := 370) (by decide +kernel), List.mem_of_getElem? (i := 371) (by decide +kernel)⟩
theorem lw_p29 : lw_okq (⟨"DeadlineBench$MissLog", "keeps", "(I)Z"⟩, 3) := ⟨⟨by decide +kernel, by decide +kernel⟩, List.mem_of_getElem? (i := 141) (by decide +kernel), List.mem_of_getElem? (i := 402) (by decide +kernel), List.mem_of_getElem? (i := 403) (by decide +kernel)⟩
theorem lw_p30 : lw_okq (⟨"DeadlineBench$SectionList", "sizeOf", "(I)I"⟩, 2) := ⟨⟨by decide +kernel, by decide +kernel⟩, List.mem_of_getElem? (i := 123) (by decide +kernel), List.mem_of_getElem? (i := 410) (by decide +kernel), List.mem_of_getElem? (i := 411) (by decide +kernel)⟩
theorem lw_p31 : lw_okq (⟨"DeadlineBench", "liveTasks", "()I"⟩, 8) := ⟨⟨by decide +kernel, by decide +kernel⟩, List.mem_of_getElem? (i := 12) (by decide +kernel), List.mem_of_getElem? (i := 418) (by decide +kernel), List.mem_of_getElem? (i := 419) (by decide +kernel)⟩
def lw_privs_2 : List (MethodName × Nat) := [(⟨"DeadlineBench", "dropLateJobs", "()V"⟩, 8), (⟨"DeadlineBench$MissLog", "note", "(II)V"⟩, 3), (⟨"DeadlineBench", "releaseJobs", "()V"⟩, 8), (⟨"DeadlineBench$Task", "releaseJob", "()V"⟩, 12), (⟨"DeadlineBench$Job", "begin", "(II)V"⟩, 7), (⟨"DeadlineBench", "runOneJob", "()I"⟩, 8), (⟨"DeadlineBench", "takeLocks", "(I)Z"⟩, 8), (⟨"DeadlineBench", "workOneUnit", "(I)V"⟩, 8), (⟨"DeadlineBench$Task", "endJob", "(I)V"⟩, 12), (⟨"DeadlineBench", "countWaitsAndPutBys", "(I)V"⟩, 8), (⟨"DeadlineBench$RunHistory", "note", "(I)V"⟩, 2), (⟨"DeadlineBench$RunHistory", "runnerBack", "(I)I"⟩, 2), (⟨"DeadlineBench", "hasJob", "(I)Z"⟩, 8), (⟨"DeadlineBench$MissLog", "keeps", "(I)Z"⟩, 3), (⟨"DeadlineBench$SectionList", "sizeOf", "(I)I"⟩, 2), (⟨"DeadlineBench", "liveTasks", "()I"⟩, 8)]
theorem lw_r2 : ∀ q ∈ lw_privs_2, lw_okq q := List.forall_mem_cons.mpr ⟨lw_p16, List.forall_mem_cons.mpr ⟨lw_p17, List.forall_mem_cons.mpr ⟨lw_p18, List.forall_mem_cons.mpr ⟨lw_p19, List.forall_mem_cons.mpr ⟨lw_p20, List.forall_mem_cons.mpr ⟨lw_p21, List.forall_mem_cons.mpr ⟨lw_p22, List.forall_mem_cons.mpr ⟨lw_p23, List.forall_mem_cons.mpr ⟨lw_p24, List.forall_mem_cons.mpr ⟨lw_p25, List.forall_mem_cons.mpr ⟨lw_p26, List.forall_mem_cons.mpr ⟨lw_p27, List.forall_mem_cons.mpr ⟨lw_p28, List.forall_mem_cons.mpr ⟨lw_p29, List.forall_mem_cons.mpr ⟨lw_p30, List.forall_mem_cons.mpr ⟨lw_p31, fun _ h => absurd h List.not_mem_nil⟩⟩⟩⟩⟩⟩⟩⟩⟩⟩⟩⟩⟩⟩⟩⟩
theorem lw_p32 : lw_okq (⟨"DeadlineBench", "pendingJobs", "()I"⟩, 8) := ⟨⟨by decide +kernel, by decide +kernel⟩, List.mem_of_getElem? (i := 12) (by decide +kernel), List.mem_of_getElem? (i := 422) (by decide +kernel), List.mem_of_getElem? (i := 423) (by decide +kernel)⟩
theorem lw_p33 : lw_okq (⟨"DeadlineBench", "heldLocks", "()I"⟩, 8) := ⟨⟨by decide +kernel, by decide +kernel⟩, List.mem_of_getElem? (i := 12) (by decide +kernel), List.mem_of_getElem? (i := 426) (by decide +kernel), List.mem_of_getElem? (i := 427) (by decide +kernel)⟩
theorem lw_p34 : lw_okq (⟨"DeadlineBenchModel", "isLive", "(I)Z"⟩, 36) := ⟨⟨by decide +kernel, by decide +kernel⟩, List.mem_of_getElem? (i := 433) (by decide +kernel), List.mem_of_getElem? (i := 560) (by decide +kernel), List.mem_of_getElem? (i := 561) (by decide +kernel)⟩
theorem lw_p35 : lw_okq (⟨"DeadlineBenchModel", "isLock", "(I)Z"⟩, 36) := ⟨⟨by decide +kernel, by decide +kernel⟩, List.mem_of_getElem? (i := 433) (by decide +kernel), List.mem_of_getElem? (i := 564) (by decide +kernel), List.mem_of_getElem? (i := 565) (by decide +kernel)⟩
theorem lw_p36 : lw_okq (⟨"DeadlineBenchModel", "mayStand", "(IIII)Z"⟩, 36) := ⟨⟨by decide +kernel, by decide +kernel⟩, List.mem_of_getElem? (i := 433) (by decide +kernel), List.mem_of_getElem? (i := 568) (by decide +kernel), List.mem_of_getElem? (i := 569) (by decide +kernel)⟩
theorem lw_p37 : lw_okq (⟨"DeadlineBenchModel", "drops", "(I)V"⟩, 36) := ⟨⟨by decide +kernel, by decide +kernel⟩, List.mem_of_getElem? (i := 433) (by decide +kernel), List.mem_of_getElem? (i := 576) (by decide +kernel), List.mem_of_getElem? (i := 577) (by decide +kernel)⟩
theorem lw_p38 : lw_okq (⟨"DeadlineBenchModel", "letsGo", "(I)V"⟩, 36) := ⟨⟨by decide +kernel, by decide +kernel⟩, List.mem_of_getElem? (i := 433) (by decide +kernel), List.mem_of_getElem? (i := 580) (by decide +kernel), List.mem_of_getElem? (i := 581) (by decide +kernel)⟩
theorem lw_p39 : lw_okq (⟨"DeadlineBenchModel", "ahead", "(I)I"⟩, 36) := ⟨⟨by decide +kernel, by decide +kernel⟩, List.mem_of_getElem? (i := 433) (by decide +kernel), List.mem_of_getElem? (i := 584) (by decide +kernel), List.mem_of_getElem? (i := 585) (by decide +kernel)⟩
theorem lw_p40 : lw_okq (⟨"DeadlineBenchModel", "reckons", "()V"⟩, 36) := ⟨⟨by decide +kernel, by decide +kernel⟩, List.mem_of_getElem? (i := 433) (by decide +kernel), List.mem_of_getElem? (i := 588) (by decide +kernel), List.mem_of_getElem? (i := 589) (by decide +kernel)⟩
theorem lw_p41 : lw_okq (⟨"DeadlineBenchModel", "isPending", "(I)Z"⟩, 36) := ⟨⟨by decide +kernel, by decide +kernel⟩, List.mem_of_getElem? (i := 433) (by decide +kernel), List.mem_of_getElem? (i := 592) (by decide +kernel), List.mem_of_getElem? (i := 593) (by decide +kernel)⟩
theorem lw_p42 : lw_okq (⟨"DeadlineBenchModel", "turns", "()Z"⟩, 36) := ⟨⟨by decide +kernel, by decide +kernel⟩, List.mem_of_getElem? (i := 433) (by decide +kernel), List.mem_of_getElem? (i := 604) (by decide +kernel), List.mem_of_getElem? (i := 605) (by decide +kernel)⟩
theorem lw_p43 : lw_okq (⟨"DeadlineBenchModel", "misses", "()Z"⟩, 36) := ⟨⟨by decide +kernel, by decide +kernel⟩, List.mem_of_getElem? (i := 433) (by decide +kernel), List.mem_of_getElem? (i := 608) (by decide +kernel), List.mem_of_getElem? (i := 609) (by decide +kernel)⟩
theorem lw_p44 : lw_okq (⟨"DeadlineBenchModel", "releases", "()V"⟩, 36) := ⟨⟨by decide +kernel, by decide +kernel⟩, List.mem_of_getElem? (i := 433) (by decide +kernel), List.mem_of_getElem? (i := 612) (by decide +kernel), List.mem_of_getElem? (i := 613) (by decide +kernel)⟩
theorem lw_p45 : lw_okq (⟨"DeadlineBenchModel", "taken", "()I"⟩, 36) := ⟨⟨by decide +kernel, by decide +kernel⟩, List.mem_of_getElem? (i := 433) (by decide +kernel), List.mem_of_getElem? (i := 616) (by decide +kernel), List.mem_of_getElem? (i := 617) (by decide +kernel)⟩
theorem lw_p46 : lw_okq (⟨"DeadlineBenchModel", "wanted", "(I)I"⟩, 36) := ⟨⟨by decide +kernel, by decide +kernel⟩, List.mem_of_getElem? (i := 433) (by decide +kernel), List.mem_of_getElem? (i := 620) (by decide +kernel), List.mem_of_getElem? (i := 621) (by decide +kernel)⟩
theorem lw_p47 : lw_okq (⟨"DeadlineBenchModel", "works", "(I)V"⟩, 36) := ⟨⟨by decide +kernel, by decide +kernel⟩, List.mem_of_getElem? (i := 433) (by decide +kernel), List.mem_of_getElem? (i := 624) (by decide +kernel), List.mem_of_getElem? (i := 625) (by decide +kernel)⟩
def lw_privs_3 : List (MethodName × Nat) := [(⟨"DeadlineBench", "pendingJobs", "()I"⟩, 8), (⟨"DeadlineBench", "heldLocks", "()I"⟩, 8), (⟨"DeadlineBenchModel", "isLive", "(I)Z"⟩, 36), (⟨"DeadlineBenchModel", "isLock", "(I)Z"⟩, 36), (⟨"DeadlineBenchModel", "mayStand", "(IIII)Z"⟩, 36), (⟨"DeadlineBenchModel", "drops", "(I)V"⟩, 36), (⟨"DeadlineBenchModel", "letsGo", "(I)V"⟩, 36), (⟨"DeadlineBenchModel", "ahead", "(I)I"⟩, 36), (⟨"DeadlineBenchModel", "reckons", "()V"⟩, 36), (⟨"DeadlineBenchModel", "isPending", "(I)Z"⟩, 36), (⟨"DeadlineBenchModel", "turns", "()Z"⟩, 36), (⟨"DeadlineBenchModel", "misses", "()Z"⟩, 36), (⟨"DeadlineBenchModel", "releases", "()V"⟩, 36), (⟨"DeadlineBenchModel", "taken", "()I"⟩, 36), (⟨"DeadlineBenchModel", "wanted", "(I)I"⟩, 36), (⟨"DeadlineBenchModel", "works", "(I)V"⟩, 36)]
theorem lw_r3 : ∀ q ∈ lw_privs_3, lw_okq q := List.forall_mem_cons.mpr ⟨lw_p32, List.forall_mem_cons.mpr ⟨lw_p33, List.forall_mem_cons.mpr ⟨lw_p34, List.forall_mem_cons.mpr ⟨lw_p35, List.forall_mem_cons.mpr ⟨lw_p36, List.forall_mem_cons.mpr ⟨lw_p37, List.forall_mem_cons.mpr ⟨lw_p38, List.forall_mem_cons.mpr ⟨lw_p39, List.forall_mem_cons.mpr ⟨lw_p40, List.forall_mem_cons.mpr ⟨lw_p41, List.forall_mem_cons.mpr ⟨lw_p42, List.forall_mem_cons.mpr ⟨lw_p43, List.forall_mem_cons.mpr ⟨lw_p44, List.forall_mem_cons.mpr ⟨lw_p45, List.forall_mem_cons.mpr ⟨lw_p46, List.forall_mem_cons.mpr ⟨lw_p47, fun _ h => absurd h List.not_mem_nil⟩⟩⟩⟩⟩⟩⟩⟩⟩⟩⟩⟩⟩⟩⟩⟩
theorem lw_p48 : lw_okq (⟨"DeadlineBenchModel", "ending", "(I)I"⟩, 36) := ⟨⟨by decide +kernel, by decide +kernel⟩, List.mem_of_getElem? (i := 433) (by decide +kernel), List.mem_of_getElem? (i := 628) (by decide +kernel), List.mem_of_getElem? (i := 629) (by decide +kernel)⟩
theorem lw_p49 : lw_okq (⟨"DeadlineBenchModel", "counts", "(I)V"⟩, 36) := ⟨⟨by decide +kernel, by decide +kernel⟩, List.mem_of_getElem? (i := 433) (by decide +kernel), List.mem_of_getElem? (i := 632) (by decide +kernel), List.mem_of_getElem? (i := 633) (by decide +kernel)⟩
theorem lw_p50 : lw_okq (⟨"DeadlineBenchModel", "sectionsOf", "(I)I"⟩, 36) := ⟨⟨by decide +kernel, by decide +kernel⟩, List.mem_of_getElem? (i := 433) (by decide +kernel), List.mem_of_getElem? (i := 680) (by decide +kernel), List.mem_of_getElem? (i := 681) (by decide +kernel)⟩
def lw_privs_4 : List (MethodName × Nat) := [(⟨"DeadlineBenchModel", "ending", "(I)I"⟩, 36), (⟨"DeadlineBenchModel", "counts", "(I)V"⟩, 36), (⟨"DeadlineBenchModel", "sectionsOf", "(I)I"⟩, 36)]
theorem lw_r4 : ∀ q ∈ lw_privs_4, lw_okq q := List.forall_mem_cons.mpr ⟨lw_p48, List.forall_mem_cons.mpr ⟨lw_p49, List.forall_mem_cons.mpr ⟨lw_p50, fun _ h => absurd h List.not_mem_nil⟩⟩⟩
def lw_privs : List (MethodName × Nat) := lw_privs_1 ++ (lw_privs_2 ++ (lw_privs_3 ++ (lw_privs_4)))
def lw_tbl : List Cond := k2_sels lw_privs ++ tables_1
theorem lw_privs_ok : ∀ q ∈ lw_privs, lw_okq q := by
  show ∀ q ∈ lw_privs_1 ++ (lw_privs_2 ++ (lw_privs_3 ++ (lw_privs_4))), lw_okq q
  exact List.forall_mem_append.mpr ⟨lw_r1, List.forall_mem_append.mpr ⟨lw_r2, List.forall_mem_append.mpr ⟨lw_r3, lw_r4⟩⟩⟩
end
section
def RX0 : String := "DeadlineBench$Job"
def TX0 : u_T := fun k => match k with
  | 0 => ("DeadlineBench$Job", "pending", "Z", false)
  | 1 => ("DeadlineBench$Job", "release", "I", false)
  | 2 => ("DeadlineBench$Job", "due", "I", false)
  | 3 => ("DeadlineBench$Job", "unitsDone", "I", false)
  | 4 => ("DeadlineBench$Job", "awaitedLock", "I", false)
  | 5 => ("DeadlineBench$Job", "effectiveDue", "I", false)
  | _ => ("DeadlineBench$Job", "ranInTickBefore", "Z", false)
def tyX0 : Nat → FieldType := fun k => match k with
  | 0 => .boolean
  | 1 => .int
  | 2 => .int
  | 3 => .int
  | 4 => .int
  | 5 => .int
  | _ => .boolean
theorem nmX0 : ∀ a, a < 7 → ∀ b, b < 7 → a ≠ b → (TX0 a).2.1 ≠ (TX0 b).2.1 := by decide +kernel
theorem tyX0_ok : ∀ k, k < 7 → parseFieldDescriptor (TX0 k).2.2.1 = some (tyX0 k) := by decide +kernel
abbrev cX0_init : ByteArray := prog_2_method_1_code
def yX0_init : MethodName := ⟨RX0, "<init>", "()V"⟩
abbrev cX0_begin : ByteArray := prog_2_method_2_code
def yX0_begin : MethodName := ⟨RX0, "begin", "(II)V"⟩
def RX1 : String := "DeadlineBench$MissLog"
def TX1 : u_T := fun k => match k with
  | 0 => ("DeadlineBench$MissLog", "numbers", "[I", true)
  | 1 => ("DeadlineBench$MissLog", "times", "[I", true)
  | _ => ("DeadlineBench$MissLog", "total", "I", false)
def tyX1 : Nat → FieldType := fun k => match k with
  | 0 => .array .int
  | 1 => .array .int
  | _ => .int
theorem nmX1 : ∀ a, a < 3 → ∀ b, b < 3 → a ≠ b → (TX1 a).2.1 ≠ (TX1 b).2.1 := by decide +kernel
theorem tyX1_ok : ∀ k, k < 3 → parseFieldDescriptor (TX1 k).2.2.1 = some (tyX1 k) := by decide +kernel
abbrev cX1_init : ByteArray := prog_3_method_1_code
def yX1_init : MethodName := ⟨RX1, "<init>", "(I)V"⟩
abbrev cX1_note : ByteArray := prog_3_method_2_code
def yX1_note : MethodName := ⟨RX1, "note", "(II)V"⟩
abbrev cX1_keeps : ByteArray := prog_3_method_3_code
def yX1_keeps : MethodName := ⟨RX1, "keeps", "(I)Z"⟩
def RX2 : String := "DeadlineBench$RunHistory"
def TX2 : u_T := fun k => match k with
  | 0 => ("DeadlineBench$RunHistory", "runners", "[I", true)
  | _ => ("DeadlineBench$RunHistory", "total", "I", false)
def tyX2 : Nat → FieldType := fun k => match k with
  | 0 => .array .int
  | _ => .int
theorem nmX2 : ∀ a, a < 2 → ∀ b, b < 2 → a ≠ b → (TX2 a).2.1 ≠ (TX2 b).2.1 := by decide +kernel
theorem tyX2_ok : ∀ k, k < 2 → parseFieldDescriptor (TX2 k).2.2.1 = some (tyX2 k) := by decide +kernel
abbrev cX2_init : ByteArray := prog_4_method_1_code
def yX2_init : MethodName := ⟨RX2, "<init>", "()V"⟩
abbrev cX2_note : ByteArray := prog_4_method_2_code
def yX2_note : MethodName := ⟨RX2, "note", "(I)V"⟩
abbrev cX2_runnerBack : ByteArray := prog_4_method_3_code
def yX2_runnerBack : MethodName := ⟨RX2, "runnerBack", "(I)I"⟩
def RX3 : String := "DeadlineBench$Section"
def TX3 : u_T := fun k => match k with
  | 0 => ("DeadlineBench$Section", "task", "I", true)
  | 1 => ("DeadlineBench$Section", "begin", "I", true)
  | 2 => ("DeadlineBench$Section", "lock", "I", true)
  | 3 => ("DeadlineBench$Section", "length", "I", true)
  | _ => ("DeadlineBench$Section", "end", "I", true)
def tyX3 : Nat → FieldType := fun k => match k with
  | 0 => .int
  | 1 => .int
  | 2 => .int
  | 3 => .int
  | _ => .int
theorem nmX3 : ∀ a, a < 5 → ∀ b, b < 5 → a ≠ b → (TX3 a).2.1 ≠ (TX3 b).2.1 := by decide +kernel
theorem tyX3_ok : ∀ k, k < 5 → parseFieldDescriptor (TX3 k).2.2.1 = some (tyX3 k) := by decide +kernel
abbrev cX3_init : ByteArray := prog_5_method_1_code
def yX3_init : MethodName := ⟨RX3, "<init>", "(IIII)V"⟩
abbrev cX3_covers : ByteArray := prog_5_method_2_code
def yX3_covers : MethodName := ⟨RX3, "covers", "(LDeadlineBench$Section;)Z"⟩
abbrev cX3_clashesWith : ByteArray := prog_5_method_3_code
def yX3_clashesWith : MethodName := ⟨RX3, "clashesWith", "(LDeadlineBench$Section;)Z"⟩
abbrev cX3_goesBefore : ByteArray := prog_5_method_4_code
def yX3_goesBefore : MethodName := ⟨RX3, "goesBefore", "(LDeadlineBench$Section;)Z"⟩
def RX4 : String := "DeadlineBench$SectionList"
def TX4 : u_T := fun k => match k with
  | 0 => ("DeadlineBench$SectionList", "rows", "[LDeadlineBench$Section;", true)
  | _ => ("DeadlineBench$SectionList", "size", "I", false)
def tyX4 : Nat → FieldType := fun k => match k with
  | 0 => .array (.object "DeadlineBench$Section")
  | _ => .int
theorem nmX4 : ∀ a, a < 2 → ∀ b, b < 2 → a ≠ b → (TX4 a).2.1 ≠ (TX4 b).2.1 := by decide +kernel
theorem tyX4_ok : ∀ k, k < 2 → parseFieldDescriptor (TX4 k).2.2.1 = some (tyX4 k) := by decide +kernel
abbrev cX4_init : ByteArray := prog_6_method_1_code
def yX4_init : MethodName := ⟨RX4, "<init>", "(I)V"⟩
abbrev cX4_insert : ByteArray := prog_6_method_2_code
def yX4_insert : MethodName := ⟨RX4, "insert", "(LDeadlineBench$Section;)Z"⟩
abbrev cX4_clashes : ByteArray := prog_6_method_3_code
def yX4_clashes : MethodName := ⟨RX4, "clashes", "(LDeadlineBench$Section;)Z"⟩
abbrev cX4_removeAllOf : ByteArray := prog_6_method_4_code
def yX4_removeAllOf : MethodName := ⟨RX4, "removeAllOf", "(I)V"⟩
abbrev cX4_sizeOf : ByteArray := prog_6_method_5_code
def yX4_sizeOf : MethodName := ⟨RX4, "sizeOf", "(I)I"⟩
def RX5 : String := "DeadlineBench$Task"
def TX5 : u_T := fun k => match k with
  | 0 => ("DeadlineBench$Task", "job", "LDeadlineBench$Job;", true)
  | 1 => ("DeadlineBench$Task", "live", "Z", false)
  | 2 => ("DeadlineBench$Task", "period", "I", false)
  | 3 => ("DeadlineBench$Task", "work", "I", false)
  | 4 => ("DeadlineBench$Task", "deadline", "I", false)
  | 5 => ("DeadlineBench$Task", "nextRelease", "I", false)
  | 6 => ("DeadlineBench$Task", "jobsReleased", "I", false)
  | 7 => ("DeadlineBench$Task", "jobsDone", "I", false)
  | 8 => ("DeadlineBench$Task", "jobsMissed", "I", false)
  | 9 => ("DeadlineBench$Task", "ticksWaited", "I", false)
  | 10 => ("DeadlineBench$Task", "timesPutBy", "I", false)
  | _ => ("DeadlineBench$Task", "greatestAnswer", "I", false)
def tyX5 : Nat → FieldType := fun k => match k with
  | 0 => .object "DeadlineBench$Job"
  | 1 => .boolean
  | 2 => .int
  | 3 => .int
  | 4 => .int
  | 5 => .int
  | 6 => .int
  | 7 => .int
  | 8 => .int
  | 9 => .int
  | 10 => .int
  | _ => .int
theorem nmX5 : ∀ a, a < 12 → ∀ b, b < 12 → a ≠ b → (TX5 a).2.1 ≠ (TX5 b).2.1 := by decide +kernel
theorem tyX5_ok : ∀ k, k < 12 → parseFieldDescriptor (TX5 k).2.2.1 = some (tyX5 k) := by decide +kernel
abbrev cX5_init : ByteArray := prog_7_method_1_code
def yX5_init : MethodName := ⟨RX5, "<init>", "()V"⟩
abbrev cX5_enter : ByteArray := prog_7_method_2_code
def yX5_enter : MethodName := ⟨RX5, "enter", "(IIII)V"⟩
abbrev cX5_releaseJob : ByteArray := prog_7_method_3_code
def yX5_releaseJob : MethodName := ⟨RX5, "releaseJob", "()V"⟩
abbrev cX5_endJob : ByteArray := prog_7_method_4_code
def yX5_endJob : MethodName := ⟨RX5, "endJob", "(I)V"⟩
def RX6 : String := "DeadlineBench"
def TX6 : u_T := fun k => match k with
  | 0 => ("DeadlineBench", "tasks", "[LDeadlineBench$Task;", true)
  | 1 => ("DeadlineBench", "holders", "[I", true)
  | 2 => ("DeadlineBench", "sections", "LDeadlineBench$SectionList;", true)
  | 3 => ("DeadlineBench", "misses", "LDeadlineBench$MissLog;", true)
  | 4 => ("DeadlineBench", "history", "LDeadlineBench$RunHistory;", true)
  | 5 => ("DeadlineBench", "last", "I", true)
  | 6 => ("DeadlineBench", "now", "I", false)
  | _ => ("DeadlineBench", "idleTicks", "I", false)
def tyX6 : Nat → FieldType := fun k => match k with
  | 0 => .array (.object "DeadlineBench$Task")
  | 1 => .array .int
  | 2 => .object "DeadlineBench$SectionList"
  | 3 => .object "DeadlineBench$MissLog"
  | 4 => .object "DeadlineBench$RunHistory"
  | 5 => .int
  | 6 => .int
  | _ => .int
theorem nmX6 : ∀ a, a < 8 → ∀ b, b < 8 → a ≠ b → (TX6 a).2.1 ≠ (TX6 b).2.1 := by decide +kernel
theorem tyX6_ok : ∀ k, k < 8 → parseFieldDescriptor (TX6 k).2.2.1 = some (tyX6 k) := by decide +kernel
abbrev cX6_init : ByteArray := prog_1_method_1_code
def yX6_init : MethodName := ⟨RX6, "<init>", "(IIIII)V"⟩
abbrev cX6_addTask : ByteArray := prog_1_method_2_code
def yX6_addTask : MethodName := ⟨RX6, "addTask", "(III)I"⟩
abbrev cX6_addSection : ByteArray := prog_1_method_3_code
def yX6_addSection : MethodName := ⟨RX6, "addSection", "(IIII)Z"⟩
abbrev cX6_removeTask : ByteArray := prog_1_method_4_code
def yX6_removeTask : MethodName := ⟨RX6, "removeTask", "(I)Z"⟩
abbrev cX6_admissible : ByteArray := prog_1_method_5_code
def yX6_admissible : MethodName := ⟨RX6, "admissible", "()Z"⟩
abbrev cX6_tick : ByteArray := prog_1_method_6_code
def yX6_tick : MethodName := ⟨RX6, "tick", "()I"⟩
abbrev cX6_run : ByteArray := prog_1_method_7_code
def yX6_run : MethodName := ⟨RX6, "run", "(I)I"⟩
abbrev cX6_ran : ByteArray := prog_1_method_8_code
def yX6_ran : MethodName := ⟨RX6, "ran", "(I)I"⟩
abbrev cX6_remaining : ByteArray := prog_1_method_9_code
def yX6_remaining : MethodName := ⟨RX6, "remaining", "(I)I"⟩
abbrev cX6_deadlineOf : ByteArray := prog_1_method_10_code
def yX6_deadlineOf : MethodName := ⟨RX6, "deadlineOf", "(I)I"⟩
abbrev cX6_effective : ByteArray := prog_1_method_11_code
def yX6_effective : MethodName := ⟨RX6, "effective", "(I)I"⟩
abbrev cX6_waitsFor : ByteArray := prog_1_method_12_code
def yX6_waitsFor : MethodName := ⟨RX6, "waitsFor", "(I)I"⟩
abbrev cX6_owner : ByteArray := prog_1_method_13_code
def yX6_owner : MethodName := ⟨RX6, "owner", "(I)I"⟩
abbrev cX6_waiters : ByteArray := prog_1_method_14_code
def yX6_waiters : MethodName := ⟨RX6, "waiters", "(I)I"⟩
abbrev cX6_missCount : ByteArray := prog_1_method_15_code
def yX6_missCount : MethodName := ⟨RX6, "missCount", "()I"⟩
abbrev cX6_miss : ByteArray := prog_1_method_16_code
def yX6_miss : MethodName := ⟨RX6, "miss", "(II)I"⟩
abbrev cX6_task : ByteArray := prog_1_method_17_code
def yX6_task : MethodName := ⟨RX6, "task", "(II)I"⟩
abbrev cX6_count : ByteArray := prog_1_method_18_code
def yX6_count : MethodName := ⟨RX6, "count", "(I)I"⟩
abbrev cX6_nearest : ByteArray := prog_1_method_19_code
def yX6_nearest : MethodName := ⟨RX6, "nearest", "(III)I"⟩
abbrev cX6_isLive : ByteArray := prog_1_method_20_code
def yX6_isLive : MethodName := ⟨RX6, "isLive", "(I)Z"⟩
abbrev cX6_hasJob : ByteArray := prog_1_method_21_code
def yX6_hasJob : MethodName := ⟨RX6, "hasJob", "(I)Z"⟩
abbrev cX6_isLock : ByteArray := prog_1_method_22_code
def yX6_isLock : MethodName := ⟨RX6, "isLock", "(I)Z"⟩
abbrev cX6_liveTasks : ByteArray := prog_1_method_23_code
def yX6_liveTasks : MethodName := ⟨RX6, "liveTasks", "()I"⟩
abbrev cX6_pendingJobs : ByteArray := prog_1_method_24_code
def yX6_pendingJobs : MethodName := ⟨RX6, "pendingJobs", "()I"⟩
abbrev cX6_heldLocks : ByteArray := prog_1_method_25_code
def yX6_heldLocks : MethodName := ⟨RX6, "heldLocks", "()I"⟩
abbrev cX6_demandAt : ByteArray := prog_1_method_26_code
def yX6_demandAt : MethodName := ⟨RX6, "demandAt", "(I)J"⟩
abbrev cX6_passTick : ByteArray := prog_1_method_27_code
def yX6_passTick : MethodName := ⟨RX6, "passTick", "()I"⟩
abbrev cX6_dropLateJobs : ByteArray := prog_1_method_28_code
def yX6_dropLateJobs : MethodName := ⟨RX6, "dropLateJobs", "()V"⟩
abbrev cX6_releaseJobs : ByteArray := prog_1_method_29_code
def yX6_releaseJobs : MethodName := ⟨RX6, "releaseJobs", "()V"⟩
abbrev cX6_runOneJob : ByteArray := prog_1_method_30_code
def yX6_runOneJob : MethodName := ⟨RX6, "runOneJob", "()I"⟩
abbrev cX6_takeLocks : ByteArray := prog_1_method_31_code
def yX6_takeLocks : MethodName := ⟨RX6, "takeLocks", "(I)Z"⟩
abbrev cX6_workOneUnit : ByteArray := prog_1_method_32_code
def yX6_workOneUnit : MethodName := ⟨RX6, "workOneUnit", "(I)V"⟩
abbrev cX6_letGo : ByteArray := prog_1_method_33_code
def yX6_letGo : MethodName := ⟨RX6, "letGo", "(I)V"⟩
abbrev cX6_dropJob : ByteArray := prog_1_method_34_code
def yX6_dropJob : MethodName := ⟨RX6, "dropJob", "(I)V"⟩
abbrev cX6_aheadOfAll : ByteArray := prog_1_method_35_code
def yX6_aheadOfAll : MethodName := ⟨RX6, "aheadOfAll", "(I)I"⟩
abbrev cX6_inheritDeadlines : ByteArray := prog_1_method_36_code
def yX6_inheritDeadlines : MethodName := ⟨RX6, "inheritDeadlines", "()V"⟩
abbrev cX6_holderAwaitedBy : ByteArray := prog_1_method_37_code
def yX6_holderAwaitedBy : MethodName := ⟨RX6, "holderAwaitedBy", "(I)I"⟩
abbrev cX6_countWaitsAndPutBys : ByteArray := prog_1_method_38_code
def yX6_countWaitsAndPutBys : MethodName := ⟨RX6, "countWaitsAndPutBys", "(I)V"⟩
def RX7 : String := "DeadlineBenchModel"
def TX7 : u_T := fun k => match k with
  | 0 => ("DeadlineBenchModel", "taskMost", "I", true)
  | 1 => ("DeadlineBenchModel", "lockMost", "I", true)
  | 2 => ("DeadlineBenchModel", "sectionMost", "I", true)
  | 3 => ("DeadlineBenchModel", "logMost", "I", true)
  | 4 => ("DeadlineBenchModel", "last", "I", true)
  | 5 => ("DeadlineBenchModel", "now", "I", false)
  | 6 => ("DeadlineBenchModel", "live", "[Z", true)
  | 7 => ("DeadlineBenchModel", "period", "[I", true)
  | 8 => ("DeadlineBenchModel", "work", "[I", true)
  | 9 => ("DeadlineBenchModel", "deadline", "[I", true)
  | 10 => ("DeadlineBenchModel", "next", "[I", true)
  | 11 => ("DeadlineBenchModel", "released", "[I", true)
  | 12 => ("DeadlineBenchModel", "finished", "[I", true)
  | 13 => ("DeadlineBenchModel", "missed", "[I", true)
  | 14 => ("DeadlineBenchModel", "waited", "[I", true)
  | 15 => ("DeadlineBenchModel", "putBy", "[I", true)
  | 16 => ("DeadlineBenchModel", "answer", "[I", true)
  | 17 => ("DeadlineBenchModel", "pending", "[Z", true)
  | 18 => ("DeadlineBenchModel", "came", "[I", true)
  | 19 => ("DeadlineBenchModel", "due", "[I", true)
  | 20 => ("DeadlineBenchModel", "units", "[I", true)
  | 21 => ("DeadlineBenchModel", "waits", "[I", true)
  | 22 => ("DeadlineBenchModel", "ranBefore", "[Z", true)
  | 23 => ("DeadlineBenchModel", "holder", "[I", true)
  | 24 => ("DeadlineBenchModel", "sections", "I", false)
  | 25 => ("DeadlineBenchModel", "ofTask", "[I", true)
  | 26 => ("DeadlineBenchModel", "ofLock", "[I", true)
  | 27 => ("DeadlineBenchModel", "begin", "[I", true)
  | 28 => ("DeadlineBenchModel", "length", "[I", true)
  | 29 => ("DeadlineBenchModel", "first", "[I", true)
  | 30 => ("DeadlineBenchModel", "misses", "I", false)
  | 31 => ("DeadlineBenchModel", "missTask", "[I", true)
  | 32 => ("DeadlineBenchModel", "missTime", "[I", true)
  | 33 => ("DeadlineBenchModel", "ranTasks", "[I", true)
  | 34 => ("DeadlineBenchModel", "ticks", "I", false)
  | _ => ("DeadlineBenchModel", "idle", "I", false)
def tyX7 : Nat → FieldType := fun k => match k with
  | 0 => .int
  | 1 => .int
  | 2 => .int
  | 3 => .int
  | 4 => .int
  | 5 => .int
  | 6 => .array .boolean
  | 7 => .array .int
  | 8 => .array .int
  | 9 => .array .int
  | 10 => .array .int
  | 11 => .array .int
  | 12 => .array .int
  | 13 => .array .int
  | 14 => .array .int
  | 15 => .array .int
  | 16 => .array .int
  | 17 => .array .boolean
  | 18 => .array .int
  | 19 => .array .int
  | 20 => .array .int
  | 21 => .array .int
  | 22 => .array .boolean
  | 23 => .array .int
  | 24 => .int
  | 25 => .array .int
  | 26 => .array .int
  | 27 => .array .int
  | 28 => .array .int
  | 29 => .array .int
  | 30 => .int
  | 31 => .array .int
  | 32 => .array .int
  | 33 => .array .int
  | 34 => .int
  | _ => .int
theorem nmX7 : ∀ a, a < 36 → ∀ b, b < 36 → a ≠ b → (TX7 a).2.1 ≠ (TX7 b).2.1 := by decide +kernel
theorem tyX7_ok : ∀ k, k < 36 → parseFieldDescriptor (TX7 k).2.2.1 = some (tyX7 k) := by decide +kernel
abbrev cX7_within : ByteArray := prog_9_method_1_code
def yX7_within : MethodName := ⟨RX7, "within", "(III)I"⟩
abbrev cX7_init : ByteArray := prog_9_method_2_code
def yX7_init : MethodName := ⟨RX7, "<init>", "(IIIII)V"⟩
abbrev cX7_isLive : ByteArray := prog_9_method_3_code
def yX7_isLive : MethodName := ⟨RX7, "isLive", "(I)Z"⟩
abbrev cX7_isPending : ByteArray := prog_9_method_4_code
def yX7_isPending : MethodName := ⟨RX7, "isPending", "(I)Z"⟩
abbrev cX7_isLock : ByteArray := prog_9_method_5_code
def yX7_isLock : MethodName := ⟨RX7, "isLock", "(I)Z"⟩
abbrev cX7_reckons : ByteArray := prog_9_method_6_code
def yX7_reckons : MethodName := ⟨RX7, "reckons", "()V"⟩
abbrev cX7_ahead : ByteArray := prog_9_method_7_code
def yX7_ahead : MethodName := ⟨RX7, "ahead", "(I)I"⟩
abbrev cX7_letsGo : ByteArray := prog_9_method_8_code
def yX7_letsGo : MethodName := ⟨RX7, "letsGo", "(I)V"⟩
abbrev cX7_drops : ByteArray := prog_9_method_9_code
def yX7_drops : MethodName := ⟨RX7, "drops", "(I)V"⟩
abbrev cX7_addTask : ByteArray := prog_9_method_10_code
def yX7_addTask : MethodName := ⟨RX7, "addTask", "(III)I"⟩
abbrev cX7_mayStand : ByteArray := prog_9_method_11_code
def yX7_mayStand : MethodName := ⟨RX7, "mayStand", "(IIII)Z"⟩
abbrev cX7_addSection : ByteArray := prog_9_method_12_code
def yX7_addSection : MethodName := ⟨RX7, "addSection", "(IIII)Z"⟩
abbrev cX7_removeTask : ByteArray := prog_9_method_13_code
def yX7_removeTask : MethodName := ⟨RX7, "removeTask", "(I)Z"⟩
abbrev cX7_admissible : ByteArray := prog_9_method_14_code
def yX7_admissible : MethodName := ⟨RX7, "admissible", "()Z"⟩
abbrev cX7_misses : ByteArray := prog_9_method_15_code
def yX7_misses : MethodName := ⟨RX7, "misses", "()Z"⟩
abbrev cX7_releases : ByteArray := prog_9_method_16_code
def yX7_releases : MethodName := ⟨RX7, "releases", "()V"⟩
abbrev cX7_wanted : ByteArray := prog_9_method_17_code
def yX7_wanted : MethodName := ⟨RX7, "wanted", "(I)I"⟩
abbrev cX7_taken : ByteArray := prog_9_method_18_code
def yX7_taken : MethodName := ⟨RX7, "taken", "()I"⟩
abbrev cX7_ending : ByteArray := prog_9_method_19_code
def yX7_ending : MethodName := ⟨RX7, "ending", "(I)I"⟩
abbrev cX7_works : ByteArray := prog_9_method_20_code
def yX7_works : MethodName := ⟨RX7, "works", "(I)V"⟩
abbrev cX7_counts : ByteArray := prog_9_method_21_code
def yX7_counts : MethodName := ⟨RX7, "counts", "(I)V"⟩
abbrev cX7_turns : ByteArray := prog_9_method_22_code
def yX7_turns : MethodName := ⟨RX7, "turns", "()Z"⟩
abbrev cX7_tick : ByteArray := prog_9_method_23_code
def yX7_tick : MethodName := ⟨RX7, "tick", "()I"⟩
abbrev cX7_run : ByteArray := prog_9_method_24_code
def yX7_run : MethodName := ⟨RX7, "run", "(I)I"⟩
abbrev cX7_ran : ByteArray := prog_9_method_25_code
def yX7_ran : MethodName := ⟨RX7, "ran", "(I)I"⟩
abbrev cX7_remaining : ByteArray := prog_9_method_26_code
def yX7_remaining : MethodName := ⟨RX7, "remaining", "(I)I"⟩
abbrev cX7_deadlineOf : ByteArray := prog_9_method_27_code
def yX7_deadlineOf : MethodName := ⟨RX7, "deadlineOf", "(I)I"⟩
abbrev cX7_effective : ByteArray := prog_9_method_28_code
def yX7_effective : MethodName := ⟨RX7, "effective", "(I)I"⟩
abbrev cX7_waitsFor : ByteArray := prog_9_method_29_code
def yX7_waitsFor : MethodName := ⟨RX7, "waitsFor", "(I)I"⟩
abbrev cX7_owner : ByteArray := prog_9_method_30_code
def yX7_owner : MethodName := ⟨RX7, "owner", "(I)I"⟩
abbrev cX7_waiters : ByteArray := prog_9_method_31_code
def yX7_waiters : MethodName := ⟨RX7, "waiters", "(I)I"⟩
abbrev cX7_missCount : ByteArray := prog_9_method_32_code
def yX7_missCount : MethodName := ⟨RX7, "missCount", "()I"⟩
abbrev cX7_miss : ByteArray := prog_9_method_33_code
def yX7_miss : MethodName := ⟨RX7, "miss", "(II)I"⟩
abbrev cX7_sectionsOf : ByteArray := prog_9_method_34_code
def yX7_sectionsOf : MethodName := ⟨RX7, "sectionsOf", "(I)I"⟩
abbrev cX7_task : ByteArray := prog_9_method_35_code
def yX7_task : MethodName := ⟨RX7, "task", "(II)I"⟩
abbrev cX7_count : ByteArray := prog_9_method_36_code
def yX7_count : MethodName := ⟨RX7, "count", "(I)I"⟩
def RJ9 : String := "java/lang/Math"
abbrev cJ9_max_7cf53 : ByteArray := prog_10_method_65_code
def yJ9_max_7cf53 : MethodName := ⟨RJ9, "max", "(II)I"⟩
abbrev cJ9_min_7cf53 : ByteArray := prog_10_method_69_code
def yJ9_min_7cf53 : MethodName := ⟨RJ9, "min", "(II)I"⟩
def RJ7 : String := "java/util/Arrays"
abbrev cJ7_fill_53178 : ByteArray := prog_11_method_103_code
def yJ7_fill_53178 : MethodName := ⟨RJ7, "fill", "([II)V"⟩
def RL : String := "DeadlineBenchLaw"
abbrev cL_cell : ByteArray := method_2_code
def yL_cell : MethodName := ⟨RL, "cell", "([II)I"⟩
abbrev cL_law : ByteArray := code
def yL_law : MethodName := ⟨RL, "law", "([I)Z"⟩
abbrev vwCl : List vw_C := [(RX0, TX0, 7), (RX1, TX1, 3), (RX2, TX2, 2), (RX3, TX3, 5), (RX4, TX4, 2), (RX5, TX5, 12), (RX6, TX6, 8), (RX7, TX7, 36)]
end
section
theorem dL_cell_0 : decode cL_cell 0 = .ok (.iload_n 1, 1) := by decide +kernel
theorem dL_cell_1 : decode cL_cell 1 = .ok (.aload_n 0, 1) := by decide +kernel
theorem dL_cell_2 : decode cL_cell 2 = .ok (.arraylength, 1) := by decide +kernel
theorem dL_cell_3 : decode cL_cell 3 = .ok (.if_icmp .ge 9, 3) := by decide +kernel
theorem dL_cell_6 : decode cL_cell 6 = .ok (.aload_n 0, 1) := by decide +kernel
theorem dL_cell_7 : decode cL_cell 7 = .ok (.iload_n 1, 1) := by decide +kernel
theorem dL_cell_8 : decode cL_cell 8 = .ok (.iaload, 1) := by decide +kernel
theorem dL_cell_9 : decode cL_cell 9 = .ok (.goto 4, 3) := by decide +kernel
theorem dL_cell_12 : decode cL_cell 12 = .ok (.iconst 0, 1) := by decide +kernel
theorem dL_cell_13 : decode cL_cell 13 = .ok (.ireturn, 1) := by decide +kernel
theorem dL_law_0 : decode cL_law 0 = .ok (.new 7, 3) := by decide +kernel
theorem dL_law_3 : decode cL_law 3 = .ok (.dup, 1) := by decide +kernel
theorem dL_law_4 : decode cL_law 4 = .ok (.aload_n 0, 1) := by decide +kernel
theorem dL_law_5 : decode cL_law 5 = .ok (.iconst 0, 1) := by decide +kernel
theorem dL_law_6 : decode cL_law 6 = .ok (.invokestatic 9, 3) := by decide +kernel
theorem dL_law_9 : decode cL_law 9 = .ok (.aload_n 0, 1) := by decide +kernel
theorem dL_law_10 : decode cL_law 10 = .ok (.iconst 1, 1) := by decide +kernel
theorem dL_law_11 : decode cL_law 11 = .ok (.invokestatic 9, 3) := by decide +kernel
theorem dL_law_14 : decode cL_law 14 = .ok (.aload_n 0, 1) := by decide +kernel
theorem dL_law_15 : decode cL_law 15 = .ok (.iconst 2, 1) := by decide +kernel
theorem dL_law_16 : decode cL_law 16 = .ok (.invokestatic 9, 3) := by decide +kernel
theorem dL_law_19 : decode cL_law 19 = .ok (.aload_n 0, 1) := by decide +kernel
theorem dL_law_20 : decode cL_law 20 = .ok (.iconst 3, 1) := by decide +kernel
theorem dL_law_21 : decode cL_law 21 = .ok (.invokestatic 9, 3) := by decide +kernel
theorem dL_law_24 : decode cL_law 24 = .ok (.aload_n 0, 1) := by decide +kernel
theorem dL_law_25 : decode cL_law 25 = .ok (.iconst 4, 1) := by decide +kernel
theorem dL_law_26 : decode cL_law 26 = .ok (.invokestatic 9, 3) := by decide +kernel
theorem dL_law_29 : decode cL_law 29 = .ok (.invokespecial 15, 3) := by decide +kernel
theorem dL_law_32 : decode cL_law 32 = .ok (.astore_n 1, 1) := by decide +kernel
theorem dL_law_33 : decode cL_law 33 = .ok (.new 18, 3) := by decide +kernel
theorem dL_law_36 : decode cL_law 36 = .ok (.dup, 1) := by decide +kernel
theorem dL_law_37 : decode cL_law 37 = .ok (.aload_n 0, 1) := by decide +kernel
theorem dL_law_38 : decode cL_law 38 = .ok (.iconst 0, 1) := by decide +kernel
theorem dL_law_39 : decode cL_law 39 = .ok (.invokestatic 9, 3) := by decide +kernel
theorem dL_law_42 : decode cL_law 42 = .ok (.aload_n 0, 1) := by decide +kernel
theorem dL_law_43 : decode cL_law 43 = .ok (.iconst 1, 1) := by decide +kernel
theorem dL_law_44 : decode cL_law 44 = .ok (.invokestatic 9, 3) := by decide +kernel
theorem dL_law_47 : decode cL_law 47 = .ok (.aload_n 0, 1) := by decide +kernel
theorem dL_law_48 : decode cL_law 48 = .ok (.iconst 2, 1) := by decide +kernel
theorem dL_law_49 : decode cL_law 49 = .ok (.invokestatic 9, 3) := by decide +kernel
theorem dL_law_52 : decode cL_law 52 = .ok (.aload_n 0, 1) := by decide +kernel
theorem dL_law_53 : decode cL_law 53 = .ok (.iconst 3, 1) := by decide +kernel
theorem dL_law_54 : decode cL_law 54 = .ok (.invokestatic 9, 3) := by decide +kernel
theorem dL_law_57 : decode cL_law 57 = .ok (.aload_n 0, 1) := by decide +kernel
theorem dL_law_58 : decode cL_law 58 = .ok (.iconst 4, 1) := by decide +kernel
theorem dL_law_59 : decode cL_law 59 = .ok (.invokestatic 9, 3) := by decide +kernel
theorem dL_law_62 : decode cL_law 62 = .ok (.invokespecial 20, 3) := by decide +kernel
theorem dL_law_65 : decode cL_law 65 = .ok (.astore_n 2, 1) := by decide +kernel
theorem dL_law_66 : decode cL_law 66 = .ok (.iconst 5, 1) := by decide +kernel
theorem dL_law_67 : decode cL_law 67 = .ok (.istore_n 3, 1) := by decide +kernel
theorem dL_law_68 : decode cL_law 68 = .ok (.iload_n 3, 1) := by decide +kernel
theorem dL_law_69 : decode cL_law 69 = .ok (.aload_n 0, 1) := by decide +kernel
theorem dL_law_70 : decode cL_law 70 = .ok (.arraylength, 1) := by decide +kernel
theorem dL_law_71 : decode cL_law 71 = .ok (.iconst 5, 1) := by decide +kernel
theorem dL_law_72 : decode cL_law 72 = .ok (.isub, 1) := by decide +kernel
theorem dL_law_73 : decode cL_law 73 = .ok (.if_icmp .gt 528, 3) := by decide +kernel
theorem dL_law_76 : decode cL_law 76 = .ok (.aload_n 0, 1) := by decide +kernel
theorem dL_law_77 : decode cL_law 77 = .ok (.iload_n 3, 1) := by decide +kernel
theorem dL_law_78 : decode cL_law 78 = .ok (.iaload, 1) := by decide +kernel
theorem dL_law_79 : decode cL_law 79 = .ok (.bipush 31, 2) := by decide +kernel
theorem dL_law_81 : decode cL_law 81 = .ok (.iand, 1) := by decide +kernel
theorem dL_law_82 : decode cL_law 82 = .ok (.tableswitch 513 0 16 #[82, 125, 178, 201, 214, 227, 250, 273, 296, 319, 342, 365, 388, 411, 424, 457, 490], 82) := by decide +kernel
theorem dL_law_164 : decode cL_law 164 = .ok (.aload_n 1, 1) := by decide +kernel
theorem dL_law_165 : decode cL_law 165 = .ok (.aload_n 0, 1) := by decide +kernel
theorem dL_law_166 : decode cL_law 166 = .ok (.iload_n 3, 1) := by decide +kernel
theorem dL_law_167 : decode cL_law 167 = .ok (.iconst 1, 1) := by decide +kernel
theorem dL_law_168 : decode cL_law 168 = .ok (.iadd, 1) := by decide +kernel
theorem dL_law_169 : decode cL_law 169 = .ok (.iaload, 1) := by decide +kernel
theorem dL_law_170 : decode cL_law 170 = .ok (.aload_n 0, 1) := by decide +kernel
theorem dL_law_171 : decode cL_law 171 = .ok (.iload_n 3, 1) := by decide +kernel
theorem dL_law_172 : decode cL_law 172 = .ok (.iconst 2, 1) := by decide +kernel
theorem dL_law_173 : decode cL_law 173 = .ok (.iadd, 1) := by decide +kernel
theorem dL_law_174 : decode cL_law 174 = .ok (.iaload, 1) := by decide +kernel
theorem dL_law_175 : decode cL_law 175 = .ok (.aload_n 0, 1) := by decide +kernel
theorem dL_law_176 : decode cL_law 176 = .ok (.iload_n 3, 1) := by decide +kernel
theorem dL_law_177 : decode cL_law 177 = .ok (.iconst 3, 1) := by decide +kernel
theorem dL_law_178 : decode cL_law 178 = .ok (.iadd, 1) := by decide +kernel
theorem dL_law_179 : decode cL_law 179 = .ok (.iaload, 1) := by decide +kernel
theorem dL_law_180 : decode cL_law 180 = .ok (.invokevirtual 21, 3) := by decide +kernel
theorem dL_law_183 : decode cL_law 183 = .ok (.aload_n 2, 1) := by decide +kernel
theorem dL_law_184 : decode cL_law 184 = .ok (.aload_n 0, 1) := by decide +kernel
theorem dL_law_185 : decode cL_law 185 = .ok (.iload_n 3, 1) := by decide +kernel
theorem dL_law_186 : decode cL_law 186 = .ok (.iconst 1, 1) := by decide +kernel
theorem dL_law_187 : decode cL_law 187 = .ok (.iadd, 1) := by decide +kernel
theorem dL_law_188 : decode cL_law 188 = .ok (.iaload, 1) := by decide +kernel
theorem dL_law_189 : decode cL_law 189 = .ok (.aload_n 0, 1) := by decide +kernel
theorem dL_law_190 : decode cL_law 190 = .ok (.iload_n 3, 1) := by decide +kernel
theorem dL_law_191 : decode cL_law 191 = .ok (.iconst 2, 1) := by decide +kernel
theorem dL_law_192 : decode cL_law 192 = .ok (.iadd, 1) := by decide +kernel
theorem dL_law_193 : decode cL_law 193 = .ok (.iaload, 1) := by decide +kernel
theorem dL_law_194 : decode cL_law 194 = .ok (.aload_n 0, 1) := by decide +kernel
theorem dL_law_195 : decode cL_law 195 = .ok (.iload_n 3, 1) := by decide +kernel
theorem dL_law_196 : decode cL_law 196 = .ok (.iconst 3, 1) := by decide +kernel
theorem dL_law_197 : decode cL_law 197 = .ok (.iadd, 1) := by decide +kernel
theorem dL_law_198 : decode cL_law 198 = .ok (.iaload, 1) := by decide +kernel
theorem dL_law_199 : decode cL_law 199 = .ok (.invokevirtual 25, 3) := by decide +kernel
theorem dL_law_202 : decode cL_law 202 = .ok (.if_icmp .eq 393, 3) := by decide +kernel
theorem dL_law_205 : decode cL_law 205 = .ok (.iconst 0, 1) := by decide +kernel
theorem dL_law_206 : decode cL_law 206 = .ok (.ireturn, 1) := by decide +kernel
theorem dL_law_207 : decode cL_law 207 = .ok (.aload_n 1, 1) := by decide +kernel
theorem dL_law_208 : decode cL_law 208 = .ok (.aload_n 0, 1) := by decide +kernel
theorem dL_law_209 : decode cL_law 209 = .ok (.iload_n 3, 1) := by decide +kernel
theorem dL_law_210 : decode cL_law 210 = .ok (.iconst 1, 1) := by decide +kernel
theorem dL_law_211 : decode cL_law 211 = .ok (.iadd, 1) := by decide +kernel
theorem dL_law_212 : decode cL_law 212 = .ok (.iaload, 1) := by decide +kernel
theorem dL_law_213 : decode cL_law 213 = .ok (.aload_n 0, 1) := by decide +kernel
theorem dL_law_214 : decode cL_law 214 = .ok (.iload_n 3, 1) := by decide +kernel
theorem dL_law_215 : decode cL_law 215 = .ok (.iconst 2, 1) := by decide +kernel
theorem dL_law_216 : decode cL_law 216 = .ok (.iadd, 1) := by decide +kernel
theorem dL_law_217 : decode cL_law 217 = .ok (.iaload, 1) := by decide +kernel
theorem dL_law_218 : decode cL_law 218 = .ok (.aload_n 0, 1) := by decide +kernel
theorem dL_law_219 : decode cL_law 219 = .ok (.iload_n 3, 1) := by decide +kernel
theorem dL_law_220 : decode cL_law 220 = .ok (.iconst 3, 1) := by decide +kernel
theorem dL_law_221 : decode cL_law 221 = .ok (.iadd, 1) := by decide +kernel
theorem dL_law_222 : decode cL_law 222 = .ok (.iaload, 1) := by decide +kernel
theorem dL_law_223 : decode cL_law 223 = .ok (.aload_n 0, 1) := by decide +kernel
theorem dL_law_224 : decode cL_law 224 = .ok (.iload_n 3, 1) := by decide +kernel
theorem dL_law_225 : decode cL_law 225 = .ok (.iconst 4, 1) := by decide +kernel
theorem dL_law_226 : decode cL_law 226 = .ok (.iadd, 1) := by decide +kernel
theorem dL_law_227 : decode cL_law 227 = .ok (.iaload, 1) := by decide +kernel
theorem dL_law_228 : decode cL_law 228 = .ok (.invokevirtual 26, 3) := by decide +kernel
theorem dL_law_231 : decode cL_law 231 = .ok (.aload_n 2, 1) := by decide +kernel
theorem dL_law_232 : decode cL_law 232 = .ok (.aload_n 0, 1) := by decide +kernel
theorem dL_law_233 : decode cL_law 233 = .ok (.iload_n 3, 1) := by decide +kernel
theorem dL_law_234 : decode cL_law 234 = .ok (.iconst 1, 1) := by decide +kernel
theorem dL_law_235 : decode cL_law 235 = .ok (.iadd, 1) := by decide +kernel
theorem dL_law_236 : decode cL_law 236 = .ok (.iaload, 1) := by decide +kernel
theorem dL_law_237 : decode cL_law 237 = .ok (.aload_n 0, 1) := by decide +kernel
theorem dL_law_238 : decode cL_law 238 = .ok (.iload_n 3, 1) := by decide +kernel
theorem dL_law_239 : decode cL_law 239 = .ok (.iconst 2, 1) := by decide +kernel
theorem dL_law_240 : decode cL_law 240 = .ok (.iadd, 1) := by decide +kernel
theorem dL_law_241 : decode cL_law 241 = .ok (.iaload, 1) := by decide +kernel
theorem dL_law_242 : decode cL_law 242 = .ok (.aload_n 0, 1) := by decide +kernel
theorem dL_law_243 : decode cL_law 243 = .ok (.iload_n 3, 1) := by decide +kernel
theorem dL_law_244 : decode cL_law 244 = .ok (.iconst 3, 1) := by decide +kernel
theorem dL_law_245 : decode cL_law 245 = .ok (.iadd, 1) := by decide +kernel
theorem dL_law_246 : decode cL_law 246 = .ok (.iaload, 1) := by decide +kernel
theorem dL_law_247 : decode cL_law 247 = .ok (.aload_n 0, 1) := by decide +kernel
theorem dL_law_248 : decode cL_law 248 = .ok (.iload_n 3, 1) := by decide +kernel
theorem dL_law_249 : decode cL_law 249 = .ok (.iconst 4, 1) := by decide +kernel
theorem dL_law_250 : decode cL_law 250 = .ok (.iadd, 1) := by decide +kernel
theorem dL_law_251 : decode cL_law 251 = .ok (.iaload, 1) := by decide +kernel
theorem dL_law_252 : decode cL_law 252 = .ok (.invokevirtual 30, 3) := by decide +kernel
theorem dL_law_255 : decode cL_law 255 = .ok (.if_icmp .eq 340, 3) := by decide +kernel
theorem dL_law_258 : decode cL_law 258 = .ok (.iconst 0, 1) := by decide +kernel
theorem dL_law_259 : decode cL_law 259 = .ok (.ireturn, 1) := by decide +kernel
theorem dL_law_260 : decode cL_law 260 = .ok (.aload_n 1, 1) := by decide +kernel
theorem dL_law_261 : decode cL_law 261 = .ok (.aload_n 0, 1) := by decide +kernel
theorem dL_law_262 : decode cL_law 262 = .ok (.iload_n 3, 1) := by decide +kernel
theorem dL_law_263 : decode cL_law 263 = .ok (.iconst 1, 1) := by decide +kernel
theorem dL_law_264 : decode cL_law 264 = .ok (.iadd, 1) := by decide +kernel
theorem dL_law_265 : decode cL_law 265 = .ok (.iaload, 1) := by decide +kernel
theorem dL_law_266 : decode cL_law 266 = .ok (.invokevirtual 31, 3) := by decide +kernel
theorem dL_law_269 : decode cL_law 269 = .ok (.aload_n 2, 1) := by decide +kernel
theorem dL_law_270 : decode cL_law 270 = .ok (.aload_n 0, 1) := by decide +kernel
theorem dL_law_271 : decode cL_law 271 = .ok (.iload_n 3, 1) := by decide +kernel
theorem dL_law_272 : decode cL_law 272 = .ok (.iconst 1, 1) := by decide +kernel
theorem dL_law_273 : decode cL_law 273 = .ok (.iadd, 1) := by decide +kernel
theorem dL_law_274 : decode cL_law 274 = .ok (.iaload, 1) := by decide +kernel
theorem dL_law_275 : decode cL_law 275 = .ok (.invokevirtual 35, 3) := by decide +kernel
theorem dL_law_278 : decode cL_law 278 = .ok (.if_icmp .eq 317, 3) := by decide +kernel
theorem dL_law_281 : decode cL_law 281 = .ok (.iconst 0, 1) := by decide +kernel
theorem dL_law_282 : decode cL_law 282 = .ok (.ireturn, 1) := by decide +kernel
theorem dL_law_283 : decode cL_law 283 = .ok (.aload_n 1, 1) := by decide +kernel
theorem dL_law_284 : decode cL_law 284 = .ok (.invokevirtual 36, 3) := by decide +kernel
theorem dL_law_287 : decode cL_law 287 = .ok (.aload_n 2, 1) := by decide +kernel
theorem dL_law_288 : decode cL_law 288 = .ok (.invokevirtual 40, 3) := by decide +kernel
theorem dL_law_291 : decode cL_law 291 = .ok (.if_icmp .eq 304, 3) := by decide +kernel
theorem dL_law_294 : decode cL_law 294 = .ok (.iconst 0, 1) := by decide +kernel
theorem dL_law_295 : decode cL_law 295 = .ok (.ireturn, 1) := by decide +kernel
theorem dL_law_296 : decode cL_law 296 = .ok (.aload_n 1, 1) := by decide +kernel
theorem dL_law_297 : decode cL_law 297 = .ok (.invokevirtual 41, 3) := by decide +kernel
theorem dL_law_300 : decode cL_law 300 = .ok (.aload_n 2, 1) := by decide +kernel
theorem dL_law_301 : decode cL_law 301 = .ok (.invokevirtual 45, 3) := by decide +kernel
theorem dL_law_304 : decode cL_law 304 = .ok (.if_icmp .eq 291, 3) := by decide +kernel
theorem dL_law_307 : decode cL_law 307 = .ok (.iconst 0, 1) := by decide +kernel
theorem dL_law_308 : decode cL_law 308 = .ok (.ireturn, 1) := by decide +kernel
theorem dL_law_309 : decode cL_law 309 = .ok (.aload_n 1, 1) := by decide +kernel
theorem dL_law_310 : decode cL_law 310 = .ok (.aload_n 0, 1) := by decide +kernel
theorem dL_law_311 : decode cL_law 311 = .ok (.iload_n 3, 1) := by decide +kernel
theorem dL_law_312 : decode cL_law 312 = .ok (.iconst 1, 1) := by decide +kernel
theorem dL_law_313 : decode cL_law 313 = .ok (.iadd, 1) := by decide +kernel
theorem dL_law_314 : decode cL_law 314 = .ok (.iaload, 1) := by decide +kernel
theorem dL_law_315 : decode cL_law 315 = .ok (.invokevirtual 46, 3) := by decide +kernel
theorem dL_law_318 : decode cL_law 318 = .ok (.aload_n 2, 1) := by decide +kernel
theorem dL_law_319 : decode cL_law 319 = .ok (.aload_n 0, 1) := by decide +kernel
theorem dL_law_320 : decode cL_law 320 = .ok (.iload_n 3, 1) := by decide +kernel
theorem dL_law_321 : decode cL_law 321 = .ok (.iconst 1, 1) := by decide +kernel
theorem dL_law_322 : decode cL_law 322 = .ok (.iadd, 1) := by decide +kernel
theorem dL_law_323 : decode cL_law 323 = .ok (.iaload, 1) := by decide +kernel
theorem dL_law_324 : decode cL_law 324 = .ok (.invokevirtual 50, 3) := by decide +kernel
theorem dL_law_327 : decode cL_law 327 = .ok (.if_icmp .eq 268, 3) := by decide +kernel
theorem dL_law_330 : decode cL_law 330 = .ok (.iconst 0, 1) := by decide +kernel
theorem dL_law_331 : decode cL_law 331 = .ok (.ireturn, 1) := by decide +kernel
theorem dL_law_332 : decode cL_law 332 = .ok (.aload_n 1, 1) := by decide +kernel
theorem dL_law_333 : decode cL_law 333 = .ok (.aload_n 0, 1) := by decide +kernel
theorem dL_law_334 : decode cL_law 334 = .ok (.iload_n 3, 1) := by decide +kernel
theorem dL_law_335 : decode cL_law 335 = .ok (.iconst 1, 1) := by decide +kernel
theorem dL_law_336 : decode cL_law 336 = .ok (.iadd, 1) := by decide +kernel
theorem dL_law_337 : decode cL_law 337 = .ok (.iaload, 1) := by decide +kernel
theorem dL_law_338 : decode cL_law 338 = .ok (.invokevirtual 51, 3) := by decide +kernel
theorem dL_law_341 : decode cL_law 341 = .ok (.aload_n 2, 1) := by decide +kernel
theorem dL_law_342 : decode cL_law 342 = .ok (.aload_n 0, 1) := by decide +kernel
theorem dL_law_343 : decode cL_law 343 = .ok (.iload_n 3, 1) := by decide +kernel
theorem dL_law_344 : decode cL_law 344 = .ok (.iconst 1, 1) := by decide +kernel
theorem dL_law_345 : decode cL_law 345 = .ok (.iadd, 1) := by decide +kernel
theorem dL_law_346 : decode cL_law 346 = .ok (.iaload, 1) := by decide +kernel
theorem dL_law_347 : decode cL_law 347 = .ok (.invokevirtual 54, 3) := by decide +kernel
theorem dL_law_350 : decode cL_law 350 = .ok (.if_icmp .eq 245, 3) := by decide +kernel
theorem dL_law_353 : decode cL_law 353 = .ok (.iconst 0, 1) := by decide +kernel
theorem dL_law_354 : decode cL_law 354 = .ok (.ireturn, 1) := by decide +kernel
theorem dL_law_355 : decode cL_law 355 = .ok (.aload_n 1, 1) := by decide +kernel
theorem dL_law_356 : decode cL_law 356 = .ok (.aload_n 0, 1) := by decide +kernel
theorem dL_law_357 : decode cL_law 357 = .ok (.iload_n 3, 1) := by decide +kernel
theorem dL_law_358 : decode cL_law 358 = .ok (.iconst 1, 1) := by decide +kernel
theorem dL_law_359 : decode cL_law 359 = .ok (.iadd, 1) := by decide +kernel
theorem dL_law_360 : decode cL_law 360 = .ok (.iaload, 1) := by decide +kernel
theorem dL_law_361 : decode cL_law 361 = .ok (.invokevirtual 55, 3) := by decide +kernel
theorem dL_law_364 : decode cL_law 364 = .ok (.aload_n 2, 1) := by decide +kernel
theorem dL_law_365 : decode cL_law 365 = .ok (.aload_n 0, 1) := by decide +kernel
theorem dL_law_366 : decode cL_law 366 = .ok (.iload_n 3, 1) := by decide +kernel
theorem dL_law_367 : decode cL_law 367 = .ok (.iconst 1, 1) := by decide +kernel
theorem dL_law_368 : decode cL_law 368 = .ok (.iadd, 1) := by decide +kernel
theorem dL_law_369 : decode cL_law 369 = .ok (.iaload, 1) := by decide +kernel
theorem dL_law_370 : decode cL_law 370 = .ok (.invokevirtual 58, 3) := by decide +kernel
theorem dL_law_373 : decode cL_law 373 = .ok (.if_icmp .eq 222, 3) := by decide +kernel
theorem dL_law_376 : decode cL_law 376 = .ok (.iconst 0, 1) := by decide +kernel
theorem dL_law_377 : decode cL_law 377 = .ok (.ireturn, 1) := by decide +kernel
theorem dL_law_378 : decode cL_law 378 = .ok (.aload_n 1, 1) := by decide +kernel
theorem dL_law_379 : decode cL_law 379 = .ok (.aload_n 0, 1) := by decide +kernel
theorem dL_law_380 : decode cL_law 380 = .ok (.iload_n 3, 1) := by decide +kernel
theorem dL_law_381 : decode cL_law 381 = .ok (.iconst 1, 1) := by decide +kernel
theorem dL_law_382 : decode cL_law 382 = .ok (.iadd, 1) := by decide +kernel
theorem dL_law_383 : decode cL_law 383 = .ok (.iaload, 1) := by decide +kernel
theorem dL_law_384 : decode cL_law 384 = .ok (.invokevirtual 59, 3) := by decide +kernel
theorem dL_law_387 : decode cL_law 387 = .ok (.aload_n 2, 1) := by decide +kernel
theorem dL_law_388 : decode cL_law 388 = .ok (.aload_n 0, 1) := by decide +kernel
theorem dL_law_389 : decode cL_law 389 = .ok (.iload_n 3, 1) := by decide +kernel
theorem dL_law_390 : decode cL_law 390 = .ok (.iconst 1, 1) := by decide +kernel
theorem dL_law_391 : decode cL_law 391 = .ok (.iadd, 1) := by decide +kernel
theorem dL_law_392 : decode cL_law 392 = .ok (.iaload, 1) := by decide +kernel
theorem dL_law_393 : decode cL_law 393 = .ok (.invokevirtual 62, 3) := by decide +kernel
theorem dL_law_396 : decode cL_law 396 = .ok (.if_icmp .eq 199, 3) := by decide +kernel
theorem dL_law_399 : decode cL_law 399 = .ok (.iconst 0, 1) := by decide +kernel
theorem dL_law_400 : decode cL_law 400 = .ok (.ireturn, 1) := by decide +kernel
theorem dL_law_401 : decode cL_law 401 = .ok (.aload_n 1, 1) := by decide +kernel
theorem dL_law_402 : decode cL_law 402 = .ok (.aload_n 0, 1) := by decide +kernel
theorem dL_law_403 : decode cL_law 403 = .ok (.iload_n 3, 1) := by decide +kernel
theorem dL_law_404 : decode cL_law 404 = .ok (.iconst 1, 1) := by decide +kernel
theorem dL_law_405 : decode cL_law 405 = .ok (.iadd, 1) := by decide +kernel
theorem dL_law_406 : decode cL_law 406 = .ok (.iaload, 1) := by decide +kernel
theorem dL_law_407 : decode cL_law 407 = .ok (.invokevirtual 63, 3) := by decide +kernel
theorem dL_law_410 : decode cL_law 410 = .ok (.aload_n 2, 1) := by decide +kernel
theorem dL_law_411 : decode cL_law 411 = .ok (.aload_n 0, 1) := by decide +kernel
theorem dL_law_412 : decode cL_law 412 = .ok (.iload_n 3, 1) := by decide +kernel
theorem dL_law_413 : decode cL_law 413 = .ok (.iconst 1, 1) := by decide +kernel
theorem dL_law_414 : decode cL_law 414 = .ok (.iadd, 1) := by decide +kernel
theorem dL_law_415 : decode cL_law 415 = .ok (.iaload, 1) := by decide +kernel
theorem dL_law_416 : decode cL_law 416 = .ok (.invokevirtual 66, 3) := by decide +kernel
theorem dL_law_419 : decode cL_law 419 = .ok (.if_icmp .eq 176, 3) := by decide +kernel
theorem dL_law_422 : decode cL_law 422 = .ok (.iconst 0, 1) := by decide +kernel
theorem dL_law_423 : decode cL_law 423 = .ok (.ireturn, 1) := by decide +kernel
theorem dL_law_424 : decode cL_law 424 = .ok (.aload_n 1, 1) := by decide +kernel
theorem dL_law_425 : decode cL_law 425 = .ok (.aload_n 0, 1) := by decide +kernel
theorem dL_law_426 : decode cL_law 426 = .ok (.iload_n 3, 1) := by decide +kernel
theorem dL_law_427 : decode cL_law 427 = .ok (.iconst 1, 1) := by decide +kernel
theorem dL_law_428 : decode cL_law 428 = .ok (.iadd, 1) := by decide +kernel
theorem dL_law_429 : decode cL_law 429 = .ok (.iaload, 1) := by decide +kernel
theorem dL_law_430 : decode cL_law 430 = .ok (.invokevirtual 67, 3) := by decide +kernel
theorem dL_law_433 : decode cL_law 433 = .ok (.aload_n 2, 1) := by decide +kernel
theorem dL_law_434 : decode cL_law 434 = .ok (.aload_n 0, 1) := by decide +kernel
theorem dL_law_435 : decode cL_law 435 = .ok (.iload_n 3, 1) := by decide +kernel
theorem dL_law_436 : decode cL_law 436 = .ok (.iconst 1, 1) := by decide +kernel
theorem dL_law_437 : decode cL_law 437 = .ok (.iadd, 1) := by decide +kernel
theorem dL_law_438 : decode cL_law 438 = .ok (.iaload, 1) := by decide +kernel
theorem dL_law_439 : decode cL_law 439 = .ok (.invokevirtual 70, 3) := by decide +kernel
theorem dL_law_442 : decode cL_law 442 = .ok (.if_icmp .eq 153, 3) := by decide +kernel
theorem dL_law_445 : decode cL_law 445 = .ok (.iconst 0, 1) := by decide +kernel
theorem dL_law_446 : decode cL_law 446 = .ok (.ireturn, 1) := by decide +kernel
theorem dL_law_447 : decode cL_law 447 = .ok (.aload_n 1, 1) := by decide +kernel
theorem dL_law_448 : decode cL_law 448 = .ok (.aload_n 0, 1) := by decide +kernel
theorem dL_law_449 : decode cL_law 449 = .ok (.iload_n 3, 1) := by decide +kernel
theorem dL_law_450 : decode cL_law 450 = .ok (.iconst 1, 1) := by decide +kernel
theorem dL_law_451 : decode cL_law 451 = .ok (.iadd, 1) := by decide +kernel
theorem dL_law_452 : decode cL_law 452 = .ok (.iaload, 1) := by decide +kernel
theorem dL_law_453 : decode cL_law 453 = .ok (.invokevirtual 71, 3) := by decide +kernel
theorem dL_law_456 : decode cL_law 456 = .ok (.aload_n 2, 1) := by decide +kernel
theorem dL_law_457 : decode cL_law 457 = .ok (.aload_n 0, 1) := by decide +kernel
theorem dL_law_458 : decode cL_law 458 = .ok (.iload_n 3, 1) := by decide +kernel
theorem dL_law_459 : decode cL_law 459 = .ok (.iconst 1, 1) := by decide +kernel
theorem dL_law_460 : decode cL_law 460 = .ok (.iadd, 1) := by decide +kernel
theorem dL_law_461 : decode cL_law 461 = .ok (.iaload, 1) := by decide +kernel
theorem dL_law_462 : decode cL_law 462 = .ok (.invokevirtual 74, 3) := by decide +kernel
theorem dL_law_465 : decode cL_law 465 = .ok (.if_icmp .eq 130, 3) := by decide +kernel
theorem dL_law_468 : decode cL_law 468 = .ok (.iconst 0, 1) := by decide +kernel
theorem dL_law_469 : decode cL_law 469 = .ok (.ireturn, 1) := by decide +kernel
theorem dL_law_470 : decode cL_law 470 = .ok (.aload_n 1, 1) := by decide +kernel
theorem dL_law_471 : decode cL_law 471 = .ok (.aload_n 0, 1) := by decide +kernel
theorem dL_law_472 : decode cL_law 472 = .ok (.iload_n 3, 1) := by decide +kernel
theorem dL_law_473 : decode cL_law 473 = .ok (.iconst 1, 1) := by decide +kernel
theorem dL_law_474 : decode cL_law 474 = .ok (.iadd, 1) := by decide +kernel
theorem dL_law_475 : decode cL_law 475 = .ok (.iaload, 1) := by decide +kernel
theorem dL_law_476 : decode cL_law 476 = .ok (.invokevirtual 75, 3) := by decide +kernel
theorem dL_law_479 : decode cL_law 479 = .ok (.aload_n 2, 1) := by decide +kernel
theorem dL_law_480 : decode cL_law 480 = .ok (.aload_n 0, 1) := by decide +kernel
theorem dL_law_481 : decode cL_law 481 = .ok (.iload_n 3, 1) := by decide +kernel
theorem dL_law_482 : decode cL_law 482 = .ok (.iconst 1, 1) := by decide +kernel
theorem dL_law_483 : decode cL_law 483 = .ok (.iadd, 1) := by decide +kernel
theorem dL_law_484 : decode cL_law 484 = .ok (.iaload, 1) := by decide +kernel
theorem dL_law_485 : decode cL_law 485 = .ok (.invokevirtual 78, 3) := by decide +kernel
theorem dL_law_488 : decode cL_law 488 = .ok (.if_icmp .eq 107, 3) := by decide +kernel
theorem dL_law_491 : decode cL_law 491 = .ok (.iconst 0, 1) := by decide +kernel
theorem dL_law_492 : decode cL_law 492 = .ok (.ireturn, 1) := by decide +kernel
theorem dL_law_493 : decode cL_law 493 = .ok (.aload_n 1, 1) := by decide +kernel
theorem dL_law_494 : decode cL_law 494 = .ok (.invokevirtual 79, 3) := by decide +kernel
theorem dL_law_497 : decode cL_law 497 = .ok (.aload_n 2, 1) := by decide +kernel
theorem dL_law_498 : decode cL_law 498 = .ok (.invokevirtual 82, 3) := by decide +kernel
theorem dL_law_501 : decode cL_law 501 = .ok (.if_icmp .eq 94, 3) := by decide +kernel
theorem dL_law_504 : decode cL_law 504 = .ok (.iconst 0, 1) := by decide +kernel
theorem dL_law_505 : decode cL_law 505 = .ok (.ireturn, 1) := by decide +kernel
theorem dL_law_506 : decode cL_law 506 = .ok (.aload_n 1, 1) := by decide +kernel
theorem dL_law_507 : decode cL_law 507 = .ok (.aload_n 0, 1) := by decide +kernel
theorem dL_law_508 : decode cL_law 508 = .ok (.iload_n 3, 1) := by decide +kernel
theorem dL_law_509 : decode cL_law 509 = .ok (.iconst 1, 1) := by decide +kernel
theorem dL_law_510 : decode cL_law 510 = .ok (.iadd, 1) := by decide +kernel
theorem dL_law_511 : decode cL_law 511 = .ok (.iaload, 1) := by decide +kernel
theorem dL_law_512 : decode cL_law 512 = .ok (.aload_n 0, 1) := by decide +kernel
theorem dL_law_513 : decode cL_law 513 = .ok (.iload_n 3, 1) := by decide +kernel
theorem dL_law_514 : decode cL_law 514 = .ok (.iconst 2, 1) := by decide +kernel
theorem dL_law_515 : decode cL_law 515 = .ok (.iadd, 1) := by decide +kernel
theorem dL_law_516 : decode cL_law 516 = .ok (.iaload, 1) := by decide +kernel
theorem dL_law_517 : decode cL_law 517 = .ok (.invokevirtual 83, 3) := by decide +kernel
theorem dL_law_520 : decode cL_law 520 = .ok (.aload_n 2, 1) := by decide +kernel
theorem dL_law_521 : decode cL_law 521 = .ok (.aload_n 0, 1) := by decide +kernel
theorem dL_law_522 : decode cL_law 522 = .ok (.iload_n 3, 1) := by decide +kernel
theorem dL_law_523 : decode cL_law 523 = .ok (.iconst 1, 1) := by decide +kernel
theorem dL_law_524 : decode cL_law 524 = .ok (.iadd, 1) := by decide +kernel
theorem dL_law_525 : decode cL_law 525 = .ok (.iaload, 1) := by decide +kernel
theorem dL_law_526 : decode cL_law 526 = .ok (.aload_n 0, 1) := by decide +kernel
theorem dL_law_527 : decode cL_law 527 = .ok (.iload_n 3, 1) := by decide +kernel
theorem dL_law_528 : decode cL_law 528 = .ok (.iconst 2, 1) := by decide +kernel
theorem dL_law_529 : decode cL_law 529 = .ok (.iadd, 1) := by decide +kernel
theorem dL_law_530 : decode cL_law 530 = .ok (.iaload, 1) := by decide +kernel
theorem dL_law_531 : decode cL_law 531 = .ok (.invokevirtual 87, 3) := by decide +kernel
theorem dL_law_534 : decode cL_law 534 = .ok (.if_icmp .eq 61, 3) := by decide +kernel
theorem dL_law_537 : decode cL_law 537 = .ok (.iconst 0, 1) := by decide +kernel
theorem dL_law_538 : decode cL_law 538 = .ok (.ireturn, 1) := by decide +kernel
theorem dL_law_539 : decode cL_law 539 = .ok (.aload_n 1, 1) := by decide +kernel
theorem dL_law_540 : decode cL_law 540 = .ok (.aload_n 0, 1) := by decide +kernel
theorem dL_law_541 : decode cL_law 541 = .ok (.iload_n 3, 1) := by decide +kernel
theorem dL_law_542 : decode cL_law 542 = .ok (.iconst 1, 1) := by decide +kernel
theorem dL_law_543 : decode cL_law 543 = .ok (.iadd, 1) := by decide +kernel
theorem dL_law_544 : decode cL_law 544 = .ok (.iaload, 1) := by decide +kernel
theorem dL_law_545 : decode cL_law 545 = .ok (.aload_n 0, 1) := by decide +kernel
theorem dL_law_546 : decode cL_law 546 = .ok (.iload_n 3, 1) := by decide +kernel
theorem dL_law_547 : decode cL_law 547 = .ok (.iconst 2, 1) := by decide +kernel
theorem dL_law_548 : decode cL_law 548 = .ok (.iadd, 1) := by decide +kernel
theorem dL_law_549 : decode cL_law 549 = .ok (.iaload, 1) := by decide +kernel
theorem dL_law_550 : decode cL_law 550 = .ok (.invokevirtual 88, 3) := by decide +kernel
theorem dL_law_553 : decode cL_law 553 = .ok (.aload_n 2, 1) := by decide +kernel
theorem dL_law_554 : decode cL_law 554 = .ok (.aload_n 0, 1) := by decide +kernel
theorem dL_law_555 : decode cL_law 555 = .ok (.iload_n 3, 1) := by decide +kernel
theorem dL_law_556 : decode cL_law 556 = .ok (.iconst 1, 1) := by decide +kernel
theorem dL_law_557 : decode cL_law 557 = .ok (.iadd, 1) := by decide +kernel
theorem dL_law_558 : decode cL_law 558 = .ok (.iaload, 1) := by decide +kernel
theorem dL_law_559 : decode cL_law 559 = .ok (.aload_n 0, 1) := by decide +kernel
theorem dL_law_560 : decode cL_law 560 = .ok (.iload_n 3, 1) := by decide +kernel
theorem dL_law_561 : decode cL_law 561 = .ok (.iconst 2, 1) := by decide +kernel
theorem dL_law_562 : decode cL_law 562 = .ok (.iadd, 1) := by decide +kernel
theorem dL_law_563 : decode cL_law 563 = .ok (.iaload, 1) := by decide +kernel
theorem dL_law_564 : decode cL_law 564 = .ok (.invokevirtual 91, 3) := by decide +kernel
theorem dL_law_567 : decode cL_law 567 = .ok (.if_icmp .eq 28, 3) := by decide +kernel
theorem dL_law_570 : decode cL_law 570 = .ok (.iconst 0, 1) := by decide +kernel
theorem dL_law_571 : decode cL_law 571 = .ok (.ireturn, 1) := by decide +kernel
theorem dL_law_572 : decode cL_law 572 = .ok (.aload_n 1, 1) := by decide +kernel
theorem dL_law_573 : decode cL_law 573 = .ok (.aload_n 0, 1) := by decide +kernel
theorem dL_law_574 : decode cL_law 574 = .ok (.iload_n 3, 1) := by decide +kernel
theorem dL_law_575 : decode cL_law 575 = .ok (.iconst 1, 1) := by decide +kernel
theorem dL_law_576 : decode cL_law 576 = .ok (.iadd, 1) := by decide +kernel
theorem dL_law_577 : decode cL_law 577 = .ok (.iaload, 1) := by decide +kernel
theorem dL_law_578 : decode cL_law 578 = .ok (.invokevirtual 92, 3) := by decide +kernel
theorem dL_law_581 : decode cL_law 581 = .ok (.aload_n 2, 1) := by decide +kernel
theorem dL_law_582 : decode cL_law 582 = .ok (.aload_n 0, 1) := by decide +kernel
theorem dL_law_583 : decode cL_law 583 = .ok (.iload_n 3, 1) := by decide +kernel
theorem dL_law_584 : decode cL_law 584 = .ok (.iconst 1, 1) := by decide +kernel
theorem dL_law_585 : decode cL_law 585 = .ok (.iadd, 1) := by decide +kernel
theorem dL_law_586 : decode cL_law 586 = .ok (.iaload, 1) := by decide +kernel
theorem dL_law_587 : decode cL_law 587 = .ok (.invokevirtual 95, 3) := by decide +kernel
theorem dL_law_590 : decode cL_law 590 = .ok (.if_icmp .eq 5, 3) := by decide +kernel
theorem dL_law_593 : decode cL_law 593 = .ok (.iconst 0, 1) := by decide +kernel
theorem dL_law_594 : decode cL_law 594 = .ok (.ireturn, 1) := by decide +kernel
theorem dL_law_595 : decode cL_law 595 = .ok (.iinc 3 5, 3) := by decide +kernel
theorem dL_law_598 : decode cL_law 598 = .ok (.goto (-530), 3) := by decide +kernel
theorem dL_law_601 : decode cL_law 601 = .ok (.iconst 1, 1) := by decide +kernel
theorem dL_law_602 : decode cL_law 602 = .ok (.ireturn, 1) := by decide +kernel
end
section
theorem dX0_init_0 : decode cX0_init 0 = .ok (.aload_n 0, 1) := by decide +kernel
theorem dX0_init_1 : decode cX0_init 1 = .ok (.invokespecial 3, 3) := by decide +kernel
theorem dX0_init_4 : decode cX0_init 4 = .ok (.aload_n 0, 1) := by decide +kernel
theorem dX0_init_5 : decode cX0_init 5 = .ok (.iconst (-1), 1) := by decide +kernel
theorem dX0_init_6 : decode cX0_init 6 = .ok (.putfield 9, 3) := by decide +kernel
theorem dX0_init_9 : decode cX0_init 9 = .ok (.return_, 1) := by decide +kernel
theorem dX0_begin_0 : decode cX0_begin 0 = .ok (.aload_n 0, 1) := by decide +kernel
theorem dX0_begin_1 : decode cX0_begin 1 = .ok (.iconst 1, 1) := by decide +kernel
theorem dX0_begin_2 : decode cX0_begin 2 = .ok (.putfield 15, 3) := by decide +kernel
theorem dX0_begin_5 : decode cX0_begin 5 = .ok (.aload_n 0, 1) := by decide +kernel
theorem dX0_begin_6 : decode cX0_begin 6 = .ok (.iload_n 1, 1) := by decide +kernel
theorem dX0_begin_7 : decode cX0_begin 7 = .ok (.putfield 19, 3) := by decide +kernel
theorem dX0_begin_10 : decode cX0_begin 10 = .ok (.aload_n 0, 1) := by decide +kernel
theorem dX0_begin_11 : decode cX0_begin 11 = .ok (.iload_n 2, 1) := by decide +kernel
theorem dX0_begin_12 : decode cX0_begin 12 = .ok (.putfield 22, 3) := by decide +kernel
theorem dX0_begin_15 : decode cX0_begin 15 = .ok (.aload_n 0, 1) := by decide +kernel
theorem dX0_begin_16 : decode cX0_begin 16 = .ok (.iconst 0, 1) := by decide +kernel
theorem dX0_begin_17 : decode cX0_begin 17 = .ok (.putfield 25, 3) := by decide +kernel
theorem dX0_begin_20 : decode cX0_begin 20 = .ok (.aload_n 0, 1) := by decide +kernel
theorem dX0_begin_21 : decode cX0_begin 21 = .ok (.iconst (-1), 1) := by decide +kernel
theorem dX0_begin_22 : decode cX0_begin 22 = .ok (.putfield 9, 3) := by decide +kernel
theorem dX0_begin_25 : decode cX0_begin 25 = .ok (.aload_n 0, 1) := by decide +kernel
theorem dX0_begin_26 : decode cX0_begin 26 = .ok (.iconst 0, 1) := by decide +kernel
theorem dX0_begin_27 : decode cX0_begin 27 = .ok (.putfield 28, 3) := by decide +kernel
theorem dX0_begin_30 : decode cX0_begin 30 = .ok (.return_, 1) := by decide +kernel
theorem dX1_init_0 : decode cX1_init 0 = .ok (.aload_n 0, 1) := by decide +kernel
theorem dX1_init_1 : decode cX1_init 1 = .ok (.invokespecial 1, 3) := by decide +kernel
theorem dX1_init_4 : decode cX1_init 4 = .ok (.aload_n 0, 1) := by decide +kernel
theorem dX1_init_5 : decode cX1_init 5 = .ok (.iload_n 1, 1) := by decide +kernel
theorem dX1_init_6 : decode cX1_init 6 = .ok (.newarray .int, 2) := by decide +kernel
theorem dX1_init_8 : decode cX1_init 8 = .ok (.putfield 7, 3) := by decide +kernel
theorem dX1_init_11 : decode cX1_init 11 = .ok (.aload_n 0, 1) := by decide +kernel
theorem dX1_init_12 : decode cX1_init 12 = .ok (.iload_n 1, 1) := by decide +kernel
theorem dX1_init_13 : decode cX1_init 13 = .ok (.newarray .int, 2) := by decide +kernel
theorem dX1_init_15 : decode cX1_init 15 = .ok (.putfield 13, 3) := by decide +kernel
theorem dX1_init_18 : decode cX1_init 18 = .ok (.return_, 1) := by decide +kernel
theorem dX1_note_0 : decode cX1_note 0 = .ok (.aload_n 0, 1) := by decide +kernel
theorem dX1_note_1 : decode cX1_note 1 = .ok (.getfield 16, 3) := by decide +kernel
theorem dX1_note_4 : decode cX1_note 4 = .ok (.aload_n 0, 1) := by decide +kernel
theorem dX1_note_5 : decode cX1_note 5 = .ok (.getfield 7, 3) := by decide +kernel
theorem dX1_note_8 : decode cX1_note 8 = .ok (.arraylength, 1) := by decide +kernel
theorem dX1_note_9 : decode cX1_note 9 = .ok (.if_icmp .ge 23, 3) := by decide +kernel
theorem dX1_note_12 : decode cX1_note 12 = .ok (.aload_n 0, 1) := by decide +kernel
theorem dX1_note_13 : decode cX1_note 13 = .ok (.getfield 7, 3) := by decide +kernel
theorem dX1_note_16 : decode cX1_note 16 = .ok (.aload_n 0, 1) := by decide +kernel
theorem dX1_note_17 : decode cX1_note 17 = .ok (.getfield 16, 3) := by decide +kernel
theorem dX1_note_20 : decode cX1_note 20 = .ok (.iload_n 1, 1) := by decide +kernel
theorem dX1_note_21 : decode cX1_note 21 = .ok (.iastore, 1) := by decide +kernel
theorem dX1_note_22 : decode cX1_note 22 = .ok (.aload_n 0, 1) := by decide +kernel
theorem dX1_note_23 : decode cX1_note 23 = .ok (.getfield 13, 3) := by decide +kernel
theorem dX1_note_26 : decode cX1_note 26 = .ok (.aload_n 0, 1) := by decide +kernel
theorem dX1_note_27 : decode cX1_note 27 = .ok (.getfield 16, 3) := by decide +kernel
theorem dX1_note_30 : decode cX1_note 30 = .ok (.iload_n 2, 1) := by decide +kernel
theorem dX1_note_31 : decode cX1_note 31 = .ok (.iastore, 1) := by decide +kernel
theorem dX1_note_32 : decode cX1_note 32 = .ok (.aload_n 0, 1) := by decide +kernel
theorem dX1_note_33 : decode cX1_note 33 = .ok (.dup, 1) := by decide +kernel
theorem dX1_note_34 : decode cX1_note 34 = .ok (.getfield 16, 3) := by decide +kernel
theorem dX1_note_37 : decode cX1_note 37 = .ok (.iconst 1, 1) := by decide +kernel
theorem dX1_note_38 : decode cX1_note 38 = .ok (.iadd, 1) := by decide +kernel
theorem dX1_note_39 : decode cX1_note 39 = .ok (.putfield 16, 3) := by decide +kernel
theorem dX1_note_42 : decode cX1_note 42 = .ok (.return_, 1) := by decide +kernel
theorem dX1_keeps_0 : decode cX1_keeps 0 = .ok (.iload_n 1, 1) := by decide +kernel
theorem dX1_keeps_1 : decode cX1_keeps 1 = .ok (.ifCond .lt 24, 3) := by decide +kernel
theorem dX1_keeps_4 : decode cX1_keeps 4 = .ok (.iload_n 1, 1) := by decide +kernel
theorem dX1_keeps_5 : decode cX1_keeps 5 = .ok (.aload_n 0, 1) := by decide +kernel
theorem dX1_keeps_6 : decode cX1_keeps 6 = .ok (.getfield 16, 3) := by decide +kernel
theorem dX1_keeps_9 : decode cX1_keeps 9 = .ok (.if_icmp .ge 16, 3) := by decide +kernel
theorem dX1_keeps_12 : decode cX1_keeps 12 = .ok (.iload_n 1, 1) := by decide +kernel
theorem dX1_keeps_13 : decode cX1_keeps 13 = .ok (.aload_n 0, 1) := by decide +kernel
theorem dX1_keeps_14 : decode cX1_keeps 14 = .ok (.getfield 7, 3) := by decide +kernel
theorem dX1_keeps_17 : decode cX1_keeps 17 = .ok (.arraylength, 1) := by decide +kernel
theorem dX1_keeps_18 : decode cX1_keeps 18 = .ok (.if_icmp .ge 7, 3) := by decide +kernel
theorem dX1_keeps_21 : decode cX1_keeps 21 = .ok (.iconst 1, 1) := by decide +kernel
theorem dX1_keeps_22 : decode cX1_keeps 22 = .ok (.goto 4, 3) := by decide +kernel
theorem dX1_keeps_25 : decode cX1_keeps 25 = .ok (.iconst 0, 1) := by decide +kernel
theorem dX1_keeps_26 : decode cX1_keeps 26 = .ok (.ireturn, 1) := by decide +kernel
theorem dX2_init_0 : decode cX2_init 0 = .ok (.aload_n 0, 1) := by decide +kernel
theorem dX2_init_1 : decode cX2_init 1 = .ok (.invokespecial 3, 3) := by decide +kernel
theorem dX2_init_4 : decode cX2_init 4 = .ok (.aload_n 0, 1) := by decide +kernel
theorem dX2_init_5 : decode cX2_init 5 = .ok (.bipush 100, 2) := by decide +kernel
theorem dX2_init_7 : decode cX2_init 7 = .ok (.newarray .int, 2) := by decide +kernel
theorem dX2_init_9 : decode cX2_init 9 = .ok (.putfield 9, 3) := by decide +kernel
theorem dX2_init_12 : decode cX2_init 12 = .ok (.return_, 1) := by decide +kernel
theorem dX2_note_0 : decode cX2_note 0 = .ok (.aload_n 0, 1) := by decide +kernel
theorem dX2_note_1 : decode cX2_note 1 = .ok (.getfield 9, 3) := by decide +kernel
theorem dX2_note_4 : decode cX2_note 4 = .ok (.aload_n 0, 1) := by decide +kernel
theorem dX2_note_5 : decode cX2_note 5 = .ok (.getfield 15, 3) := by decide +kernel
theorem dX2_note_8 : decode cX2_note 8 = .ok (.bipush 100, 2) := by decide +kernel
theorem dX2_note_10 : decode cX2_note 10 = .ok (.irem, 1) := by decide +kernel
theorem dX2_note_11 : decode cX2_note 11 = .ok (.iload_n 1, 1) := by decide +kernel
theorem dX2_note_12 : decode cX2_note 12 = .ok (.iastore, 1) := by decide +kernel
theorem dX2_note_13 : decode cX2_note 13 = .ok (.aload_n 0, 1) := by decide +kernel
theorem dX2_note_14 : decode cX2_note 14 = .ok (.dup, 1) := by decide +kernel
theorem dX2_note_15 : decode cX2_note 15 = .ok (.getfield 15, 3) := by decide +kernel
theorem dX2_note_18 : decode cX2_note 18 = .ok (.iconst 1, 1) := by decide +kernel
theorem dX2_note_19 : decode cX2_note 19 = .ok (.iadd, 1) := by decide +kernel
theorem dX2_note_20 : decode cX2_note 20 = .ok (.putfield 15, 3) := by decide +kernel
theorem dX2_note_23 : decode cX2_note 23 = .ok (.return_, 1) := by decide +kernel
theorem dX2_runnerBack_0 : decode cX2_runnerBack 0 = .ok (.iload_n 1, 1) := by decide +kernel
theorem dX2_runnerBack_1 : decode cX2_runnerBack 1 = .ok (.ifCond .lt 17, 3) := by decide +kernel
theorem dX2_runnerBack_4 : decode cX2_runnerBack 4 = .ok (.iload_n 1, 1) := by decide +kernel
theorem dX2_runnerBack_5 : decode cX2_runnerBack 5 = .ok (.bipush 100, 2) := by decide +kernel
theorem dX2_runnerBack_7 : decode cX2_runnerBack 7 = .ok (.if_icmp .ge 11, 3) := by decide +kernel
theorem dX2_runnerBack_10 : decode cX2_runnerBack 10 = .ok (.iload_n 1, 1) := by decide +kernel
theorem dX2_runnerBack_11 : decode cX2_runnerBack 11 = .ok (.aload_n 0, 1) := by decide +kernel
theorem dX2_runnerBack_12 : decode cX2_runnerBack 12 = .ok (.getfield 15, 3) := by decide +kernel
theorem dX2_runnerBack_15 : decode cX2_runnerBack 15 = .ok (.if_icmp .lt 6, 3) := by decide +kernel
theorem dX2_runnerBack_18 : decode cX2_runnerBack 18 = .ok (.bipush (-2), 2) := by decide +kernel
theorem dX2_runnerBack_20 : decode cX2_runnerBack 20 = .ok (.ireturn, 1) := by decide +kernel
theorem dX2_runnerBack_21 : decode cX2_runnerBack 21 = .ok (.aload_n 0, 1) := by decide +kernel
theorem dX2_runnerBack_22 : decode cX2_runnerBack 22 = .ok (.getfield 9, 3) := by decide +kernel
theorem dX2_runnerBack_25 : decode cX2_runnerBack 25 = .ok (.aload_n 0, 1) := by decide +kernel
theorem dX2_runnerBack_26 : decode cX2_runnerBack 26 = .ok (.getfield 15, 3) := by decide +kernel
theorem dX2_runnerBack_29 : decode cX2_runnerBack 29 = .ok (.iconst 1, 1) := by decide +kernel
theorem dX2_runnerBack_30 : decode cX2_runnerBack 30 = .ok (.isub, 1) := by decide +kernel
theorem dX2_runnerBack_31 : decode cX2_runnerBack 31 = .ok (.iload_n 1, 1) := by decide +kernel
theorem dX2_runnerBack_32 : decode cX2_runnerBack 32 = .ok (.isub, 1) := by decide +kernel
theorem dX2_runnerBack_33 : decode cX2_runnerBack 33 = .ok (.bipush 100, 2) := by decide +kernel
theorem dX2_runnerBack_35 : decode cX2_runnerBack 35 = .ok (.irem, 1) := by decide +kernel
theorem dX2_runnerBack_36 : decode cX2_runnerBack 36 = .ok (.iaload, 1) := by decide +kernel
theorem dX2_runnerBack_37 : decode cX2_runnerBack 37 = .ok (.ireturn, 1) := by decide +kernel
theorem dX3_init_0 : decode cX3_init 0 = .ok (.aload_n 0, 1) := by decide +kernel
theorem dX3_init_1 : decode cX3_init 1 = .ok (.invokespecial 1, 3) := by decide +kernel
theorem dX3_init_4 : decode cX3_init 4 = .ok (.aload_n 0, 1) := by decide +kernel
theorem dX3_init_5 : decode cX3_init 5 = .ok (.iload_n 1, 1) := by decide +kernel
theorem dX3_init_6 : decode cX3_init 6 = .ok (.putfield 7, 3) := by decide +kernel
theorem dX3_init_9 : decode cX3_init 9 = .ok (.aload_n 0, 1) := by decide +kernel
theorem dX3_init_10 : decode cX3_init 10 = .ok (.iload_n 2, 1) := by decide +kernel
theorem dX3_init_11 : decode cX3_init 11 = .ok (.putfield 13, 3) := by decide +kernel
theorem dX3_init_14 : decode cX3_init 14 = .ok (.aload_n 0, 1) := by decide +kernel
theorem dX3_init_15 : decode cX3_init 15 = .ok (.iload_n 3, 1) := by decide +kernel
theorem dX3_init_16 : decode cX3_init 16 = .ok (.putfield 16, 3) := by decide +kernel
theorem dX3_init_19 : decode cX3_init 19 = .ok (.aload_n 0, 1) := by decide +kernel
theorem dX3_init_20 : decode cX3_init 20 = .ok (.iload 4, 2) := by decide +kernel
theorem dX3_init_22 : decode cX3_init 22 = .ok (.putfield 19, 3) := by decide +kernel
theorem dX3_init_25 : decode cX3_init 25 = .ok (.aload_n 0, 1) := by decide +kernel
theorem dX3_init_26 : decode cX3_init 26 = .ok (.iload_n 2, 1) := by decide +kernel
theorem dX3_init_27 : decode cX3_init 27 = .ok (.iload 4, 2) := by decide +kernel
theorem dX3_init_29 : decode cX3_init 29 = .ok (.iadd, 1) := by decide +kernel
theorem dX3_init_30 : decode cX3_init 30 = .ok (.putfield 22, 3) := by decide +kernel
theorem dX3_init_33 : decode cX3_init 33 = .ok (.return_, 1) := by decide +kernel
theorem dX3_covers_0 : decode cX3_covers 0 = .ok (.aload_n 0, 1) := by decide +kernel
theorem dX3_covers_1 : decode cX3_covers 1 = .ok (.getfield 13, 3) := by decide +kernel
theorem dX3_covers_4 : decode cX3_covers 4 = .ok (.aload_n 1, 1) := by decide +kernel
theorem dX3_covers_5 : decode cX3_covers 5 = .ok (.getfield 13, 3) := by decide +kernel
theorem dX3_covers_8 : decode cX3_covers 8 = .ok (.if_icmp .gt 18, 3) := by decide +kernel
theorem dX3_covers_11 : decode cX3_covers 11 = .ok (.aload_n 1, 1) := by decide +kernel
theorem dX3_covers_12 : decode cX3_covers 12 = .ok (.getfield 22, 3) := by decide +kernel
theorem dX3_covers_15 : decode cX3_covers 15 = .ok (.aload_n 0, 1) := by decide +kernel
theorem dX3_covers_16 : decode cX3_covers 16 = .ok (.getfield 22, 3) := by decide +kernel
theorem dX3_covers_19 : decode cX3_covers 19 = .ok (.if_icmp .gt 7, 3) := by decide +kernel
theorem dX3_covers_22 : decode cX3_covers 22 = .ok (.iconst 1, 1) := by decide +kernel
theorem dX3_covers_23 : decode cX3_covers 23 = .ok (.goto 4, 3) := by decide +kernel
theorem dX3_covers_26 : decode cX3_covers 26 = .ok (.iconst 0, 1) := by decide +kernel
theorem dX3_covers_27 : decode cX3_covers 27 = .ok (.ireturn, 1) := by decide +kernel
theorem dX3_clashesWith_0 : decode cX3_clashesWith 0 = .ok (.aload_n 0, 1) := by decide +kernel
theorem dX3_clashesWith_1 : decode cX3_clashesWith 1 = .ok (.getfield 7, 3) := by decide +kernel
theorem dX3_clashesWith_4 : decode cX3_clashesWith 4 = .ok (.aload_n 1, 1) := by decide +kernel
theorem dX3_clashesWith_5 : decode cX3_clashesWith 5 = .ok (.getfield 7, 3) := by decide +kernel
theorem dX3_clashesWith_8 : decode cX3_clashesWith 8 = .ok (.if_icmp .ne 29, 3) := by decide +kernel
theorem dX3_clashesWith_11 : decode cX3_clashesWith 11 = .ok (.aload_n 0, 1) := by decide +kernel
theorem dX3_clashesWith_12 : decode cX3_clashesWith 12 = .ok (.getfield 13, 3) := by decide +kernel
theorem dX3_clashesWith_15 : decode cX3_clashesWith 15 = .ok (.aload_n 1, 1) := by decide +kernel
theorem dX3_clashesWith_16 : decode cX3_clashesWith 16 = .ok (.getfield 22, 3) := by decide +kernel
theorem dX3_clashesWith_19 : decode cX3_clashesWith 19 = .ok (.if_icmp .ge 18, 3) := by decide +kernel
theorem dX3_clashesWith_22 : decode cX3_clashesWith 22 = .ok (.aload_n 1, 1) := by decide +kernel
theorem dX3_clashesWith_23 : decode cX3_clashesWith 23 = .ok (.getfield 13, 3) := by decide +kernel
theorem dX3_clashesWith_26 : decode cX3_clashesWith 26 = .ok (.aload_n 0, 1) := by decide +kernel
theorem dX3_clashesWith_27 : decode cX3_clashesWith 27 = .ok (.getfield 22, 3) := by decide +kernel
theorem dX3_clashesWith_30 : decode cX3_clashesWith 30 = .ok (.if_icmp .ge 7, 3) := by decide +kernel
theorem dX3_clashesWith_33 : decode cX3_clashesWith 33 = .ok (.iconst 1, 1) := by decide +kernel
theorem dX3_clashesWith_34 : decode cX3_clashesWith 34 = .ok (.goto 4, 3) := by decide +kernel
theorem dX3_clashesWith_37 : decode cX3_clashesWith 37 = .ok (.iconst 0, 1) := by decide +kernel
theorem dX3_clashesWith_38 : decode cX3_clashesWith 38 = .ok (.istore_n 2, 1) := by decide +kernel
theorem dX3_clashesWith_39 : decode cX3_clashesWith 39 = .ok (.aload_n 0, 1) := by decide +kernel
theorem dX3_clashesWith_40 : decode cX3_clashesWith 40 = .ok (.aload_n 1, 1) := by decide +kernel
theorem dX3_clashesWith_41 : decode cX3_clashesWith 41 = .ok (.invokevirtual 25, 3) := by decide +kernel
theorem dX3_clashesWith_44 : decode cX3_clashesWith 44 = .ok (.ifCond .ne 11, 3) := by decide +kernel
theorem dX3_clashesWith_47 : decode cX3_clashesWith 47 = .ok (.aload_n 1, 1) := by decide +kernel
theorem dX3_clashesWith_48 : decode cX3_clashesWith 48 = .ok (.aload_n 0, 1) := by decide +kernel
theorem dX3_clashesWith_49 : decode cX3_clashesWith 49 = .ok (.invokevirtual 25, 3) := by decide +kernel
theorem dX3_clashesWith_52 : decode cX3_clashesWith 52 = .ok (.ifCond .eq 7, 3) := by decide +kernel
theorem dX3_clashesWith_55 : decode cX3_clashesWith 55 = .ok (.iconst 1, 1) := by decide +kernel
theorem dX3_clashesWith_56 : decode cX3_clashesWith 56 = .ok (.goto 4, 3) := by decide +kernel
theorem dX3_clashesWith_59 : decode cX3_clashesWith 59 = .ok (.iconst 0, 1) := by decide +kernel
theorem dX3_clashesWith_60 : decode cX3_clashesWith 60 = .ok (.istore_n 3, 1) := by decide +kernel
theorem dX3_clashesWith_61 : decode cX3_clashesWith 61 = .ok (.iload_n 2, 1) := by decide +kernel
theorem dX3_clashesWith_62 : decode cX3_clashesWith 62 = .ok (.ifCond .eq 22, 3) := by decide +kernel
theorem dX3_clashesWith_65 : decode cX3_clashesWith 65 = .ok (.iload_n 3, 1) := by decide +kernel
theorem dX3_clashesWith_66 : decode cX3_clashesWith 66 = .ok (.ifCond .eq 14, 3) := by decide +kernel
theorem dX3_clashesWith_69 : decode cX3_clashesWith 69 = .ok (.aload_n 0, 1) := by decide +kernel
theorem dX3_clashesWith_70 : decode cX3_clashesWith 70 = .ok (.getfield 16, 3) := by decide +kernel
theorem dX3_clashesWith_73 : decode cX3_clashesWith 73 = .ok (.aload_n 1, 1) := by decide +kernel
theorem dX3_clashesWith_74 : decode cX3_clashesWith 74 = .ok (.getfield 16, 3) := by decide +kernel
theorem dX3_clashesWith_77 : decode cX3_clashesWith 77 = .ok (.if_icmp .ne 7, 3) := by decide +kernel
theorem dX3_clashesWith_80 : decode cX3_clashesWith 80 = .ok (.iconst 1, 1) := by decide +kernel
theorem dX3_clashesWith_81 : decode cX3_clashesWith 81 = .ok (.goto 4, 3) := by decide +kernel
theorem dX3_clashesWith_84 : decode cX3_clashesWith 84 = .ok (.iconst 0, 1) := by decide +kernel
theorem dX3_clashesWith_85 : decode cX3_clashesWith 85 = .ok (.ireturn, 1) := by decide +kernel
theorem dX3_goesBefore_0 : decode cX3_goesBefore 0 = .ok (.aload_n 0, 1) := by decide +kernel
theorem dX3_goesBefore_1 : decode cX3_goesBefore 1 = .ok (.getfield 13, 3) := by decide +kernel
theorem dX3_goesBefore_4 : decode cX3_goesBefore 4 = .ok (.aload_n 1, 1) := by decide +kernel
theorem dX3_goesBefore_5 : decode cX3_goesBefore 5 = .ok (.getfield 13, 3) := by decide +kernel
theorem dX3_goesBefore_8 : decode cX3_goesBefore 8 = .ok (.if_icmp .ne 22, 3) := by decide +kernel
theorem dX3_goesBefore_11 : decode cX3_goesBefore 11 = .ok (.aload_n 0, 1) := by decide +kernel
theorem dX3_goesBefore_12 : decode cX3_goesBefore 12 = .ok (.getfield 19, 3) := by decide +kernel
theorem dX3_goesBefore_15 : decode cX3_goesBefore 15 = .ok (.aload_n 1, 1) := by decide +kernel
theorem dX3_goesBefore_16 : decode cX3_goesBefore 16 = .ok (.getfield 19, 3) := by decide +kernel
theorem dX3_goesBefore_19 : decode cX3_goesBefore 19 = .ok (.if_icmp .le 7, 3) := by decide +kernel
theorem dX3_goesBefore_22 : decode cX3_goesBefore 22 = .ok (.iconst 1, 1) := by decide +kernel
theorem dX3_goesBefore_23 : decode cX3_goesBefore 23 = .ok (.goto 23, 3) := by decide +kernel
theorem dX3_goesBefore_26 : decode cX3_goesBefore 26 = .ok (.iconst 0, 1) := by decide +kernel
theorem dX3_goesBefore_27 : decode cX3_goesBefore 27 = .ok (.goto 19, 3) := by decide +kernel
theorem dX3_goesBefore_30 : decode cX3_goesBefore 30 = .ok (.aload_n 0, 1) := by decide +kernel
theorem dX3_goesBefore_31 : decode cX3_goesBefore 31 = .ok (.getfield 13, 3) := by decide +kernel
theorem dX3_goesBefore_34 : decode cX3_goesBefore 34 = .ok (.aload_n 1, 1) := by decide +kernel
theorem dX3_goesBefore_35 : decode cX3_goesBefore 35 = .ok (.getfield 13, 3) := by decide +kernel
theorem dX3_goesBefore_38 : decode cX3_goesBefore 38 = .ok (.if_icmp .ge 7, 3) := by decide +kernel
theorem dX3_goesBefore_41 : decode cX3_goesBefore 41 = .ok (.iconst 1, 1) := by decide +kernel
theorem dX3_goesBefore_42 : decode cX3_goesBefore 42 = .ok (.goto 4, 3) := by decide +kernel
theorem dX3_goesBefore_45 : decode cX3_goesBefore 45 = .ok (.iconst 0, 1) := by decide +kernel
theorem dX3_goesBefore_46 : decode cX3_goesBefore 46 = .ok (.ireturn, 1) := by decide +kernel
theorem dX4_init_0 : decode cX4_init 0 = .ok (.aload_n 0, 1) := by decide +kernel
theorem dX4_init_1 : decode cX4_init 1 = .ok (.invokespecial 1, 3) := by decide +kernel
theorem dX4_init_4 : decode cX4_init 4 = .ok (.aload_n 0, 1) := by decide +kernel
theorem dX4_init_5 : decode cX4_init 5 = .ok (.iload_n 1, 1) := by decide +kernel
theorem dX4_init_6 : decode cX4_init 6 = .ok (.anewarray 7, 3) := by decide +kernel
theorem dX4_init_9 : decode cX4_init 9 = .ok (.putfield 9, 3) := by decide +kernel
theorem dX4_init_12 : decode cX4_init 12 = .ok (.return_, 1) := by decide +kernel
theorem dX4_insert_0 : decode cX4_insert 0 = .ok (.aload_n 0, 1) := by decide +kernel
theorem dX4_insert_1 : decode cX4_insert 1 = .ok (.getfield 15, 3) := by decide +kernel
theorem dX4_insert_4 : decode cX4_insert 4 = .ok (.aload_n 0, 1) := by decide +kernel
theorem dX4_insert_5 : decode cX4_insert 5 = .ok (.getfield 9, 3) := by decide +kernel
theorem dX4_insert_8 : decode cX4_insert 8 = .ok (.arraylength, 1) := by decide +kernel
theorem dX4_insert_9 : decode cX4_insert 9 = .ok (.if_icmp .ge 11, 3) := by decide +kernel
theorem dX4_insert_12 : decode cX4_insert 12 = .ok (.aload_n 0, 1) := by decide +kernel
theorem dX4_insert_13 : decode cX4_insert 13 = .ok (.aload_n 1, 1) := by decide +kernel
theorem dX4_insert_14 : decode cX4_insert 14 = .ok (.invokevirtual 19, 3) := by decide +kernel
theorem dX4_insert_17 : decode cX4_insert 17 = .ok (.ifCond .eq 5, 3) := by decide +kernel
theorem dX4_insert_20 : decode cX4_insert 20 = .ok (.iconst 0, 1) := by decide +kernel
theorem dX4_insert_21 : decode cX4_insert 21 = .ok (.ireturn, 1) := by decide +kernel
theorem dX4_insert_22 : decode cX4_insert 22 = .ok (.aload_n 0, 1) := by decide +kernel
theorem dX4_insert_23 : decode cX4_insert 23 = .ok (.getfield 15, 3) := by decide +kernel
theorem dX4_insert_26 : decode cX4_insert 26 = .ok (.istore_n 2, 1) := by decide +kernel
theorem dX4_insert_27 : decode cX4_insert 27 = .ok (.iload_n 2, 1) := by decide +kernel
theorem dX4_insert_28 : decode cX4_insert 28 = .ok (.ifCond .le 38, 3) := by decide +kernel
theorem dX4_insert_31 : decode cX4_insert 31 = .ok (.aload_n 1, 1) := by decide +kernel
theorem dX4_insert_32 : decode cX4_insert 32 = .ok (.aload_n 0, 1) := by decide +kernel
theorem dX4_insert_33 : decode cX4_insert 33 = .ok (.getfield 9, 3) := by decide +kernel
theorem dX4_insert_36 : decode cX4_insert 36 = .ok (.iload_n 2, 1) := by decide +kernel
theorem dX4_insert_37 : decode cX4_insert 37 = .ok (.iconst 1, 1) := by decide +kernel
theorem dX4_insert_38 : decode cX4_insert 38 = .ok (.isub, 1) := by decide +kernel
theorem dX4_insert_39 : decode cX4_insert 39 = .ok (.aaload, 1) := by decide +kernel
theorem dX4_insert_40 : decode cX4_insert 40 = .ok (.invokevirtual 23, 3) := by decide +kernel
theorem dX4_insert_43 : decode cX4_insert 43 = .ok (.ifCond .eq 23, 3) := by decide +kernel
theorem dX4_insert_46 : decode cX4_insert 46 = .ok (.aload_n 0, 1) := by decide +kernel
theorem dX4_insert_47 : decode cX4_insert 47 = .ok (.getfield 9, 3) := by decide +kernel
theorem dX4_insert_50 : decode cX4_insert 50 = .ok (.iload_n 2, 1) := by decide +kernel
theorem dX4_insert_51 : decode cX4_insert 51 = .ok (.aload_n 0, 1) := by decide +kernel
theorem dX4_insert_52 : decode cX4_insert 52 = .ok (.getfield 9, 3) := by decide +kernel
theorem dX4_insert_55 : decode cX4_insert 55 = .ok (.iload_n 2, 1) := by decide +kernel
theorem dX4_insert_56 : decode cX4_insert 56 = .ok (.iconst 1, 1) := by decide +kernel
theorem dX4_insert_57 : decode cX4_insert 57 = .ok (.isub, 1) := by decide +kernel
theorem dX4_insert_58 : decode cX4_insert 58 = .ok (.aaload, 1) := by decide +kernel
theorem dX4_insert_59 : decode cX4_insert 59 = .ok (.aastore, 1) := by decide +kernel
theorem dX4_insert_60 : decode cX4_insert 60 = .ok (.iinc 2 (-1), 3) := by decide +kernel
theorem dX4_insert_63 : decode cX4_insert 63 = .ok (.goto (-36), 3) := by decide +kernel
theorem dX4_insert_66 : decode cX4_insert 66 = .ok (.aload_n 0, 1) := by decide +kernel
theorem dX4_insert_67 : decode cX4_insert 67 = .ok (.getfield 9, 3) := by decide +kernel
theorem dX4_insert_70 : decode cX4_insert 70 = .ok (.iload_n 2, 1) := by decide +kernel
theorem dX4_insert_71 : decode cX4_insert 71 = .ok (.aload_n 1, 1) := by decide +kernel
theorem dX4_insert_72 : decode cX4_insert 72 = .ok (.aastore, 1) := by decide +kernel
theorem dX4_insert_73 : decode cX4_insert 73 = .ok (.aload_n 0, 1) := by decide +kernel
theorem dX4_insert_74 : decode cX4_insert 74 = .ok (.dup, 1) := by decide +kernel
theorem dX4_insert_75 : decode cX4_insert 75 = .ok (.getfield 15, 3) := by decide +kernel
theorem dX4_insert_78 : decode cX4_insert 78 = .ok (.iconst 1, 1) := by decide +kernel
theorem dX4_insert_79 : decode cX4_insert 79 = .ok (.iadd, 1) := by decide +kernel
theorem dX4_insert_80 : decode cX4_insert 80 = .ok (.putfield 15, 3) := by decide +kernel
theorem dX4_insert_83 : decode cX4_insert 83 = .ok (.iconst 1, 1) := by decide +kernel
theorem dX4_insert_84 : decode cX4_insert 84 = .ok (.ireturn, 1) := by decide +kernel
theorem dX4_clashes_0 : decode cX4_clashes 0 = .ok (.iconst 0, 1) := by decide +kernel
theorem dX4_clashes_1 : decode cX4_clashes 1 = .ok (.istore_n 2, 1) := by decide +kernel
theorem dX4_clashes_2 : decode cX4_clashes 2 = .ok (.iload_n 2, 1) := by decide +kernel
theorem dX4_clashes_3 : decode cX4_clashes 3 = .ok (.aload_n 0, 1) := by decide +kernel
theorem dX4_clashes_4 : decode cX4_clashes 4 = .ok (.getfield 15, 3) := by decide +kernel
theorem dX4_clashes_7 : decode cX4_clashes 7 = .ok (.if_icmp .ge 24, 3) := by decide +kernel
theorem dX4_clashes_10 : decode cX4_clashes 10 = .ok (.aload_n 0, 1) := by decide +kernel
theorem dX4_clashes_11 : decode cX4_clashes 11 = .ok (.getfield 9, 3) := by decide +kernel
theorem dX4_clashes_14 : decode cX4_clashes 14 = .ok (.iload_n 2, 1) := by decide +kernel
theorem dX4_clashes_15 : decode cX4_clashes 15 = .ok (.aaload, 1) := by decide +kernel
theorem dX4_clashes_16 : decode cX4_clashes 16 = .ok (.aload_n 1, 1) := by decide +kernel
theorem dX4_clashes_17 : decode cX4_clashes 17 = .ok (.invokevirtual 26, 3) := by decide +kernel
theorem dX4_clashes_20 : decode cX4_clashes 20 = .ok (.ifCond .eq 5, 3) := by decide +kernel
theorem dX4_clashes_23 : decode cX4_clashes 23 = .ok (.iconst 1, 1) := by decide +kernel
theorem dX4_clashes_24 : decode cX4_clashes 24 = .ok (.ireturn, 1) := by decide +kernel
theorem dX4_clashes_25 : decode cX4_clashes 25 = .ok (.iinc 2 1, 3) := by decide +kernel
theorem dX4_clashes_28 : decode cX4_clashes 28 = .ok (.goto (-26), 3) := by decide +kernel
theorem dX4_clashes_31 : decode cX4_clashes 31 = .ok (.iconst 0, 1) := by decide +kernel
theorem dX4_clashes_32 : decode cX4_clashes 32 = .ok (.ireturn, 1) := by decide +kernel
theorem dX4_removeAllOf_0 : decode cX4_removeAllOf 0 = .ok (.iconst 0, 1) := by decide +kernel
theorem dX4_removeAllOf_1 : decode cX4_removeAllOf 1 = .ok (.istore_n 2, 1) := by decide +kernel
theorem dX4_removeAllOf_2 : decode cX4_removeAllOf 2 = .ok (.iconst 0, 1) := by decide +kernel
theorem dX4_removeAllOf_3 : decode cX4_removeAllOf 3 = .ok (.istore_n 3, 1) := by decide +kernel
theorem dX4_removeAllOf_4 : decode cX4_removeAllOf 4 = .ok (.iload_n 3, 1) := by decide +kernel
theorem dX4_removeAllOf_5 : decode cX4_removeAllOf 5 = .ok (.aload_n 0, 1) := by decide +kernel
theorem dX4_removeAllOf_6 : decode cX4_removeAllOf 6 = .ok (.getfield 15, 3) := by decide +kernel
theorem dX4_removeAllOf_9 : decode cX4_removeAllOf 9 = .ok (.if_icmp .ge 37, 3) := by decide +kernel
theorem dX4_removeAllOf_12 : decode cX4_removeAllOf 12 = .ok (.aload_n 0, 1) := by decide +kernel
theorem dX4_removeAllOf_13 : decode cX4_removeAllOf 13 = .ok (.getfield 9, 3) := by decide +kernel
theorem dX4_removeAllOf_16 : decode cX4_removeAllOf 16 = .ok (.iload_n 3, 1) := by decide +kernel
theorem dX4_removeAllOf_17 : decode cX4_removeAllOf 17 = .ok (.aaload, 1) := by decide +kernel
theorem dX4_removeAllOf_18 : decode cX4_removeAllOf 18 = .ok (.getfield 29, 3) := by decide +kernel
theorem dX4_removeAllOf_21 : decode cX4_removeAllOf 21 = .ok (.iload_n 1, 1) := by decide +kernel
theorem dX4_removeAllOf_22 : decode cX4_removeAllOf 22 = .ok (.if_icmp .eq 18, 3) := by decide +kernel
theorem dX4_removeAllOf_25 : decode cX4_removeAllOf 25 = .ok (.aload_n 0, 1) := by decide +kernel
theorem dX4_removeAllOf_26 : decode cX4_removeAllOf 26 = .ok (.getfield 9, 3) := by decide +kernel
theorem dX4_removeAllOf_29 : decode cX4_removeAllOf 29 = .ok (.iload_n 2, 1) := by decide +kernel
theorem dX4_removeAllOf_30 : decode cX4_removeAllOf 30 = .ok (.aload_n 0, 1) := by decide +kernel
theorem dX4_removeAllOf_31 : decode cX4_removeAllOf 31 = .ok (.getfield 9, 3) := by decide +kernel
theorem dX4_removeAllOf_34 : decode cX4_removeAllOf 34 = .ok (.iload_n 3, 1) := by decide +kernel
theorem dX4_removeAllOf_35 : decode cX4_removeAllOf 35 = .ok (.aaload, 1) := by decide +kernel
theorem dX4_removeAllOf_36 : decode cX4_removeAllOf 36 = .ok (.aastore, 1) := by decide +kernel
theorem dX4_removeAllOf_37 : decode cX4_removeAllOf 37 = .ok (.iinc 2 1, 3) := by decide +kernel
theorem dX4_removeAllOf_40 : decode cX4_removeAllOf 40 = .ok (.iinc 3 1, 3) := by decide +kernel
theorem dX4_removeAllOf_43 : decode cX4_removeAllOf 43 = .ok (.goto (-39), 3) := by decide +kernel
theorem dX4_removeAllOf_46 : decode cX4_removeAllOf 46 = .ok (.aload_n 0, 1) := by decide +kernel
theorem dX4_removeAllOf_47 : decode cX4_removeAllOf 47 = .ok (.iload_n 2, 1) := by decide +kernel
theorem dX4_removeAllOf_48 : decode cX4_removeAllOf 48 = .ok (.putfield 15, 3) := by decide +kernel
theorem dX4_removeAllOf_51 : decode cX4_removeAllOf 51 = .ok (.return_, 1) := by decide +kernel
theorem dX4_sizeOf_0 : decode cX4_sizeOf 0 = .ok (.iconst 0, 1) := by decide +kernel
theorem dX4_sizeOf_1 : decode cX4_sizeOf 1 = .ok (.istore_n 2, 1) := by decide +kernel
theorem dX4_sizeOf_2 : decode cX4_sizeOf 2 = .ok (.iconst 0, 1) := by decide +kernel
theorem dX4_sizeOf_3 : decode cX4_sizeOf 3 = .ok (.istore_n 3, 1) := by decide +kernel
theorem dX4_sizeOf_4 : decode cX4_sizeOf 4 = .ok (.iload_n 3, 1) := by decide +kernel
theorem dX4_sizeOf_5 : decode cX4_sizeOf 5 = .ok (.aload_n 0, 1) := by decide +kernel
theorem dX4_sizeOf_6 : decode cX4_sizeOf 6 = .ok (.getfield 15, 3) := by decide +kernel
theorem dX4_sizeOf_9 : decode cX4_sizeOf 9 = .ok (.if_icmp .ge 25, 3) := by decide +kernel
theorem dX4_sizeOf_12 : decode cX4_sizeOf 12 = .ok (.aload_n 0, 1) := by decide +kernel
theorem dX4_sizeOf_13 : decode cX4_sizeOf 13 = .ok (.getfield 9, 3) := by decide +kernel
theorem dX4_sizeOf_16 : decode cX4_sizeOf 16 = .ok (.iload_n 3, 1) := by decide +kernel
theorem dX4_sizeOf_17 : decode cX4_sizeOf 17 = .ok (.aaload, 1) := by decide +kernel
theorem dX4_sizeOf_18 : decode cX4_sizeOf 18 = .ok (.getfield 29, 3) := by decide +kernel
theorem dX4_sizeOf_21 : decode cX4_sizeOf 21 = .ok (.iload_n 1, 1) := by decide +kernel
theorem dX4_sizeOf_22 : decode cX4_sizeOf 22 = .ok (.if_icmp .ne 6, 3) := by decide +kernel
theorem dX4_sizeOf_25 : decode cX4_sizeOf 25 = .ok (.iinc 2 1, 3) := by decide +kernel
theorem dX4_sizeOf_28 : decode cX4_sizeOf 28 = .ok (.iinc 3 1, 3) := by decide +kernel
theorem dX4_sizeOf_31 : decode cX4_sizeOf 31 = .ok (.goto (-27), 3) := by decide +kernel
theorem dX4_sizeOf_34 : decode cX4_sizeOf 34 = .ok (.iload_n 2, 1) := by decide +kernel
theorem dX4_sizeOf_35 : decode cX4_sizeOf 35 = .ok (.ireturn, 1) := by decide +kernel
theorem dX5_init_0 : decode cX5_init 0 = .ok (.aload_n 0, 1) := by decide +kernel
theorem dX5_init_1 : decode cX5_init 1 = .ok (.invokespecial 1, 3) := by decide +kernel
theorem dX5_init_4 : decode cX5_init 4 = .ok (.aload_n 0, 1) := by decide +kernel
theorem dX5_init_5 : decode cX5_init 5 = .ok (.new 7, 3) := by decide +kernel
theorem dX5_init_8 : decode cX5_init 8 = .ok (.dup, 1) := by decide +kernel
theorem dX5_init_9 : decode cX5_init 9 = .ok (.invokespecial 9, 3) := by decide +kernel
theorem dX5_init_12 : decode cX5_init 12 = .ok (.putfield 10, 3) := by decide +kernel
theorem dX5_init_15 : decode cX5_init 15 = .ok (.return_, 1) := by decide +kernel
theorem dX5_enter_0 : decode cX5_enter 0 = .ok (.aload_n 0, 1) := by decide +kernel
theorem dX5_enter_1 : decode cX5_enter 1 = .ok (.iconst 1, 1) := by decide +kernel
theorem dX5_enter_2 : decode cX5_enter 2 = .ok (.putfield 16, 3) := by decide +kernel
theorem dX5_enter_5 : decode cX5_enter 5 = .ok (.aload_n 0, 1) := by decide +kernel
theorem dX5_enter_6 : decode cX5_enter 6 = .ok (.iload_n 1, 1) := by decide +kernel
theorem dX5_enter_7 : decode cX5_enter 7 = .ok (.putfield 20, 3) := by decide +kernel
theorem dX5_enter_10 : decode cX5_enter 10 = .ok (.aload_n 0, 1) := by decide +kernel
theorem dX5_enter_11 : decode cX5_enter 11 = .ok (.iload_n 2, 1) := by decide +kernel
theorem dX5_enter_12 : decode cX5_enter 12 = .ok (.putfield 24, 3) := by decide +kernel
theorem dX5_enter_15 : decode cX5_enter 15 = .ok (.aload_n 0, 1) := by decide +kernel
theorem dX5_enter_16 : decode cX5_enter 16 = .ok (.iload_n 3, 1) := by decide +kernel
theorem dX5_enter_17 : decode cX5_enter 17 = .ok (.putfield 27, 3) := by decide +kernel
theorem dX5_enter_20 : decode cX5_enter 20 = .ok (.aload_n 0, 1) := by decide +kernel
theorem dX5_enter_21 : decode cX5_enter 21 = .ok (.iload 4, 2) := by decide +kernel
theorem dX5_enter_23 : decode cX5_enter 23 = .ok (.putfield 30, 3) := by decide +kernel
theorem dX5_enter_26 : decode cX5_enter 26 = .ok (.aload_n 0, 1) := by decide +kernel
theorem dX5_enter_27 : decode cX5_enter 27 = .ok (.iconst 0, 1) := by decide +kernel
theorem dX5_enter_28 : decode cX5_enter 28 = .ok (.putfield 33, 3) := by decide +kernel
theorem dX5_enter_31 : decode cX5_enter 31 = .ok (.aload_n 0, 1) := by decide +kernel
theorem dX5_enter_32 : decode cX5_enter 32 = .ok (.iconst 0, 1) := by decide +kernel
theorem dX5_enter_33 : decode cX5_enter 33 = .ok (.putfield 36, 3) := by decide +kernel
theorem dX5_enter_36 : decode cX5_enter 36 = .ok (.aload_n 0, 1) := by decide +kernel
theorem dX5_enter_37 : decode cX5_enter 37 = .ok (.iconst 0, 1) := by decide +kernel
theorem dX5_enter_38 : decode cX5_enter 38 = .ok (.putfield 39, 3) := by decide +kernel
theorem dX5_enter_41 : decode cX5_enter 41 = .ok (.aload_n 0, 1) := by decide +kernel
theorem dX5_enter_42 : decode cX5_enter 42 = .ok (.iconst 0, 1) := by decide +kernel
theorem dX5_enter_43 : decode cX5_enter 43 = .ok (.putfield 42, 3) := by decide +kernel
theorem dX5_enter_46 : decode cX5_enter 46 = .ok (.aload_n 0, 1) := by decide +kernel
theorem dX5_enter_47 : decode cX5_enter 47 = .ok (.iconst 0, 1) := by decide +kernel
theorem dX5_enter_48 : decode cX5_enter 48 = .ok (.putfield 45, 3) := by decide +kernel
theorem dX5_enter_51 : decode cX5_enter 51 = .ok (.aload_n 0, 1) := by decide +kernel
theorem dX5_enter_52 : decode cX5_enter 52 = .ok (.iconst 0, 1) := by decide +kernel
theorem dX5_enter_53 : decode cX5_enter 53 = .ok (.putfield 48, 3) := by decide +kernel
theorem dX5_enter_56 : decode cX5_enter 56 = .ok (.return_, 1) := by decide +kernel
theorem dX5_releaseJob_0 : decode cX5_releaseJob 0 = .ok (.aload_n 0, 1) := by decide +kernel
theorem dX5_releaseJob_1 : decode cX5_releaseJob 1 = .ok (.getfield 10, 3) := by decide +kernel
theorem dX5_releaseJob_4 : decode cX5_releaseJob 4 = .ok (.aload_n 0, 1) := by decide +kernel
theorem dX5_releaseJob_5 : decode cX5_releaseJob 5 = .ok (.getfield 30, 3) := by decide +kernel
theorem dX5_releaseJob_8 : decode cX5_releaseJob 8 = .ok (.aload_n 0, 1) := by decide +kernel
theorem dX5_releaseJob_9 : decode cX5_releaseJob 9 = .ok (.getfield 30, 3) := by decide +kernel
theorem dX5_releaseJob_12 : decode cX5_releaseJob 12 = .ok (.aload_n 0, 1) := by decide +kernel
theorem dX5_releaseJob_13 : decode cX5_releaseJob 13 = .ok (.getfield 27, 3) := by decide +kernel
theorem dX5_releaseJob_16 : decode cX5_releaseJob 16 = .ok (.iadd, 1) := by decide +kernel
theorem dX5_releaseJob_17 : decode cX5_releaseJob 17 = .ok (.invokevirtual 51, 3) := by decide +kernel
theorem dX5_releaseJob_20 : decode cX5_releaseJob 20 = .ok (.aload_n 0, 1) := by decide +kernel
theorem dX5_releaseJob_21 : decode cX5_releaseJob 21 = .ok (.dup, 1) := by decide +kernel
theorem dX5_releaseJob_22 : decode cX5_releaseJob 22 = .ok (.getfield 33, 3) := by decide +kernel
theorem dX5_releaseJob_25 : decode cX5_releaseJob 25 = .ok (.iconst 1, 1) := by decide +kernel
theorem dX5_releaseJob_26 : decode cX5_releaseJob 26 = .ok (.iadd, 1) := by decide +kernel
theorem dX5_releaseJob_27 : decode cX5_releaseJob 27 = .ok (.putfield 33, 3) := by decide +kernel
theorem dX5_releaseJob_30 : decode cX5_releaseJob 30 = .ok (.aload_n 0, 1) := by decide +kernel
theorem dX5_releaseJob_31 : decode cX5_releaseJob 31 = .ok (.dup, 1) := by decide +kernel
theorem dX5_releaseJob_32 : decode cX5_releaseJob 32 = .ok (.getfield 30, 3) := by decide +kernel
theorem dX5_releaseJob_35 : decode cX5_releaseJob 35 = .ok (.aload_n 0, 1) := by decide +kernel
theorem dX5_releaseJob_36 : decode cX5_releaseJob 36 = .ok (.getfield 20, 3) := by decide +kernel
theorem dX5_releaseJob_39 : decode cX5_releaseJob 39 = .ok (.iadd, 1) := by decide +kernel
theorem dX5_releaseJob_40 : decode cX5_releaseJob 40 = .ok (.putfield 30, 3) := by decide +kernel
theorem dX5_releaseJob_43 : decode cX5_releaseJob 43 = .ok (.return_, 1) := by decide +kernel
theorem dX5_endJob_0 : decode cX5_endJob 0 = .ok (.aload_n 0, 1) := by decide +kernel
theorem dX5_endJob_1 : decode cX5_endJob 1 = .ok (.getfield 10, 3) := by decide +kernel
theorem dX5_endJob_4 : decode cX5_endJob 4 = .ok (.iconst 0, 1) := by decide +kernel
theorem dX5_endJob_5 : decode cX5_endJob 5 = .ok (.putfield 55, 3) := by decide +kernel
theorem dX5_endJob_8 : decode cX5_endJob 8 = .ok (.aload_n 0, 1) := by decide +kernel
theorem dX5_endJob_9 : decode cX5_endJob 9 = .ok (.dup, 1) := by decide +kernel
theorem dX5_endJob_10 : decode cX5_endJob 10 = .ok (.getfield 36, 3) := by decide +kernel
theorem dX5_endJob_13 : decode cX5_endJob 13 = .ok (.iconst 1, 1) := by decide +kernel
theorem dX5_endJob_14 : decode cX5_endJob 14 = .ok (.iadd, 1) := by decide +kernel
theorem dX5_endJob_15 : decode cX5_endJob 15 = .ok (.putfield 36, 3) := by decide +kernel
theorem dX5_endJob_18 : decode cX5_endJob 18 = .ok (.aload_n 0, 1) := by decide +kernel
theorem dX5_endJob_19 : decode cX5_endJob 19 = .ok (.aload_n 0, 1) := by decide +kernel
theorem dX5_endJob_20 : decode cX5_endJob 20 = .ok (.getfield 48, 3) := by decide +kernel
theorem dX5_endJob_23 : decode cX5_endJob 23 = .ok (.iload_n 1, 1) := by decide +kernel
theorem dX5_endJob_24 : decode cX5_endJob 24 = .ok (.aload_n 0, 1) := by decide +kernel
theorem dX5_endJob_25 : decode cX5_endJob 25 = .ok (.getfield 10, 3) := by decide +kernel
theorem dX5_endJob_28 : decode cX5_endJob 28 = .ok (.getfield 58, 3) := by decide +kernel
theorem dX5_endJob_31 : decode cX5_endJob 31 = .ok (.isub, 1) := by decide +kernel
theorem dX5_endJob_32 : decode cX5_endJob 32 = .ok (.invokestatic 61, 3) := by decide +kernel
theorem dX5_endJob_35 : decode cX5_endJob 35 = .ok (.putfield 48, 3) := by decide +kernel
theorem dX5_endJob_38 : decode cX5_endJob 38 = .ok (.return_, 1) := by decide +kernel
theorem dJ7_fill_53178_0 : decode cJ7_fill_53178 0 = .ok (.iconst 0, 1) := by decide +kernel
theorem dJ7_fill_53178_1 : decode cJ7_fill_53178 1 = .ok (.istore_n 2, 1) := by decide +kernel
theorem dJ7_fill_53178_2 : decode cJ7_fill_53178 2 = .ok (.aload_n 0, 1) := by decide +kernel
theorem dJ7_fill_53178_3 : decode cJ7_fill_53178 3 = .ok (.arraylength, 1) := by decide +kernel
theorem dJ7_fill_53178_4 : decode cJ7_fill_53178 4 = .ok (.istore_n 3, 1) := by decide +kernel
theorem dJ7_fill_53178_5 : decode cJ7_fill_53178 5 = .ok (.iload_n 2, 1) := by decide +kernel
theorem dJ7_fill_53178_6 : decode cJ7_fill_53178 6 = .ok (.iload_n 3, 1) := by decide +kernel
theorem dJ7_fill_53178_7 : decode cJ7_fill_53178 7 = .ok (.if_icmp .ge 13, 3) := by decide +kernel
theorem dJ7_fill_53178_10 : decode cJ7_fill_53178 10 = .ok (.aload_n 0, 1) := by decide +kernel
theorem dJ7_fill_53178_11 : decode cJ7_fill_53178 11 = .ok (.iload_n 2, 1) := by decide +kernel
theorem dJ7_fill_53178_12 : decode cJ7_fill_53178 12 = .ok (.iload_n 1, 1) := by decide +kernel
theorem dJ7_fill_53178_13 : decode cJ7_fill_53178 13 = .ok (.iastore, 1) := by decide +kernel
theorem dJ7_fill_53178_14 : decode cJ7_fill_53178 14 = .ok (.iinc 2 1, 3) := by decide +kernel
theorem dJ7_fill_53178_17 : decode cJ7_fill_53178 17 = .ok (.goto (-12), 3) := by decide +kernel
theorem dJ7_fill_53178_20 : decode cJ7_fill_53178 20 = .ok (.return_, 1) := by decide +kernel
theorem dJ9_max_7cf53_0 : decode cJ9_max_7cf53 0 = .ok (.iload_n 0, 1) := by decide +kernel
theorem dJ9_max_7cf53_1 : decode cJ9_max_7cf53 1 = .ok (.iload_n 1, 1) := by decide +kernel
theorem dJ9_max_7cf53_2 : decode cJ9_max_7cf53 2 = .ok (.if_icmp .lt 7, 3) := by decide +kernel
theorem dJ9_max_7cf53_5 : decode cJ9_max_7cf53 5 = .ok (.iload_n 0, 1) := by decide +kernel
theorem dJ9_max_7cf53_6 : decode cJ9_max_7cf53 6 = .ok (.goto 4, 3) := by decide +kernel
theorem dJ9_max_7cf53_9 : decode cJ9_max_7cf53 9 = .ok (.iload_n 1, 1) := by decide +kernel
theorem dJ9_max_7cf53_10 : decode cJ9_max_7cf53 10 = .ok (.ireturn, 1) := by decide +kernel
theorem dJ9_min_7cf53_0 : decode cJ9_min_7cf53 0 = .ok (.iload_n 0, 1) := by decide +kernel
theorem dJ9_min_7cf53_1 : decode cJ9_min_7cf53 1 = .ok (.iload_n 1, 1) := by decide +kernel
theorem dJ9_min_7cf53_2 : decode cJ9_min_7cf53 2 = .ok (.if_icmp .gt 7, 3) := by decide +kernel
theorem dJ9_min_7cf53_5 : decode cJ9_min_7cf53 5 = .ok (.iload_n 0, 1) := by decide +kernel
theorem dJ9_min_7cf53_6 : decode cJ9_min_7cf53 6 = .ok (.goto 4, 3) := by decide +kernel
theorem dJ9_min_7cf53_9 : decode cJ9_min_7cf53 9 = .ok (.iload_n 1, 1) := by decide +kernel
theorem dJ9_min_7cf53_10 : decode cJ9_min_7cf53 10 = .ok (.ireturn, 1) := by decide +kernel
end
section
theorem dX6_init_0 : decode cX6_init 0 = .ok (.aload_n 0, 1) := by decide +kernel
theorem dX6_init_1 : decode cX6_init 1 = .ok (.invokespecial 1, 3) := by decide +kernel
theorem dX6_init_4 : decode cX6_init 4 = .ok (.aload_n 0, 1) := by decide +kernel
theorem dX6_init_5 : decode cX6_init 5 = .ok (.iload_n 1, 1) := by decide +kernel
theorem dX6_init_6 : decode cX6_init 6 = .ok (.iconst 1, 1) := by decide +kernel
theorem dX6_init_7 : decode cX6_init 7 = .ok (.bipush 40, 2) := by decide +kernel
theorem dX6_init_9 : decode cX6_init 9 = .ok (.invokestatic 9, 3) := by decide +kernel
theorem dX6_init_12 : decode cX6_init 12 = .ok (.anewarray 13, 3) := by decide +kernel
theorem dX6_init_15 : decode cX6_init 15 = .ok (.putfield 15, 3) := by decide +kernel
theorem dX6_init_18 : decode cX6_init 18 = .ok (.iconst 0, 1) := by decide +kernel
theorem dX6_init_19 : decode cX6_init 19 = .ok (.istore 6, 2) := by decide +kernel
theorem dX6_init_21 : decode cX6_init 21 = .ok (.iload 6, 2) := by decide +kernel
theorem dX6_init_23 : decode cX6_init 23 = .ok (.aload_n 0, 1) := by decide +kernel
theorem dX6_init_24 : decode cX6_init 24 = .ok (.getfield 15, 3) := by decide +kernel
theorem dX6_init_27 : decode cX6_init 27 = .ok (.arraylength, 1) := by decide +kernel
theorem dX6_init_28 : decode cX6_init 28 = .ok (.if_icmp .ge 23, 3) := by decide +kernel
theorem dX6_init_31 : decode cX6_init 31 = .ok (.aload_n 0, 1) := by decide +kernel
theorem dX6_init_32 : decode cX6_init 32 = .ok (.getfield 15, 3) := by decide +kernel
theorem dX6_init_35 : decode cX6_init 35 = .ok (.iload 6, 2) := by decide +kernel
theorem dX6_init_37 : decode cX6_init 37 = .ok (.new 13, 3) := by decide +kernel
theorem dX6_init_40 : decode cX6_init 40 = .ok (.dup, 1) := by decide +kernel
theorem dX6_init_41 : decode cX6_init 41 = .ok (.invokespecial 19, 3) := by decide +kernel
theorem dX6_init_44 : decode cX6_init 44 = .ok (.aastore, 1) := by decide +kernel
theorem dX6_init_45 : decode cX6_init 45 = .ok (.iinc 6 1, 3) := by decide +kernel
theorem dX6_init_48 : decode cX6_init 48 = .ok (.goto (-27), 3) := by decide +kernel
theorem dX6_init_51 : decode cX6_init 51 = .ok (.aload_n 0, 1) := by decide +kernel
theorem dX6_init_52 : decode cX6_init 52 = .ok (.iload_n 2, 1) := by decide +kernel
theorem dX6_init_53 : decode cX6_init 53 = .ok (.iconst 0, 1) := by decide +kernel
theorem dX6_init_54 : decode cX6_init 54 = .ok (.bipush 16, 2) := by decide +kernel
theorem dX6_init_56 : decode cX6_init 56 = .ok (.invokestatic 9, 3) := by decide +kernel
theorem dX6_init_59 : decode cX6_init 59 = .ok (.newarray .int, 2) := by decide +kernel
theorem dX6_init_61 : decode cX6_init 61 = .ok (.putfield 20, 3) := by decide +kernel
theorem dX6_init_64 : decode cX6_init 64 = .ok (.aload_n 0, 1) := by decide +kernel
theorem dX6_init_65 : decode cX6_init 65 = .ok (.getfield 20, 3) := by decide +kernel
theorem dX6_init_68 : decode cX6_init 68 = .ok (.iconst (-1), 1) := by decide +kernel
theorem dX6_init_69 : decode cX6_init 69 = .ok (.invokestatic 24, 3) := by decide +kernel
theorem dX6_init_72 : decode cX6_init 72 = .ok (.aload_n 0, 1) := by decide +kernel
theorem dX6_init_73 : decode cX6_init 73 = .ok (.new 30, 3) := by decide +kernel
theorem dX6_init_76 : decode cX6_init 76 = .ok (.dup, 1) := by decide +kernel
theorem dX6_init_77 : decode cX6_init 77 = .ok (.iload_n 3, 1) := by decide +kernel
theorem dX6_init_78 : decode cX6_init 78 = .ok (.iconst 0, 1) := by decide +kernel
theorem dX6_init_79 : decode cX6_init 79 = .ok (.bipush 120, 2) := by decide +kernel
theorem dX6_init_81 : decode cX6_init 81 = .ok (.invokestatic 9, 3) := by decide +kernel
theorem dX6_init_84 : decode cX6_init 84 = .ok (.invokespecial 32, 3) := by decide +kernel
theorem dX6_init_87 : decode cX6_init 87 = .ok (.putfield 35, 3) := by decide +kernel
theorem dX6_init_90 : decode cX6_init 90 = .ok (.aload_n 0, 1) := by decide +kernel
theorem dX6_init_91 : decode cX6_init 91 = .ok (.new 39, 3) := by decide +kernel
theorem dX6_init_94 : decode cX6_init 94 = .ok (.dup, 1) := by decide +kernel
theorem dX6_init_95 : decode cX6_init 95 = .ok (.iload 4, 2) := by decide +kernel
theorem dX6_init_97 : decode cX6_init 97 = .ok (.iconst 0, 1) := by decide +kernel
theorem dX6_init_98 : decode cX6_init 98 = .ok (.bipush 100, 2) := by decide +kernel
theorem dX6_init_100 : decode cX6_init 100 = .ok (.invokestatic 9, 3) := by decide +kernel
theorem dX6_init_103 : decode cX6_init 103 = .ok (.invokespecial 41, 3) := by decide +kernel
theorem dX6_init_106 : decode cX6_init 106 = .ok (.putfield 42, 3) := by decide +kernel
theorem dX6_init_109 : decode cX6_init 109 = .ok (.aload_n 0, 1) := by decide +kernel
theorem dX6_init_110 : decode cX6_init 110 = .ok (.new 46, 3) := by decide +kernel
theorem dX6_init_113 : decode cX6_init 113 = .ok (.dup, 1) := by decide +kernel
theorem dX6_init_114 : decode cX6_init 114 = .ok (.invokespecial 48, 3) := by decide +kernel
theorem dX6_init_117 : decode cX6_init 117 = .ok (.putfield 49, 3) := by decide +kernel
theorem dX6_init_120 : decode cX6_init 120 = .ok (.aload_n 0, 1) := by decide +kernel
theorem dX6_init_121 : decode cX6_init 121 = .ok (.iload 5, 2) := by decide +kernel
theorem dX6_init_123 : decode cX6_init 123 = .ok (.iconst 1, 1) := by decide +kernel
theorem dX6_init_124 : decode cX6_init 124 = .ok (.sipush 20000, 3) := by decide +kernel
theorem dX6_init_127 : decode cX6_init 127 = .ok (.invokestatic 9, 3) := by decide +kernel
theorem dX6_init_130 : decode cX6_init 130 = .ok (.putfield 53, 3) := by decide +kernel
theorem dX6_init_133 : decode cX6_init 133 = .ok (.return_, 1) := by decide +kernel
theorem dX6_addTask_0 : decode cX6_addTask 0 = .ok (.iconst 0, 1) := by decide +kernel
theorem dX6_addTask_1 : decode cX6_addTask 1 = .ok (.iload_n 2, 1) := by decide +kernel
theorem dX6_addTask_2 : decode cX6_addTask 2 = .ok (.if_icmp .ge 25, 3) := by decide +kernel
theorem dX6_addTask_5 : decode cX6_addTask 5 = .ok (.iload_n 2, 1) := by decide +kernel
theorem dX6_addTask_6 : decode cX6_addTask 6 = .ok (.iload_n 3, 1) := by decide +kernel
theorem dX6_addTask_7 : decode cX6_addTask 7 = .ok (.if_icmp .gt 20, 3) := by decide +kernel
theorem dX6_addTask_10 : decode cX6_addTask 10 = .ok (.iload_n 3, 1) := by decide +kernel
theorem dX6_addTask_11 : decode cX6_addTask 11 = .ok (.iload_n 1, 1) := by decide +kernel
theorem dX6_addTask_12 : decode cX6_addTask 12 = .ok (.if_icmp .gt 15, 3) := by decide +kernel
theorem dX6_addTask_15 : decode cX6_addTask 15 = .ok (.iload_n 1, 1) := by decide +kernel
theorem dX6_addTask_16 : decode cX6_addTask 16 = .ok (.aload_n 0, 1) := by decide +kernel
theorem dX6_addTask_17 : decode cX6_addTask 17 = .ok (.getfield 53, 3) := by decide +kernel
theorem dX6_addTask_20 : decode cX6_addTask 20 = .ok (.if_icmp .gt 7, 3) := by decide +kernel
theorem dX6_addTask_23 : decode cX6_addTask 23 = .ok (.iconst 1, 1) := by decide +kernel
theorem dX6_addTask_24 : decode cX6_addTask 24 = .ok (.goto 4, 3) := by decide +kernel
theorem dX6_addTask_27 : decode cX6_addTask 27 = .ok (.iconst 0, 1) := by decide +kernel
theorem dX6_addTask_28 : decode cX6_addTask 28 = .ok (.istore 4, 2) := by decide +kernel
theorem dX6_addTask_30 : decode cX6_addTask 30 = .ok (.iload 4, 2) := by decide +kernel
theorem dX6_addTask_32 : decode cX6_addTask 32 = .ok (.ifCond .ne 6, 3) := by decide +kernel
theorem dX6_addTask_35 : decode cX6_addTask 35 = .ok (.bipush (-2), 2) := by decide +kernel
theorem dX6_addTask_37 : decode cX6_addTask 37 = .ok (.ireturn, 1) := by decide +kernel
theorem dX6_addTask_38 : decode cX6_addTask 38 = .ok (.iconst 0, 1) := by decide +kernel
theorem dX6_addTask_39 : decode cX6_addTask 39 = .ok (.istore 5, 2) := by decide +kernel
theorem dX6_addTask_41 : decode cX6_addTask 41 = .ok (.iload 5, 2) := by decide +kernel
theorem dX6_addTask_43 : decode cX6_addTask 43 = .ok (.aload_n 0, 1) := by decide +kernel
theorem dX6_addTask_44 : decode cX6_addTask 44 = .ok (.getfield 15, 3) := by decide +kernel
theorem dX6_addTask_47 : decode cX6_addTask 47 = .ok (.arraylength, 1) := by decide +kernel
theorem dX6_addTask_48 : decode cX6_addTask 48 = .ok (.if_icmp .ge 42, 3) := by decide +kernel
theorem dX6_addTask_51 : decode cX6_addTask 51 = .ok (.aload_n 0, 1) := by decide +kernel
theorem dX6_addTask_52 : decode cX6_addTask 52 = .ok (.getfield 15, 3) := by decide +kernel
theorem dX6_addTask_55 : decode cX6_addTask 55 = .ok (.iload 5, 2) := by decide +kernel
theorem dX6_addTask_57 : decode cX6_addTask 57 = .ok (.aaload, 1) := by decide +kernel
theorem dX6_addTask_58 : decode cX6_addTask 58 = .ok (.getfield 57, 3) := by decide +kernel
theorem dX6_addTask_61 : decode cX6_addTask 61 = .ok (.ifCond .ne 23, 3) := by decide +kernel
theorem dX6_addTask_64 : decode cX6_addTask 64 = .ok (.aload_n 0, 1) := by decide +kernel
theorem dX6_addTask_65 : decode cX6_addTask 65 = .ok (.getfield 15, 3) := by decide +kernel
theorem dX6_addTask_68 : decode cX6_addTask 68 = .ok (.iload 5, 2) := by decide +kernel
theorem dX6_addTask_70 : decode cX6_addTask 70 = .ok (.aaload, 1) := by decide +kernel
theorem dX6_addTask_71 : decode cX6_addTask 71 = .ok (.iload_n 1, 1) := by decide +kernel
theorem dX6_addTask_72 : decode cX6_addTask 72 = .ok (.iload_n 2, 1) := by decide +kernel
theorem dX6_addTask_73 : decode cX6_addTask 73 = .ok (.iload_n 3, 1) := by decide +kernel
theorem dX6_addTask_74 : decode cX6_addTask 74 = .ok (.aload_n 0, 1) := by decide +kernel
theorem dX6_addTask_75 : decode cX6_addTask 75 = .ok (.getfield 61, 3) := by decide +kernel
theorem dX6_addTask_78 : decode cX6_addTask 78 = .ok (.invokevirtual 64, 3) := by decide +kernel
theorem dX6_addTask_81 : decode cX6_addTask 81 = .ok (.iload 5, 2) := by decide +kernel
theorem dX6_addTask_83 : decode cX6_addTask 83 = .ok (.ireturn, 1) := by decide +kernel
theorem dX6_addTask_84 : decode cX6_addTask 84 = .ok (.iinc 5 1, 3) := by decide +kernel
theorem dX6_addTask_87 : decode cX6_addTask 87 = .ok (.goto (-46), 3) := by decide +kernel
theorem dX6_addTask_90 : decode cX6_addTask 90 = .ok (.iconst (-1), 1) := by decide +kernel
theorem dX6_addTask_91 : decode cX6_addTask 91 = .ok (.ireturn, 1) := by decide +kernel
theorem dX6_addSection_0 : decode cX6_addSection 0 = .ok (.aload_n 0, 1) := by decide +kernel
theorem dX6_addSection_1 : decode cX6_addSection 1 = .ok (.iload_n 1, 1) := by decide +kernel
theorem dX6_addSection_2 : decode cX6_addSection 2 = .ok (.invokevirtual 68, 3) := by decide +kernel
theorem dX6_addSection_5 : decode cX6_addSection 5 = .ok (.ifCond .eq 26, 3) := by decide +kernel
theorem dX6_addSection_8 : decode cX6_addSection 8 = .ok (.aload_n 0, 1) := by decide +kernel
theorem dX6_addSection_9 : decode cX6_addSection 9 = .ok (.iload_n 3, 1) := by decide +kernel
theorem dX6_addSection_10 : decode cX6_addSection 10 = .ok (.invokevirtual 72, 3) := by decide +kernel
theorem dX6_addSection_13 : decode cX6_addSection 13 = .ok (.ifCond .eq 18, 3) := by decide +kernel
theorem dX6_addSection_16 : decode cX6_addSection 16 = .ok (.aload_n 0, 1) := by decide +kernel
theorem dX6_addSection_17 : decode cX6_addSection 17 = .ok (.getfield 15, 3) := by decide +kernel
theorem dX6_addSection_20 : decode cX6_addSection 20 = .ok (.iload_n 1, 1) := by decide +kernel
theorem dX6_addSection_21 : decode cX6_addSection 21 = .ok (.aaload, 1) := by decide +kernel
theorem dX6_addSection_22 : decode cX6_addSection 22 = .ok (.getfield 75, 3) := by decide +kernel
theorem dX6_addSection_25 : decode cX6_addSection 25 = .ok (.getfield 79, 3) := by decide +kernel
theorem dX6_addSection_28 : decode cX6_addSection 28 = .ok (.ifCond .eq 5, 3) := by decide +kernel
theorem dX6_addSection_31 : decode cX6_addSection 31 = .ok (.iconst 0, 1) := by decide +kernel
theorem dX6_addSection_32 : decode cX6_addSection 32 = .ok (.ireturn, 1) := by decide +kernel
theorem dX6_addSection_33 : decode cX6_addSection 33 = .ok (.iload_n 2, 1) := by decide +kernel
theorem dX6_addSection_34 : decode cX6_addSection 34 = .ok (.ifCond .lt 25, 3) := by decide +kernel
theorem dX6_addSection_37 : decode cX6_addSection 37 = .ok (.iload 4, 2) := by decide +kernel
theorem dX6_addSection_39 : decode cX6_addSection 39 = .ok (.iconst 1, 1) := by decide +kernel
theorem dX6_addSection_40 : decode cX6_addSection 40 = .ok (.if_icmp .lt 19, 3) := by decide +kernel
theorem dX6_addSection_43 : decode cX6_addSection 43 = .ok (.iload 4, 2) := by decide +kernel
theorem dX6_addSection_45 : decode cX6_addSection 45 = .ok (.aload_n 0, 1) := by decide +kernel
theorem dX6_addSection_46 : decode cX6_addSection 46 = .ok (.getfield 15, 3) := by decide +kernel
theorem dX6_addSection_49 : decode cX6_addSection 49 = .ok (.iload_n 1, 1) := by decide +kernel
theorem dX6_addSection_50 : decode cX6_addSection 50 = .ok (.aaload, 1) := by decide +kernel
theorem dX6_addSection_51 : decode cX6_addSection 51 = .ok (.getfield 84, 3) := by decide +kernel
theorem dX6_addSection_54 : decode cX6_addSection 54 = .ok (.iload_n 2, 1) := by decide +kernel
theorem dX6_addSection_55 : decode cX6_addSection 55 = .ok (.isub, 1) := by decide +kernel
theorem dX6_addSection_56 : decode cX6_addSection 56 = .ok (.if_icmp .le 5, 3) := by decide +kernel
theorem dX6_addSection_59 : decode cX6_addSection 59 = .ok (.iconst 0, 1) := by decide +kernel
theorem dX6_addSection_60 : decode cX6_addSection 60 = .ok (.ireturn, 1) := by decide +kernel
theorem dX6_addSection_61 : decode cX6_addSection 61 = .ok (.aload_n 0, 1) := by decide +kernel
theorem dX6_addSection_62 : decode cX6_addSection 62 = .ok (.getfield 35, 3) := by decide +kernel
theorem dX6_addSection_65 : decode cX6_addSection 65 = .ok (.new 87, 3) := by decide +kernel
theorem dX6_addSection_68 : decode cX6_addSection 68 = .ok (.dup, 1) := by decide +kernel
theorem dX6_addSection_69 : decode cX6_addSection 69 = .ok (.iload_n 1, 1) := by decide +kernel
theorem dX6_addSection_70 : decode cX6_addSection 70 = .ok (.iload_n 2, 1) := by decide +kernel
theorem dX6_addSection_71 : decode cX6_addSection 71 = .ok (.iload_n 3, 1) := by decide +kernel
theorem dX6_addSection_72 : decode cX6_addSection 72 = .ok (.iload 4, 2) := by decide +kernel
theorem dX6_addSection_74 : decode cX6_addSection 74 = .ok (.invokespecial 89, 3) := by decide +kernel
theorem dX6_addSection_77 : decode cX6_addSection 77 = .ok (.invokevirtual 91, 3) := by decide +kernel
theorem dX6_addSection_80 : decode cX6_addSection 80 = .ok (.ireturn, 1) := by decide +kernel
theorem dX6_removeTask_0 : decode cX6_removeTask 0 = .ok (.aload_n 0, 1) := by decide +kernel
theorem dX6_removeTask_1 : decode cX6_removeTask 1 = .ok (.iload_n 1, 1) := by decide +kernel
theorem dX6_removeTask_2 : decode cX6_removeTask 2 = .ok (.invokevirtual 68, 3) := by decide +kernel
theorem dX6_removeTask_5 : decode cX6_removeTask 5 = .ok (.ifCond .ne 5, 3) := by decide +kernel
theorem dX6_removeTask_8 : decode cX6_removeTask 8 = .ok (.iconst 0, 1) := by decide +kernel
theorem dX6_removeTask_9 : decode cX6_removeTask 9 = .ok (.ireturn, 1) := by decide +kernel
theorem dX6_removeTask_10 : decode cX6_removeTask 10 = .ok (.aload_n 0, 1) := by decide +kernel
theorem dX6_removeTask_11 : decode cX6_removeTask 11 = .ok (.getfield 15, 3) := by decide +kernel
theorem dX6_removeTask_14 : decode cX6_removeTask 14 = .ok (.iload_n 1, 1) := by decide +kernel
theorem dX6_removeTask_15 : decode cX6_removeTask 15 = .ok (.aaload, 1) := by decide +kernel
theorem dX6_removeTask_16 : decode cX6_removeTask 16 = .ok (.iconst 0, 1) := by decide +kernel
theorem dX6_removeTask_17 : decode cX6_removeTask 17 = .ok (.putfield 57, 3) := by decide +kernel
theorem dX6_removeTask_20 : decode cX6_removeTask 20 = .ok (.aload_n 0, 1) := by decide +kernel
theorem dX6_removeTask_21 : decode cX6_removeTask 21 = .ok (.iload_n 1, 1) := by decide +kernel
theorem dX6_removeTask_22 : decode cX6_removeTask 22 = .ok (.invokevirtual 95, 3) := by decide +kernel
theorem dX6_removeTask_25 : decode cX6_removeTask 25 = .ok (.aload_n 0, 1) := by decide +kernel
theorem dX6_removeTask_26 : decode cX6_removeTask 26 = .ok (.getfield 35, 3) := by decide +kernel
theorem dX6_removeTask_29 : decode cX6_removeTask 29 = .ok (.iload_n 1, 1) := by decide +kernel
theorem dX6_removeTask_30 : decode cX6_removeTask 30 = .ok (.invokevirtual 98, 3) := by decide +kernel
theorem dX6_removeTask_33 : decode cX6_removeTask 33 = .ok (.iconst 1, 1) := by decide +kernel
theorem dX6_removeTask_34 : decode cX6_removeTask 34 = .ok (.ireturn, 1) := by decide +kernel
theorem dX6_admissible_0 : decode cX6_admissible 0 = .ok (.aload_n 0, 1) := by decide +kernel
theorem dX6_admissible_1 : decode cX6_admissible 1 = .ok (.getfield 53, 3) := by decide +kernel
theorem dX6_admissible_4 : decode cX6_admissible 4 = .ok (.istore_n 1, 1) := by decide +kernel
theorem dX6_admissible_5 : decode cX6_admissible 5 = .ok (.iload_n 1, 1) := by decide +kernel
theorem dX6_admissible_6 : decode cX6_admissible 6 = .ok (.ifCond .le 26, 3) := by decide +kernel
theorem dX6_admissible_9 : decode cX6_admissible 9 = .ok (.aload_n 0, 1) := by decide +kernel
theorem dX6_admissible_10 : decode cX6_admissible 10 = .ok (.iload_n 1, 1) := by decide +kernel
theorem dX6_admissible_11 : decode cX6_admissible 11 = .ok (.iconst 1, 1) := by decide +kernel
theorem dX6_admissible_12 : decode cX6_admissible 12 = .ok (.isub, 1) := by decide +kernel
theorem dX6_admissible_13 : decode cX6_admissible 13 = .ok (.invokevirtual 101, 3) := by decide +kernel
theorem dX6_admissible_16 : decode cX6_admissible 16 = .ok (.lstore_n 2, 1) := by decide +kernel
theorem dX6_admissible_17 : decode cX6_admissible 17 = .ok (.lload_n 2, 1) := by decide +kernel
theorem dX6_admissible_18 : decode cX6_admissible 18 = .ok (.iload_n 1, 1) := by decide +kernel
theorem dX6_admissible_19 : decode cX6_admissible 19 = .ok (.i2l, 1) := by decide +kernel
theorem dX6_admissible_20 : decode cX6_admissible 20 = .ok (.lcmp, 1) := by decide +kernel
theorem dX6_admissible_21 : decode cX6_admissible 21 = .ok (.ifCond .lt 5, 3) := by decide +kernel
theorem dX6_admissible_24 : decode cX6_admissible 24 = .ok (.iconst 0, 1) := by decide +kernel
theorem dX6_admissible_25 : decode cX6_admissible 25 = .ok (.ireturn, 1) := by decide +kernel
theorem dX6_admissible_26 : decode cX6_admissible 26 = .ok (.lload_n 2, 1) := by decide +kernel
theorem dX6_admissible_27 : decode cX6_admissible 27 = .ok (.l2i, 1) := by decide +kernel
theorem dX6_admissible_28 : decode cX6_admissible 28 = .ok (.istore_n 1, 1) := by decide +kernel
theorem dX6_admissible_29 : decode cX6_admissible 29 = .ok (.goto (-24), 3) := by decide +kernel
theorem dX6_admissible_32 : decode cX6_admissible 32 = .ok (.iconst 1, 1) := by decide +kernel
theorem dX6_admissible_33 : decode cX6_admissible 33 = .ok (.ireturn, 1) := by decide +kernel
theorem dX6_tick_0 : decode cX6_tick 0 = .ok (.aload_n 0, 1) := by decide +kernel
theorem dX6_tick_1 : decode cX6_tick 1 = .ok (.getfield 61, 3) := by decide +kernel
theorem dX6_tick_4 : decode cX6_tick 4 = .ok (.aload_n 0, 1) := by decide +kernel
theorem dX6_tick_5 : decode cX6_tick 5 = .ok (.getfield 53, 3) := by decide +kernel
theorem dX6_tick_8 : decode cX6_tick 8 = .ok (.if_icmp .ge 10, 3) := by decide +kernel
theorem dX6_tick_11 : decode cX6_tick 11 = .ok (.aload_n 0, 1) := by decide +kernel
theorem dX6_tick_12 : decode cX6_tick 12 = .ok (.invokevirtual 105, 3) := by decide +kernel
theorem dX6_tick_15 : decode cX6_tick 15 = .ok (.goto 5, 3) := by decide +kernel
theorem dX6_tick_18 : decode cX6_tick 18 = .ok (.bipush (-2), 2) := by decide +kernel
theorem dX6_tick_20 : decode cX6_tick 20 = .ok (.ireturn, 1) := by decide +kernel
theorem dX6_run_0 : decode cX6_run 0 = .ok (.iload_n 1, 1) := by decide +kernel
theorem dX6_run_1 : decode cX6_run 1 = .ok (.ifCond .lt 10, 3) := by decide +kernel
theorem dX6_run_4 : decode cX6_run 4 = .ok (.iload_n 1, 1) := by decide +kernel
theorem dX6_run_5 : decode cX6_run 5 = .ok (.sipush 2000, 3) := by decide +kernel
theorem dX6_run_8 : decode cX6_run 8 = .ok (.if_icmp .le 5, 3) := by decide +kernel
theorem dX6_run_11 : decode cX6_run 11 = .ok (.iconst (-1), 1) := by decide +kernel
theorem dX6_run_12 : decode cX6_run 12 = .ok (.ireturn, 1) := by decide +kernel
theorem dX6_run_13 : decode cX6_run 13 = .ok (.aload_n 0, 1) := by decide +kernel
theorem dX6_run_14 : decode cX6_run 14 = .ok (.getfield 42, 3) := by decide +kernel
theorem dX6_run_17 : decode cX6_run 17 = .ok (.getfield 109, 3) := by decide +kernel
theorem dX6_run_20 : decode cX6_run 20 = .ok (.istore_n 2, 1) := by decide +kernel
theorem dX6_run_21 : decode cX6_run 21 = .ok (.iconst 0, 1) := by decide +kernel
theorem dX6_run_22 : decode cX6_run 22 = .ok (.istore_n 3, 1) := by decide +kernel
theorem dX6_run_23 : decode cX6_run 23 = .ok (.iload_n 3, 1) := by decide +kernel
theorem dX6_run_24 : decode cX6_run 24 = .ok (.iload_n 1, 1) := by decide +kernel
theorem dX6_run_25 : decode cX6_run 25 = .ok (.if_icmp .ge 36, 3) := by decide +kernel
theorem dX6_run_28 : decode cX6_run 28 = .ok (.aload_n 0, 1) := by decide +kernel
theorem dX6_run_29 : decode cX6_run 29 = .ok (.getfield 61, 3) := by decide +kernel
theorem dX6_run_32 : decode cX6_run 32 = .ok (.aload_n 0, 1) := by decide +kernel
theorem dX6_run_33 : decode cX6_run 33 = .ok (.getfield 53, 3) := by decide +kernel
theorem dX6_run_36 : decode cX6_run 36 = .ok (.if_icmp .ge 25, 3) := by decide +kernel
theorem dX6_run_39 : decode cX6_run 39 = .ok (.aload_n 0, 1) := by decide +kernel
theorem dX6_run_40 : decode cX6_run 40 = .ok (.getfield 42, 3) := by decide +kernel
theorem dX6_run_43 : decode cX6_run 43 = .ok (.getfield 109, 3) := by decide +kernel
theorem dX6_run_46 : decode cX6_run 46 = .ok (.iload_n 2, 1) := by decide +kernel
theorem dX6_run_47 : decode cX6_run 47 = .ok (.if_icmp .ne 14, 3) := by decide +kernel
theorem dX6_run_50 : decode cX6_run 50 = .ok (.aload_n 0, 1) := by decide +kernel
theorem dX6_run_51 : decode cX6_run 51 = .ok (.invokevirtual 105, 3) := by decide +kernel
theorem dX6_run_54 : decode cX6_run 54 = .ok (.pop, 1) := by decide +kernel
theorem dX6_run_55 : decode cX6_run 55 = .ok (.iinc 3 1, 3) := by decide +kernel
theorem dX6_run_58 : decode cX6_run 58 = .ok (.goto (-35), 3) := by decide +kernel
theorem dX6_run_61 : decode cX6_run 61 = .ok (.iload_n 3, 1) := by decide +kernel
theorem dX6_run_62 : decode cX6_run 62 = .ok (.ireturn, 1) := by decide +kernel
theorem dX6_ran_0 : decode cX6_ran 0 = .ok (.aload_n 0, 1) := by decide +kernel
theorem dX6_ran_1 : decode cX6_ran 1 = .ok (.getfield 49, 3) := by decide +kernel
theorem dX6_ran_4 : decode cX6_ran 4 = .ok (.iload_n 1, 1) := by decide +kernel
theorem dX6_ran_5 : decode cX6_ran 5 = .ok (.invokevirtual 112, 3) := by decide +kernel
theorem dX6_ran_8 : decode cX6_ran 8 = .ok (.ireturn, 1) := by decide +kernel
theorem dX6_remaining_0 : decode cX6_remaining 0 = .ok (.aload_n 0, 1) := by decide +kernel
theorem dX6_remaining_1 : decode cX6_remaining 1 = .ok (.iload_n 1, 1) := by decide +kernel
theorem dX6_remaining_2 : decode cX6_remaining 2 = .ok (.invokevirtual 116, 3) := by decide +kernel
theorem dX6_remaining_5 : decode cX6_remaining 5 = .ok (.ifCond .eq 28, 3) := by decide +kernel
theorem dX6_remaining_8 : decode cX6_remaining 8 = .ok (.aload_n 0, 1) := by decide +kernel
theorem dX6_remaining_9 : decode cX6_remaining 9 = .ok (.getfield 15, 3) := by decide +kernel
theorem dX6_remaining_12 : decode cX6_remaining 12 = .ok (.iload_n 1, 1) := by decide +kernel
theorem dX6_remaining_13 : decode cX6_remaining 13 = .ok (.aaload, 1) := by decide +kernel
theorem dX6_remaining_14 : decode cX6_remaining 14 = .ok (.getfield 84, 3) := by decide +kernel
theorem dX6_remaining_17 : decode cX6_remaining 17 = .ok (.aload_n 0, 1) := by decide +kernel
theorem dX6_remaining_18 : decode cX6_remaining 18 = .ok (.getfield 15, 3) := by decide +kernel
theorem dX6_remaining_21 : decode cX6_remaining 21 = .ok (.iload_n 1, 1) := by decide +kernel
theorem dX6_remaining_22 : decode cX6_remaining 22 = .ok (.aaload, 1) := by decide +kernel
theorem dX6_remaining_23 : decode cX6_remaining 23 = .ok (.getfield 75, 3) := by decide +kernel
theorem dX6_remaining_26 : decode cX6_remaining 26 = .ok (.getfield 119, 3) := by decide +kernel
theorem dX6_remaining_29 : decode cX6_remaining 29 = .ok (.isub, 1) := by decide +kernel
theorem dX6_remaining_30 : decode cX6_remaining 30 = .ok (.goto 4, 3) := by decide +kernel
theorem dX6_remaining_33 : decode cX6_remaining 33 = .ok (.iconst 0, 1) := by decide +kernel
theorem dX6_remaining_34 : decode cX6_remaining 34 = .ok (.ireturn, 1) := by decide +kernel
theorem dX6_deadlineOf_0 : decode cX6_deadlineOf 0 = .ok (.aload_n 0, 1) := by decide +kernel
theorem dX6_deadlineOf_1 : decode cX6_deadlineOf 1 = .ok (.iload_n 1, 1) := by decide +kernel
theorem dX6_deadlineOf_2 : decode cX6_deadlineOf 2 = .ok (.invokevirtual 116, 3) := by decide +kernel
theorem dX6_deadlineOf_5 : decode cX6_deadlineOf 5 = .ok (.ifCond .eq 18, 3) := by decide +kernel
theorem dX6_deadlineOf_8 : decode cX6_deadlineOf 8 = .ok (.aload_n 0, 1) := by decide +kernel
theorem dX6_deadlineOf_9 : decode cX6_deadlineOf 9 = .ok (.getfield 15, 3) := by decide +kernel
theorem dX6_deadlineOf_12 : decode cX6_deadlineOf 12 = .ok (.iload_n 1, 1) := by decide +kernel
theorem dX6_deadlineOf_13 : decode cX6_deadlineOf 13 = .ok (.aaload, 1) := by decide +kernel
theorem dX6_deadlineOf_14 : decode cX6_deadlineOf 14 = .ok (.getfield 75, 3) := by decide +kernel
theorem dX6_deadlineOf_17 : decode cX6_deadlineOf 17 = .ok (.getfield 122, 3) := by decide +kernel
theorem dX6_deadlineOf_20 : decode cX6_deadlineOf 20 = .ok (.goto 4, 3) := by decide +kernel
theorem dX6_deadlineOf_23 : decode cX6_deadlineOf 23 = .ok (.iconst (-1), 1) := by decide +kernel
theorem dX6_deadlineOf_24 : decode cX6_deadlineOf 24 = .ok (.ireturn, 1) := by decide +kernel
theorem dX6_effective_0 : decode cX6_effective 0 = .ok (.aload_n 0, 1) := by decide +kernel
theorem dX6_effective_1 : decode cX6_effective 1 = .ok (.iload_n 1, 1) := by decide +kernel
theorem dX6_effective_2 : decode cX6_effective 2 = .ok (.invokevirtual 116, 3) := by decide +kernel
theorem dX6_effective_5 : decode cX6_effective 5 = .ok (.ifCond .ne 5, 3) := by decide +kernel
theorem dX6_effective_8 : decode cX6_effective 8 = .ok (.iconst (-1), 1) := by decide +kernel
theorem dX6_effective_9 : decode cX6_effective 9 = .ok (.ireturn, 1) := by decide +kernel
theorem dX6_effective_10 : decode cX6_effective 10 = .ok (.aload_n 0, 1) := by decide +kernel
theorem dX6_effective_11 : decode cX6_effective 11 = .ok (.invokevirtual 125, 3) := by decide +kernel
theorem dX6_effective_14 : decode cX6_effective 14 = .ok (.aload_n 0, 1) := by decide +kernel
theorem dX6_effective_15 : decode cX6_effective 15 = .ok (.getfield 15, 3) := by decide +kernel
theorem dX6_effective_18 : decode cX6_effective 18 = .ok (.iload_n 1, 1) := by decide +kernel
theorem dX6_effective_19 : decode cX6_effective 19 = .ok (.aaload, 1) := by decide +kernel
theorem dX6_effective_20 : decode cX6_effective 20 = .ok (.getfield 75, 3) := by decide +kernel
theorem dX6_effective_23 : decode cX6_effective 23 = .ok (.getfield 128, 3) := by decide +kernel
theorem dX6_effective_26 : decode cX6_effective 26 = .ok (.ireturn, 1) := by decide +kernel
theorem dX6_waitsFor_0 : decode cX6_waitsFor 0 = .ok (.aload_n 0, 1) := by decide +kernel
theorem dX6_waitsFor_1 : decode cX6_waitsFor 1 = .ok (.iload_n 1, 1) := by decide +kernel
theorem dX6_waitsFor_2 : decode cX6_waitsFor 2 = .ok (.invokevirtual 116, 3) := by decide +kernel
theorem dX6_waitsFor_5 : decode cX6_waitsFor 5 = .ok (.ifCond .eq 18, 3) := by decide +kernel
theorem dX6_waitsFor_8 : decode cX6_waitsFor 8 = .ok (.aload_n 0, 1) := by decide +kernel
theorem dX6_waitsFor_9 : decode cX6_waitsFor 9 = .ok (.getfield 15, 3) := by decide +kernel
theorem dX6_waitsFor_12 : decode cX6_waitsFor 12 = .ok (.iload_n 1, 1) := by decide +kernel
theorem dX6_waitsFor_13 : decode cX6_waitsFor 13 = .ok (.aaload, 1) := by decide +kernel
theorem dX6_waitsFor_14 : decode cX6_waitsFor 14 = .ok (.getfield 75, 3) := by decide +kernel
theorem dX6_waitsFor_17 : decode cX6_waitsFor 17 = .ok (.getfield 131, 3) := by decide +kernel
theorem dX6_waitsFor_20 : decode cX6_waitsFor 20 = .ok (.goto 4, 3) := by decide +kernel
theorem dX6_waitsFor_23 : decode cX6_waitsFor 23 = .ok (.iconst (-1), 1) := by decide +kernel
theorem dX6_waitsFor_24 : decode cX6_waitsFor 24 = .ok (.ireturn, 1) := by decide +kernel
theorem dX6_owner_0 : decode cX6_owner 0 = .ok (.aload_n 0, 1) := by decide +kernel
theorem dX6_owner_1 : decode cX6_owner 1 = .ok (.iload_n 1, 1) := by decide +kernel
theorem dX6_owner_2 : decode cX6_owner 2 = .ok (.invokevirtual 72, 3) := by decide +kernel
theorem dX6_owner_5 : decode cX6_owner 5 = .ok (.ifCond .eq 12, 3) := by decide +kernel
theorem dX6_owner_8 : decode cX6_owner 8 = .ok (.aload_n 0, 1) := by decide +kernel
theorem dX6_owner_9 : decode cX6_owner 9 = .ok (.getfield 20, 3) := by decide +kernel
theorem dX6_owner_12 : decode cX6_owner 12 = .ok (.iload_n 1, 1) := by decide +kernel
theorem dX6_owner_13 : decode cX6_owner 13 = .ok (.iaload, 1) := by decide +kernel
theorem dX6_owner_14 : decode cX6_owner 14 = .ok (.goto 4, 3) := by decide +kernel
theorem dX6_owner_17 : decode cX6_owner 17 = .ok (.iconst (-1), 1) := by decide +kernel
theorem dX6_owner_18 : decode cX6_owner 18 = .ok (.ireturn, 1) := by decide +kernel
theorem dX6_waiters_0 : decode cX6_waiters 0 = .ok (.aload_n 0, 1) := by decide +kernel
theorem dX6_waiters_1 : decode cX6_waiters 1 = .ok (.iload_n 1, 1) := by decide +kernel
theorem dX6_waiters_2 : decode cX6_waiters 2 = .ok (.invokevirtual 72, 3) := by decide +kernel
theorem dX6_waiters_5 : decode cX6_waiters 5 = .ok (.ifCond .ne 5, 3) := by decide +kernel
theorem dX6_waiters_8 : decode cX6_waiters 8 = .ok (.iconst 0, 1) := by decide +kernel
theorem dX6_waiters_9 : decode cX6_waiters 9 = .ok (.ireturn, 1) := by decide +kernel
theorem dX6_waiters_10 : decode cX6_waiters 10 = .ok (.iconst 0, 1) := by decide +kernel
theorem dX6_waiters_11 : decode cX6_waiters 11 = .ok (.istore_n 2, 1) := by decide +kernel
theorem dX6_waiters_12 : decode cX6_waiters 12 = .ok (.aload_n 0, 1) := by decide +kernel
theorem dX6_waiters_13 : decode cX6_waiters 13 = .ok (.getfield 15, 3) := by decide +kernel
theorem dX6_waiters_16 : decode cX6_waiters 16 = .ok (.astore_n 3, 1) := by decide +kernel
theorem dX6_waiters_17 : decode cX6_waiters 17 = .ok (.aload_n 3, 1) := by decide +kernel
theorem dX6_waiters_18 : decode cX6_waiters 18 = .ok (.arraylength, 1) := by decide +kernel
theorem dX6_waiters_19 : decode cX6_waiters 19 = .ok (.istore 4, 2) := by decide +kernel
theorem dX6_waiters_21 : decode cX6_waiters 21 = .ok (.iconst 0, 1) := by decide +kernel
theorem dX6_waiters_22 : decode cX6_waiters 22 = .ok (.istore 5, 2) := by decide +kernel
theorem dX6_waiters_24 : decode cX6_waiters 24 = .ok (.iload 5, 2) := by decide +kernel
theorem dX6_waiters_26 : decode cX6_waiters 26 = .ok (.iload 4, 2) := by decide +kernel
theorem dX6_waiters_28 : decode cX6_waiters 28 = .ok (.if_icmp .ge 41, 3) := by decide +kernel
theorem dX6_waiters_31 : decode cX6_waiters 31 = .ok (.aload_n 3, 1) := by decide +kernel
theorem dX6_waiters_32 : decode cX6_waiters 32 = .ok (.iload 5, 2) := by decide +kernel
theorem dX6_waiters_34 : decode cX6_waiters 34 = .ok (.aaload, 1) := by decide +kernel
theorem dX6_waiters_35 : decode cX6_waiters 35 = .ok (.astore 6, 2) := by decide +kernel
theorem dX6_waiters_37 : decode cX6_waiters 37 = .ok (.aload 6, 2) := by decide +kernel
theorem dX6_waiters_39 : decode cX6_waiters 39 = .ok (.getfield 75, 3) := by decide +kernel
theorem dX6_waiters_42 : decode cX6_waiters 42 = .ok (.getfield 79, 3) := by decide +kernel
theorem dX6_waiters_45 : decode cX6_waiters 45 = .ok (.ifCond .eq 18, 3) := by decide +kernel
theorem dX6_waiters_48 : decode cX6_waiters 48 = .ok (.aload 6, 2) := by decide +kernel
theorem dX6_waiters_50 : decode cX6_waiters 50 = .ok (.getfield 75, 3) := by decide +kernel
theorem dX6_waiters_53 : decode cX6_waiters 53 = .ok (.getfield 131, 3) := by decide +kernel
theorem dX6_waiters_56 : decode cX6_waiters 56 = .ok (.iload_n 1, 1) := by decide +kernel
theorem dX6_waiters_57 : decode cX6_waiters 57 = .ok (.if_icmp .ne 6, 3) := by decide +kernel
theorem dX6_waiters_60 : decode cX6_waiters 60 = .ok (.iinc 2 1, 3) := by decide +kernel
theorem dX6_waiters_63 : decode cX6_waiters 63 = .ok (.iinc 5 1, 3) := by decide +kernel
theorem dX6_waiters_66 : decode cX6_waiters 66 = .ok (.goto (-42), 3) := by decide +kernel
theorem dX6_waiters_69 : decode cX6_waiters 69 = .ok (.iload_n 2, 1) := by decide +kernel
theorem dX6_waiters_70 : decode cX6_waiters 70 = .ok (.ireturn, 1) := by decide +kernel
theorem dX6_missCount_0 : decode cX6_missCount 0 = .ok (.aload_n 0, 1) := by decide +kernel
theorem dX6_missCount_1 : decode cX6_missCount 1 = .ok (.getfield 42, 3) := by decide +kernel
theorem dX6_missCount_4 : decode cX6_missCount 4 = .ok (.getfield 109, 3) := by decide +kernel
theorem dX6_missCount_7 : decode cX6_missCount 7 = .ok (.ireturn, 1) := by decide +kernel
theorem dX6_miss_0 : decode cX6_miss 0 = .ok (.aload_n 0, 1) := by decide +kernel
theorem dX6_miss_1 : decode cX6_miss 1 = .ok (.getfield 42, 3) := by decide +kernel
theorem dX6_miss_4 : decode cX6_miss 4 = .ok (.iload_n 1, 1) := by decide +kernel
theorem dX6_miss_5 : decode cX6_miss 5 = .ok (.invokevirtual 134, 3) := by decide +kernel
theorem dX6_miss_8 : decode cX6_miss 8 = .ok (.ifCond .ne 5, 3) := by decide +kernel
theorem dX6_miss_11 : decode cX6_miss 11 = .ok (.iconst (-1), 1) := by decide +kernel
theorem dX6_miss_12 : decode cX6_miss 12 = .ok (.ireturn, 1) := by decide +kernel
theorem dX6_miss_13 : decode cX6_miss 13 = .ok (.iload_n 2, 1) := by decide +kernel
theorem dX6_miss_14 : decode cX6_miss 14 = .ok (.lookupswitch 46 #[(0, 26), (1, 36)], 26) := by decide +kernel
theorem dX6_miss_40 : decode cX6_miss 40 = .ok (.aload_n 0, 1) := by decide +kernel
theorem dX6_miss_41 : decode cX6_miss 41 = .ok (.getfield 42, 3) := by decide +kernel
theorem dX6_miss_44 : decode cX6_miss 44 = .ok (.getfield 137, 3) := by decide +kernel
theorem dX6_miss_47 : decode cX6_miss 47 = .ok (.iload_n 1, 1) := by decide +kernel
theorem dX6_miss_48 : decode cX6_miss 48 = .ok (.iaload, 1) := by decide +kernel
theorem dX6_miss_49 : decode cX6_miss 49 = .ok (.ireturn, 1) := by decide +kernel
theorem dX6_miss_50 : decode cX6_miss 50 = .ok (.aload_n 0, 1) := by decide +kernel
theorem dX6_miss_51 : decode cX6_miss 51 = .ok (.getfield 42, 3) := by decide +kernel
theorem dX6_miss_54 : decode cX6_miss 54 = .ok (.getfield 140, 3) := by decide +kernel
theorem dX6_miss_57 : decode cX6_miss 57 = .ok (.iload_n 1, 1) := by decide +kernel
theorem dX6_miss_58 : decode cX6_miss 58 = .ok (.iaload, 1) := by decide +kernel
theorem dX6_miss_59 : decode cX6_miss 59 = .ok (.ireturn, 1) := by decide +kernel
theorem dX6_miss_60 : decode cX6_miss 60 = .ok (.iconst (-1), 1) := by decide +kernel
theorem dX6_miss_61 : decode cX6_miss 61 = .ok (.ireturn, 1) := by decide +kernel
theorem dX6_task_0 : decode cX6_task 0 = .ok (.aload_n 0, 1) := by decide +kernel
theorem dX6_task_1 : decode cX6_task 1 = .ok (.iload_n 1, 1) := by decide +kernel
theorem dX6_task_2 : decode cX6_task 2 = .ok (.invokevirtual 68, 3) := by decide +kernel
theorem dX6_task_5 : decode cX6_task 5 = .ok (.ifCond .ne 5, 3) := by decide +kernel
theorem dX6_task_8 : decode cX6_task 8 = .ok (.iconst (-1), 1) := by decide +kernel
theorem dX6_task_9 : decode cX6_task 9 = .ok (.ireturn, 1) := by decide +kernel
theorem dX6_task_10 : decode cX6_task 10 = .ok (.aload_n 0, 1) := by decide +kernel
theorem dX6_task_11 : decode cX6_task 11 = .ok (.getfield 15, 3) := by decide +kernel
theorem dX6_task_14 : decode cX6_task 14 = .ok (.iload_n 1, 1) := by decide +kernel
theorem dX6_task_15 : decode cX6_task 15 = .ok (.aaload, 1) := by decide +kernel
theorem dX6_task_16 : decode cX6_task 16 = .ok (.astore_n 3, 1) := by decide +kernel
theorem dX6_task_17 : decode cX6_task 17 = .ok (.iload_n 2, 1) := by decide +kernel
theorem dX6_task_18 : decode cX6_task 18 = .ok (.tableswitch 117 0 10 #[58, 63, 68, 73, 78, 87, 92, 97, 102, 107, 112], 58) := by decide +kernel
theorem dX6_task_76 : decode cX6_task 76 = .ok (.aload_n 3, 1) := by decide +kernel
theorem dX6_task_77 : decode cX6_task 77 = .ok (.getfield 143, 3) := by decide +kernel
theorem dX6_task_80 : decode cX6_task 80 = .ok (.ireturn, 1) := by decide +kernel
theorem dX6_task_81 : decode cX6_task 81 = .ok (.aload_n 3, 1) := by decide +kernel
theorem dX6_task_82 : decode cX6_task 82 = .ok (.getfield 84, 3) := by decide +kernel
theorem dX6_task_85 : decode cX6_task 85 = .ok (.ireturn, 1) := by decide +kernel
theorem dX6_task_86 : decode cX6_task 86 = .ok (.aload_n 3, 1) := by decide +kernel
theorem dX6_task_87 : decode cX6_task 87 = .ok (.getfield 146, 3) := by decide +kernel
theorem dX6_task_90 : decode cX6_task 90 = .ok (.ireturn, 1) := by decide +kernel
theorem dX6_task_91 : decode cX6_task 91 = .ok (.aload_n 3, 1) := by decide +kernel
theorem dX6_task_92 : decode cX6_task 92 = .ok (.getfield 149, 3) := by decide +kernel
theorem dX6_task_95 : decode cX6_task 95 = .ok (.ireturn, 1) := by decide +kernel
theorem dX6_task_96 : decode cX6_task 96 = .ok (.aload_n 0, 1) := by decide +kernel
theorem dX6_task_97 : decode cX6_task 97 = .ok (.getfield 35, 3) := by decide +kernel
theorem dX6_task_100 : decode cX6_task 100 = .ok (.iload_n 1, 1) := by decide +kernel
theorem dX6_task_101 : decode cX6_task 101 = .ok (.invokevirtual 152, 3) := by decide +kernel
theorem dX6_task_104 : decode cX6_task 104 = .ok (.ireturn, 1) := by decide +kernel
theorem dX6_task_105 : decode cX6_task 105 = .ok (.aload_n 3, 1) := by decide +kernel
theorem dX6_task_106 : decode cX6_task 106 = .ok (.getfield 155, 3) := by decide +kernel
theorem dX6_task_109 : decode cX6_task 109 = .ok (.ireturn, 1) := by decide +kernel
theorem dX6_task_110 : decode cX6_task 110 = .ok (.aload_n 3, 1) := by decide +kernel
theorem dX6_task_111 : decode cX6_task 111 = .ok (.getfield 158, 3) := by decide +kernel
theorem dX6_task_114 : decode cX6_task 114 = .ok (.ireturn, 1) := by decide +kernel
theorem dX6_task_115 : decode cX6_task 115 = .ok (.aload_n 3, 1) := by decide +kernel
theorem dX6_task_116 : decode cX6_task 116 = .ok (.getfield 161, 3) := by decide +kernel
theorem dX6_task_119 : decode cX6_task 119 = .ok (.ireturn, 1) := by decide +kernel
theorem dX6_task_120 : decode cX6_task 120 = .ok (.aload_n 3, 1) := by decide +kernel
theorem dX6_task_121 : decode cX6_task 121 = .ok (.getfield 164, 3) := by decide +kernel
theorem dX6_task_124 : decode cX6_task 124 = .ok (.ireturn, 1) := by decide +kernel
theorem dX6_task_125 : decode cX6_task 125 = .ok (.aload_n 3, 1) := by decide +kernel
theorem dX6_task_126 : decode cX6_task 126 = .ok (.getfield 167, 3) := by decide +kernel
theorem dX6_task_129 : decode cX6_task 129 = .ok (.ireturn, 1) := by decide +kernel
theorem dX6_task_130 : decode cX6_task 130 = .ok (.aload_n 3, 1) := by decide +kernel
theorem dX6_task_131 : decode cX6_task 131 = .ok (.getfield 170, 3) := by decide +kernel
theorem dX6_task_134 : decode cX6_task 134 = .ok (.ireturn, 1) := by decide +kernel
theorem dX6_task_135 : decode cX6_task 135 = .ok (.iconst (-1), 1) := by decide +kernel
theorem dX6_task_136 : decode cX6_task 136 = .ok (.ireturn, 1) := by decide +kernel
theorem dX6_count_0 : decode cX6_count 0 = .ok (.iload_n 1, 1) := by decide +kernel
theorem dX6_count_1 : decode cX6_count 1 = .ok (.tableswitch 81 0 6 #[43, 48, 53, 58, 66, 71, 76], 43) := by decide +kernel
theorem dX6_count_44 : decode cX6_count 44 = .ok (.aload_n 0, 1) := by decide +kernel
theorem dX6_count_45 : decode cX6_count 45 = .ok (.getfield 61, 3) := by decide +kernel
theorem dX6_count_48 : decode cX6_count 48 = .ok (.ireturn, 1) := by decide +kernel
theorem dX6_count_49 : decode cX6_count 49 = .ok (.aload_n 0, 1) := by decide +kernel
theorem dX6_count_50 : decode cX6_count 50 = .ok (.invokevirtual 173, 3) := by decide +kernel
theorem dX6_count_53 : decode cX6_count 53 = .ok (.ireturn, 1) := by decide +kernel
theorem dX6_count_54 : decode cX6_count 54 = .ok (.aload_n 0, 1) := by decide +kernel
theorem dX6_count_55 : decode cX6_count 55 = .ok (.invokevirtual 176, 3) := by decide +kernel
theorem dX6_count_58 : decode cX6_count 58 = .ok (.ireturn, 1) := by decide +kernel
theorem dX6_count_59 : decode cX6_count 59 = .ok (.aload_n 0, 1) := by decide +kernel
theorem dX6_count_60 : decode cX6_count 60 = .ok (.getfield 35, 3) := by decide +kernel
theorem dX6_count_63 : decode cX6_count 63 = .ok (.getfield 179, 3) := by decide +kernel
theorem dX6_count_66 : decode cX6_count 66 = .ok (.ireturn, 1) := by decide +kernel
theorem dX6_count_67 : decode cX6_count 67 = .ok (.aload_n 0, 1) := by decide +kernel
theorem dX6_count_68 : decode cX6_count 68 = .ok (.invokevirtual 182, 3) := by decide +kernel
theorem dX6_count_71 : decode cX6_count 71 = .ok (.ireturn, 1) := by decide +kernel
theorem dX6_count_72 : decode cX6_count 72 = .ok (.aload_n 0, 1) := by decide +kernel
theorem dX6_count_73 : decode cX6_count 73 = .ok (.getfield 185, 3) := by decide +kernel
theorem dX6_count_76 : decode cX6_count 76 = .ok (.ireturn, 1) := by decide +kernel
theorem dX6_count_77 : decode cX6_count 77 = .ok (.aload_n 0, 1) := by decide +kernel
theorem dX6_count_78 : decode cX6_count 78 = .ok (.getfield 53, 3) := by decide +kernel
theorem dX6_count_81 : decode cX6_count 81 = .ok (.ireturn, 1) := by decide +kernel
theorem dX6_count_82 : decode cX6_count 82 = .ok (.iconst (-1), 1) := by decide +kernel
theorem dX6_count_83 : decode cX6_count 83 = .ok (.ireturn, 1) := by decide +kernel
theorem dX6_nearest_0 : decode cX6_nearest 0 = .ok (.iload_n 1, 1) := by decide +kernel
theorem dX6_nearest_1 : decode cX6_nearest 1 = .ok (.iload_n 0, 1) := by decide +kernel
theorem dX6_nearest_2 : decode cX6_nearest 2 = .ok (.iload_n 2, 1) := by decide +kernel
theorem dX6_nearest_3 : decode cX6_nearest 3 = .ok (.invokestatic 188, 3) := by decide +kernel
theorem dX6_nearest_6 : decode cX6_nearest 6 = .ok (.invokestatic 194, 3) := by decide +kernel
theorem dX6_nearest_9 : decode cX6_nearest 9 = .ok (.ireturn, 1) := by decide +kernel
theorem dX6_isLive_0 : decode cX6_isLive 0 = .ok (.iload_n 1, 1) := by decide +kernel
theorem dX6_isLive_1 : decode cX6_isLive 1 = .ok (.ifCond .lt 28, 3) := by decide +kernel
theorem dX6_isLive_4 : decode cX6_isLive 4 = .ok (.iload_n 1, 1) := by decide +kernel
theorem dX6_isLive_5 : decode cX6_isLive 5 = .ok (.aload_n 0, 1) := by decide +kernel
theorem dX6_isLive_6 : decode cX6_isLive 6 = .ok (.getfield 15, 3) := by decide +kernel
theorem dX6_isLive_9 : decode cX6_isLive 9 = .ok (.arraylength, 1) := by decide +kernel
theorem dX6_isLive_10 : decode cX6_isLive 10 = .ok (.if_icmp .ge 19, 3) := by decide +kernel
theorem dX6_isLive_13 : decode cX6_isLive 13 = .ok (.aload_n 0, 1) := by decide +kernel
theorem dX6_isLive_14 : decode cX6_isLive 14 = .ok (.getfield 15, 3) := by decide +kernel
theorem dX6_isLive_17 : decode cX6_isLive 17 = .ok (.iload_n 1, 1) := by decide +kernel
theorem dX6_isLive_18 : decode cX6_isLive 18 = .ok (.aaload, 1) := by decide +kernel
theorem dX6_isLive_19 : decode cX6_isLive 19 = .ok (.getfield 57, 3) := by decide +kernel
theorem dX6_isLive_22 : decode cX6_isLive 22 = .ok (.ifCond .eq 7, 3) := by decide +kernel
theorem dX6_isLive_25 : decode cX6_isLive 25 = .ok (.iconst 1, 1) := by decide +kernel
theorem dX6_isLive_26 : decode cX6_isLive 26 = .ok (.goto 4, 3) := by decide +kernel
theorem dX6_isLive_29 : decode cX6_isLive 29 = .ok (.iconst 0, 1) := by decide +kernel
theorem dX6_isLive_30 : decode cX6_isLive 30 = .ok (.ireturn, 1) := by decide +kernel
theorem dX6_hasJob_0 : decode cX6_hasJob 0 = .ok (.aload_n 0, 1) := by decide +kernel
theorem dX6_hasJob_1 : decode cX6_hasJob 1 = .ok (.iload_n 1, 1) := by decide +kernel
theorem dX6_hasJob_2 : decode cX6_hasJob 2 = .ok (.invokevirtual 68, 3) := by decide +kernel
theorem dX6_hasJob_5 : decode cX6_hasJob 5 = .ok (.ifCond .eq 22, 3) := by decide +kernel
theorem dX6_hasJob_8 : decode cX6_hasJob 8 = .ok (.aload_n 0, 1) := by decide +kernel
theorem dX6_hasJob_9 : decode cX6_hasJob 9 = .ok (.getfield 15, 3) := by decide +kernel
theorem dX6_hasJob_12 : decode cX6_hasJob 12 = .ok (.iload_n 1, 1) := by decide +kernel
theorem dX6_hasJob_13 : decode cX6_hasJob 13 = .ok (.aaload, 1) := by decide +kernel
theorem dX6_hasJob_14 : decode cX6_hasJob 14 = .ok (.getfield 75, 3) := by decide +kernel
theorem dX6_hasJob_17 : decode cX6_hasJob 17 = .ok (.getfield 79, 3) := by decide +kernel
theorem dX6_hasJob_20 : decode cX6_hasJob 20 = .ok (.ifCond .eq 7, 3) := by decide +kernel
theorem dX6_hasJob_23 : decode cX6_hasJob 23 = .ok (.iconst 1, 1) := by decide +kernel
theorem dX6_hasJob_24 : decode cX6_hasJob 24 = .ok (.goto 4, 3) := by decide +kernel
theorem dX6_hasJob_27 : decode cX6_hasJob 27 = .ok (.iconst 0, 1) := by decide +kernel
theorem dX6_hasJob_28 : decode cX6_hasJob 28 = .ok (.ireturn, 1) := by decide +kernel
theorem dX6_isLock_0 : decode cX6_isLock 0 = .ok (.iload_n 1, 1) := by decide +kernel
theorem dX6_isLock_1 : decode cX6_isLock 1 = .ok (.ifCond .lt 16, 3) := by decide +kernel
theorem dX6_isLock_4 : decode cX6_isLock 4 = .ok (.iload_n 1, 1) := by decide +kernel
theorem dX6_isLock_5 : decode cX6_isLock 5 = .ok (.aload_n 0, 1) := by decide +kernel
theorem dX6_isLock_6 : decode cX6_isLock 6 = .ok (.getfield 20, 3) := by decide +kernel
theorem dX6_isLock_9 : decode cX6_isLock 9 = .ok (.arraylength, 1) := by decide +kernel
theorem dX6_isLock_10 : decode cX6_isLock 10 = .ok (.if_icmp .ge 7, 3) := by decide +kernel
theorem dX6_isLock_13 : decode cX6_isLock 13 = .ok (.iconst 1, 1) := by decide +kernel
theorem dX6_isLock_14 : decode cX6_isLock 14 = .ok (.goto 4, 3) := by decide +kernel
theorem dX6_isLock_17 : decode cX6_isLock 17 = .ok (.iconst 0, 1) := by decide +kernel
theorem dX6_isLock_18 : decode cX6_isLock 18 = .ok (.ireturn, 1) := by decide +kernel
theorem dX6_liveTasks_0 : decode cX6_liveTasks 0 = .ok (.iconst 0, 1) := by decide +kernel
theorem dX6_liveTasks_1 : decode cX6_liveTasks 1 = .ok (.istore_n 1, 1) := by decide +kernel
theorem dX6_liveTasks_2 : decode cX6_liveTasks 2 = .ok (.aload_n 0, 1) := by decide +kernel
theorem dX6_liveTasks_3 : decode cX6_liveTasks 3 = .ok (.getfield 15, 3) := by decide +kernel
theorem dX6_liveTasks_6 : decode cX6_liveTasks 6 = .ok (.astore_n 2, 1) := by decide +kernel
theorem dX6_liveTasks_7 : decode cX6_liveTasks 7 = .ok (.aload_n 2, 1) := by decide +kernel
theorem dX6_liveTasks_8 : decode cX6_liveTasks 8 = .ok (.arraylength, 1) := by decide +kernel
theorem dX6_liveTasks_9 : decode cX6_liveTasks 9 = .ok (.istore_n 3, 1) := by decide +kernel
theorem dX6_liveTasks_10 : decode cX6_liveTasks 10 = .ok (.iconst 0, 1) := by decide +kernel
theorem dX6_liveTasks_11 : decode cX6_liveTasks 11 = .ok (.istore 4, 2) := by decide +kernel
theorem dX6_liveTasks_13 : decode cX6_liveTasks 13 = .ok (.iload 4, 2) := by decide +kernel
theorem dX6_liveTasks_15 : decode cX6_liveTasks 15 = .ok (.iload_n 3, 1) := by decide +kernel
theorem dX6_liveTasks_16 : decode cX6_liveTasks 16 = .ok (.if_icmp .ge 26, 3) := by decide +kernel
theorem dX6_liveTasks_19 : decode cX6_liveTasks 19 = .ok (.aload_n 2, 1) := by decide +kernel
theorem dX6_liveTasks_20 : decode cX6_liveTasks 20 = .ok (.iload 4, 2) := by decide +kernel
theorem dX6_liveTasks_22 : decode cX6_liveTasks 22 = .ok (.aaload, 1) := by decide +kernel
theorem dX6_liveTasks_23 : decode cX6_liveTasks 23 = .ok (.astore 5, 2) := by decide +kernel
theorem dX6_liveTasks_25 : decode cX6_liveTasks 25 = .ok (.aload 5, 2) := by decide +kernel
theorem dX6_liveTasks_27 : decode cX6_liveTasks 27 = .ok (.getfield 57, 3) := by decide +kernel
theorem dX6_liveTasks_30 : decode cX6_liveTasks 30 = .ok (.ifCond .eq 6, 3) := by decide +kernel
theorem dX6_liveTasks_33 : decode cX6_liveTasks 33 = .ok (.iinc 1 1, 3) := by decide +kernel
theorem dX6_liveTasks_36 : decode cX6_liveTasks 36 = .ok (.iinc 4 1, 3) := by decide +kernel
theorem dX6_liveTasks_39 : decode cX6_liveTasks 39 = .ok (.goto (-26), 3) := by decide +kernel
theorem dX6_liveTasks_42 : decode cX6_liveTasks 42 = .ok (.iload_n 1, 1) := by decide +kernel
theorem dX6_liveTasks_43 : decode cX6_liveTasks 43 = .ok (.ireturn, 1) := by decide +kernel
theorem dX6_pendingJobs_0 : decode cX6_pendingJobs 0 = .ok (.iconst 0, 1) := by decide +kernel
theorem dX6_pendingJobs_1 : decode cX6_pendingJobs 1 = .ok (.istore_n 1, 1) := by decide +kernel
theorem dX6_pendingJobs_2 : decode cX6_pendingJobs 2 = .ok (.aload_n 0, 1) := by decide +kernel
theorem dX6_pendingJobs_3 : decode cX6_pendingJobs 3 = .ok (.getfield 15, 3) := by decide +kernel
theorem dX6_pendingJobs_6 : decode cX6_pendingJobs 6 = .ok (.astore_n 2, 1) := by decide +kernel
theorem dX6_pendingJobs_7 : decode cX6_pendingJobs 7 = .ok (.aload_n 2, 1) := by decide +kernel
theorem dX6_pendingJobs_8 : decode cX6_pendingJobs 8 = .ok (.arraylength, 1) := by decide +kernel
theorem dX6_pendingJobs_9 : decode cX6_pendingJobs 9 = .ok (.istore_n 3, 1) := by decide +kernel
theorem dX6_pendingJobs_10 : decode cX6_pendingJobs 10 = .ok (.iconst 0, 1) := by decide +kernel
theorem dX6_pendingJobs_11 : decode cX6_pendingJobs 11 = .ok (.istore 4, 2) := by decide +kernel
theorem dX6_pendingJobs_13 : decode cX6_pendingJobs 13 = .ok (.iload 4, 2) := by decide +kernel
theorem dX6_pendingJobs_15 : decode cX6_pendingJobs 15 = .ok (.iload_n 3, 1) := by decide +kernel
theorem dX6_pendingJobs_16 : decode cX6_pendingJobs 16 = .ok (.if_icmp .ge 29, 3) := by decide +kernel
theorem dX6_pendingJobs_19 : decode cX6_pendingJobs 19 = .ok (.aload_n 2, 1) := by decide +kernel
theorem dX6_pendingJobs_20 : decode cX6_pendingJobs 20 = .ok (.iload 4, 2) := by decide +kernel
theorem dX6_pendingJobs_22 : decode cX6_pendingJobs 22 = .ok (.aaload, 1) := by decide +kernel
theorem dX6_pendingJobs_23 : decode cX6_pendingJobs 23 = .ok (.astore 5, 2) := by decide +kernel
theorem dX6_pendingJobs_25 : decode cX6_pendingJobs 25 = .ok (.aload 5, 2) := by decide +kernel
theorem dX6_pendingJobs_27 : decode cX6_pendingJobs 27 = .ok (.getfield 75, 3) := by decide +kernel
theorem dX6_pendingJobs_30 : decode cX6_pendingJobs 30 = .ok (.getfield 79, 3) := by decide +kernel
theorem dX6_pendingJobs_33 : decode cX6_pendingJobs 33 = .ok (.ifCond .eq 6, 3) := by decide +kernel
theorem dX6_pendingJobs_36 : decode cX6_pendingJobs 36 = .ok (.iinc 1 1, 3) := by decide +kernel
theorem dX6_pendingJobs_39 : decode cX6_pendingJobs 39 = .ok (.iinc 4 1, 3) := by decide +kernel
theorem dX6_pendingJobs_42 : decode cX6_pendingJobs 42 = .ok (.goto (-29), 3) := by decide +kernel
theorem dX6_pendingJobs_45 : decode cX6_pendingJobs 45 = .ok (.iload_n 1, 1) := by decide +kernel
theorem dX6_pendingJobs_46 : decode cX6_pendingJobs 46 = .ok (.ireturn, 1) := by decide +kernel
theorem dX6_heldLocks_0 : decode cX6_heldLocks 0 = .ok (.iconst 0, 1) := by decide +kernel
theorem dX6_heldLocks_1 : decode cX6_heldLocks 1 = .ok (.istore_n 1, 1) := by decide +kernel
theorem dX6_heldLocks_2 : decode cX6_heldLocks 2 = .ok (.aload_n 0, 1) := by decide +kernel
theorem dX6_heldLocks_3 : decode cX6_heldLocks 3 = .ok (.getfield 20, 3) := by decide +kernel
theorem dX6_heldLocks_6 : decode cX6_heldLocks 6 = .ok (.astore_n 2, 1) := by decide +kernel
theorem dX6_heldLocks_7 : decode cX6_heldLocks 7 = .ok (.aload_n 2, 1) := by decide +kernel
theorem dX6_heldLocks_8 : decode cX6_heldLocks 8 = .ok (.arraylength, 1) := by decide +kernel
theorem dX6_heldLocks_9 : decode cX6_heldLocks 9 = .ok (.istore_n 3, 1) := by decide +kernel
theorem dX6_heldLocks_10 : decode cX6_heldLocks 10 = .ok (.iconst 0, 1) := by decide +kernel
theorem dX6_heldLocks_11 : decode cX6_heldLocks 11 = .ok (.istore 4, 2) := by decide +kernel
theorem dX6_heldLocks_13 : decode cX6_heldLocks 13 = .ok (.iload 4, 2) := by decide +kernel
theorem dX6_heldLocks_15 : decode cX6_heldLocks 15 = .ok (.iload_n 3, 1) := by decide +kernel
theorem dX6_heldLocks_16 : decode cX6_heldLocks 16 = .ok (.if_icmp .ge 24, 3) := by decide +kernel
theorem dX6_heldLocks_19 : decode cX6_heldLocks 19 = .ok (.aload_n 2, 1) := by decide +kernel
theorem dX6_heldLocks_20 : decode cX6_heldLocks 20 = .ok (.iload 4, 2) := by decide +kernel
theorem dX6_heldLocks_22 : decode cX6_heldLocks 22 = .ok (.iaload, 1) := by decide +kernel
theorem dX6_heldLocks_23 : decode cX6_heldLocks 23 = .ok (.istore 5, 2) := by decide +kernel
theorem dX6_heldLocks_25 : decode cX6_heldLocks 25 = .ok (.iload 5, 2) := by decide +kernel
theorem dX6_heldLocks_27 : decode cX6_heldLocks 27 = .ok (.iconst (-1), 1) := by decide +kernel
theorem dX6_heldLocks_28 : decode cX6_heldLocks 28 = .ok (.if_icmp .eq 6, 3) := by decide +kernel
theorem dX6_heldLocks_31 : decode cX6_heldLocks 31 = .ok (.iinc 1 1, 3) := by decide +kernel
theorem dX6_heldLocks_34 : decode cX6_heldLocks 34 = .ok (.iinc 4 1, 3) := by decide +kernel
theorem dX6_heldLocks_37 : decode cX6_heldLocks 37 = .ok (.goto (-24), 3) := by decide +kernel
theorem dX6_heldLocks_40 : decode cX6_heldLocks 40 = .ok (.iload_n 1, 1) := by decide +kernel
theorem dX6_heldLocks_41 : decode cX6_heldLocks 41 = .ok (.ireturn, 1) := by decide +kernel
theorem dX6_demandAt_0 : decode cX6_demandAt 0 = .ok (.lconst 0, 1) := by decide +kernel
theorem dX6_demandAt_1 : decode cX6_demandAt 1 = .ok (.lstore_n 2, 1) := by decide +kernel
theorem dX6_demandAt_2 : decode cX6_demandAt 2 = .ok (.aload_n 0, 1) := by decide +kernel
theorem dX6_demandAt_3 : decode cX6_demandAt 3 = .ok (.getfield 15, 3) := by decide +kernel
theorem dX6_demandAt_6 : decode cX6_demandAt 6 = .ok (.astore 4, 2) := by decide +kernel
theorem dX6_demandAt_8 : decode cX6_demandAt 8 = .ok (.aload 4, 2) := by decide +kernel
theorem dX6_demandAt_10 : decode cX6_demandAt 10 = .ok (.arraylength, 1) := by decide +kernel
theorem dX6_demandAt_11 : decode cX6_demandAt 11 = .ok (.istore 5, 2) := by decide +kernel
theorem dX6_demandAt_13 : decode cX6_demandAt 13 = .ok (.iconst 0, 1) := by decide +kernel
theorem dX6_demandAt_14 : decode cX6_demandAt 14 = .ok (.istore 6, 2) := by decide +kernel
theorem dX6_demandAt_16 : decode cX6_demandAt 16 = .ok (.iload 6, 2) := by decide +kernel
theorem dX6_demandAt_18 : decode cX6_demandAt 18 = .ok (.iload 5, 2) := by decide +kernel
theorem dX6_demandAt_20 : decode cX6_demandAt 20 = .ok (.if_icmp .ge 71, 3) := by decide +kernel
theorem dX6_demandAt_23 : decode cX6_demandAt 23 = .ok (.aload 4, 2) := by decide +kernel
theorem dX6_demandAt_25 : decode cX6_demandAt 25 = .ok (.iload 6, 2) := by decide +kernel
theorem dX6_demandAt_27 : decode cX6_demandAt 27 = .ok (.aaload, 1) := by decide +kernel
theorem dX6_demandAt_28 : decode cX6_demandAt 28 = .ok (.astore 7, 2) := by decide +kernel
theorem dX6_demandAt_30 : decode cX6_demandAt 30 = .ok (.aload 7, 2) := by decide +kernel
theorem dX6_demandAt_32 : decode cX6_demandAt 32 = .ok (.getfield 57, 3) := by decide +kernel
theorem dX6_demandAt_35 : decode cX6_demandAt 35 = .ok (.ifCond .eq 50, 3) := by decide +kernel
theorem dX6_demandAt_38 : decode cX6_demandAt 38 = .ok (.aload 7, 2) := by decide +kernel
theorem dX6_demandAt_40 : decode cX6_demandAt 40 = .ok (.getfield 146, 3) := by decide +kernel
theorem dX6_demandAt_43 : decode cX6_demandAt 43 = .ok (.iload_n 1, 1) := by decide +kernel
theorem dX6_demandAt_44 : decode cX6_demandAt 44 = .ok (.if_icmp .gt 41, 3) := by decide +kernel
theorem dX6_demandAt_47 : decode cX6_demandAt 47 = .ok (.aload 7, 2) := by decide +kernel
theorem dX6_demandAt_49 : decode cX6_demandAt 49 = .ok (.getfield 143, 3) := by decide +kernel
theorem dX6_demandAt_52 : decode cX6_demandAt 52 = .ok (.ifCond .le 33, 3) := by decide +kernel
theorem dX6_demandAt_55 : decode cX6_demandAt 55 = .ok (.iconst 1, 1) := by decide +kernel
theorem dX6_demandAt_56 : decode cX6_demandAt 56 = .ok (.iload_n 1, 1) := by decide +kernel
theorem dX6_demandAt_57 : decode cX6_demandAt 57 = .ok (.aload 7, 2) := by decide +kernel
theorem dX6_demandAt_59 : decode cX6_demandAt 59 = .ok (.getfield 146, 3) := by decide +kernel
theorem dX6_demandAt_62 : decode cX6_demandAt 62 = .ok (.isub, 1) := by decide +kernel
theorem dX6_demandAt_63 : decode cX6_demandAt 63 = .ok (.aload 7, 2) := by decide +kernel
theorem dX6_demandAt_65 : decode cX6_demandAt 65 = .ok (.getfield 143, 3) := by decide +kernel
theorem dX6_demandAt_68 : decode cX6_demandAt 68 = .ok (.idiv, 1) := by decide +kernel
theorem dX6_demandAt_69 : decode cX6_demandAt 69 = .ok (.iadd, 1) := by decide +kernel
theorem dX6_demandAt_70 : decode cX6_demandAt 70 = .ok (.i2l, 1) := by decide +kernel
theorem dX6_demandAt_71 : decode cX6_demandAt 71 = .ok (.lstore 8, 2) := by decide +kernel
theorem dX6_demandAt_73 : decode cX6_demandAt 73 = .ok (.lload_n 2, 1) := by decide +kernel
theorem dX6_demandAt_74 : decode cX6_demandAt 74 = .ok (.aload 7, 2) := by decide +kernel
theorem dX6_demandAt_76 : decode cX6_demandAt 76 = .ok (.getfield 84, 3) := by decide +kernel
theorem dX6_demandAt_79 : decode cX6_demandAt 79 = .ok (.i2l, 1) := by decide +kernel
theorem dX6_demandAt_80 : decode cX6_demandAt 80 = .ok (.lload 8, 2) := by decide +kernel
theorem dX6_demandAt_82 : decode cX6_demandAt 82 = .ok (.lmul, 1) := by decide +kernel
theorem dX6_demandAt_83 : decode cX6_demandAt 83 = .ok (.ladd, 1) := by decide +kernel
theorem dX6_demandAt_84 : decode cX6_demandAt 84 = .ok (.lstore_n 2, 1) := by decide +kernel
theorem dX6_demandAt_85 : decode cX6_demandAt 85 = .ok (.iinc 6 1, 3) := by decide +kernel
theorem dX6_demandAt_88 : decode cX6_demandAt 88 = .ok (.goto (-72), 3) := by decide +kernel
theorem dX6_demandAt_91 : decode cX6_demandAt 91 = .ok (.lload_n 2, 1) := by decide +kernel
theorem dX6_demandAt_92 : decode cX6_demandAt 92 = .ok (.lreturn, 1) := by decide +kernel
theorem dX6_passTick_0 : decode cX6_passTick 0 = .ok (.aload_n 0, 1) := by decide +kernel
theorem dX6_passTick_1 : decode cX6_passTick 1 = .ok (.invokevirtual 197, 3) := by decide +kernel
theorem dX6_passTick_4 : decode cX6_passTick 4 = .ok (.aload_n 0, 1) := by decide +kernel
theorem dX6_passTick_5 : decode cX6_passTick 5 = .ok (.invokevirtual 200, 3) := by decide +kernel
theorem dX6_passTick_8 : decode cX6_passTick 8 = .ok (.aload_n 0, 1) := by decide +kernel
theorem dX6_passTick_9 : decode cX6_passTick 9 = .ok (.invokevirtual 203, 3) := by decide +kernel
theorem dX6_passTick_12 : decode cX6_passTick 12 = .ok (.istore_n 1, 1) := by decide +kernel
theorem dX6_passTick_13 : decode cX6_passTick 13 = .ok (.aload_n 0, 1) := by decide +kernel
theorem dX6_passTick_14 : decode cX6_passTick 14 = .ok (.iload_n 1, 1) := by decide +kernel
theorem dX6_passTick_15 : decode cX6_passTick 15 = .ok (.invokevirtual 206, 3) := by decide +kernel
theorem dX6_passTick_18 : decode cX6_passTick 18 = .ok (.aload_n 0, 1) := by decide +kernel
theorem dX6_passTick_19 : decode cX6_passTick 19 = .ok (.getfield 49, 3) := by decide +kernel
theorem dX6_passTick_22 : decode cX6_passTick 22 = .ok (.iload_n 1, 1) := by decide +kernel
theorem dX6_passTick_23 : decode cX6_passTick 23 = .ok (.invokevirtual 209, 3) := by decide +kernel
theorem dX6_passTick_26 : decode cX6_passTick 26 = .ok (.iload_n 1, 1) := by decide +kernel
theorem dX6_passTick_27 : decode cX6_passTick 27 = .ok (.iconst (-1), 1) := by decide +kernel
theorem dX6_passTick_28 : decode cX6_passTick 28 = .ok (.if_icmp .ne 13, 3) := by decide +kernel
theorem dX6_passTick_31 : decode cX6_passTick 31 = .ok (.aload_n 0, 1) := by decide +kernel
theorem dX6_passTick_32 : decode cX6_passTick 32 = .ok (.dup, 1) := by decide +kernel
theorem dX6_passTick_33 : decode cX6_passTick 33 = .ok (.getfield 185, 3) := by decide +kernel
theorem dX6_passTick_36 : decode cX6_passTick 36 = .ok (.iconst 1, 1) := by decide +kernel
theorem dX6_passTick_37 : decode cX6_passTick 37 = .ok (.iadd, 1) := by decide +kernel
theorem dX6_passTick_38 : decode cX6_passTick 38 = .ok (.putfield 185, 3) := by decide +kernel
theorem dX6_passTick_41 : decode cX6_passTick 41 = .ok (.aload_n 0, 1) := by decide +kernel
theorem dX6_passTick_42 : decode cX6_passTick 42 = .ok (.dup, 1) := by decide +kernel
theorem dX6_passTick_43 : decode cX6_passTick 43 = .ok (.getfield 61, 3) := by decide +kernel
theorem dX6_passTick_46 : decode cX6_passTick 46 = .ok (.iconst 1, 1) := by decide +kernel
theorem dX6_passTick_47 : decode cX6_passTick 47 = .ok (.iadd, 1) := by decide +kernel
theorem dX6_passTick_48 : decode cX6_passTick 48 = .ok (.putfield 61, 3) := by decide +kernel
theorem dX6_passTick_51 : decode cX6_passTick 51 = .ok (.iload_n 1, 1) := by decide +kernel
theorem dX6_passTick_52 : decode cX6_passTick 52 = .ok (.ireturn, 1) := by decide +kernel
theorem dX6_dropLateJobs_0 : decode cX6_dropLateJobs 0 = .ok (.iconst 0, 1) := by decide +kernel
theorem dX6_dropLateJobs_1 : decode cX6_dropLateJobs 1 = .ok (.istore_n 1, 1) := by decide +kernel
theorem dX6_dropLateJobs_2 : decode cX6_dropLateJobs 2 = .ok (.iload_n 1, 1) := by decide +kernel
theorem dX6_dropLateJobs_3 : decode cX6_dropLateJobs 3 = .ok (.aload_n 0, 1) := by decide +kernel
theorem dX6_dropLateJobs_4 : decode cX6_dropLateJobs 4 = .ok (.getfield 15, 3) := by decide +kernel
theorem dX6_dropLateJobs_7 : decode cX6_dropLateJobs 7 = .ok (.arraylength, 1) := by decide +kernel
theorem dX6_dropLateJobs_8 : decode cX6_dropLateJobs 8 = .ok (.if_icmp .ge 75, 3) := by decide +kernel
theorem dX6_dropLateJobs_11 : decode cX6_dropLateJobs 11 = .ok (.aload_n 0, 1) := by decide +kernel
theorem dX6_dropLateJobs_12 : decode cX6_dropLateJobs 12 = .ok (.getfield 15, 3) := by decide +kernel
theorem dX6_dropLateJobs_15 : decode cX6_dropLateJobs 15 = .ok (.iload_n 1, 1) := by decide +kernel
theorem dX6_dropLateJobs_16 : decode cX6_dropLateJobs 16 = .ok (.aaload, 1) := by decide +kernel
theorem dX6_dropLateJobs_17 : decode cX6_dropLateJobs 17 = .ok (.getfield 75, 3) := by decide +kernel
theorem dX6_dropLateJobs_20 : decode cX6_dropLateJobs 20 = .ok (.getfield 79, 3) := by decide +kernel
theorem dX6_dropLateJobs_23 : decode cX6_dropLateJobs 23 = .ok (.ifCond .eq 54, 3) := by decide +kernel
theorem dX6_dropLateJobs_26 : decode cX6_dropLateJobs 26 = .ok (.aload_n 0, 1) := by decide +kernel
theorem dX6_dropLateJobs_27 : decode cX6_dropLateJobs 27 = .ok (.getfield 15, 3) := by decide +kernel
theorem dX6_dropLateJobs_30 : decode cX6_dropLateJobs 30 = .ok (.iload_n 1, 1) := by decide +kernel
theorem dX6_dropLateJobs_31 : decode cX6_dropLateJobs 31 = .ok (.aaload, 1) := by decide +kernel
theorem dX6_dropLateJobs_32 : decode cX6_dropLateJobs 32 = .ok (.getfield 75, 3) := by decide +kernel
theorem dX6_dropLateJobs_35 : decode cX6_dropLateJobs 35 = .ok (.getfield 122, 3) := by decide +kernel
theorem dX6_dropLateJobs_38 : decode cX6_dropLateJobs 38 = .ok (.aload_n 0, 1) := by decide +kernel
theorem dX6_dropLateJobs_39 : decode cX6_dropLateJobs 39 = .ok (.getfield 61, 3) := by decide +kernel
theorem dX6_dropLateJobs_42 : decode cX6_dropLateJobs 42 = .ok (.if_icmp .ne 35, 3) := by decide +kernel
theorem dX6_dropLateJobs_45 : decode cX6_dropLateJobs 45 = .ok (.aload_n 0, 1) := by decide +kernel
theorem dX6_dropLateJobs_46 : decode cX6_dropLateJobs 46 = .ok (.getfield 42, 3) := by decide +kernel
theorem dX6_dropLateJobs_49 : decode cX6_dropLateJobs 49 = .ok (.iload_n 1, 1) := by decide +kernel
theorem dX6_dropLateJobs_50 : decode cX6_dropLateJobs 50 = .ok (.aload_n 0, 1) := by decide +kernel
theorem dX6_dropLateJobs_51 : decode cX6_dropLateJobs 51 = .ok (.getfield 61, 3) := by decide +kernel
theorem dX6_dropLateJobs_54 : decode cX6_dropLateJobs 54 = .ok (.invokevirtual 212, 3) := by decide +kernel
theorem dX6_dropLateJobs_57 : decode cX6_dropLateJobs 57 = .ok (.aload_n 0, 1) := by decide +kernel
theorem dX6_dropLateJobs_58 : decode cX6_dropLateJobs 58 = .ok (.getfield 15, 3) := by decide +kernel
theorem dX6_dropLateJobs_61 : decode cX6_dropLateJobs 61 = .ok (.iload_n 1, 1) := by decide +kernel
theorem dX6_dropLateJobs_62 : decode cX6_dropLateJobs 62 = .ok (.aaload, 1) := by decide +kernel
theorem dX6_dropLateJobs_63 : decode cX6_dropLateJobs 63 = .ok (.dup, 1) := by decide +kernel
theorem dX6_dropLateJobs_64 : decode cX6_dropLateJobs 64 = .ok (.getfield 161, 3) := by decide +kernel
theorem dX6_dropLateJobs_67 : decode cX6_dropLateJobs 67 = .ok (.iconst 1, 1) := by decide +kernel
theorem dX6_dropLateJobs_68 : decode cX6_dropLateJobs 68 = .ok (.iadd, 1) := by decide +kernel
theorem dX6_dropLateJobs_69 : decode cX6_dropLateJobs 69 = .ok (.putfield 161, 3) := by decide +kernel
theorem dX6_dropLateJobs_72 : decode cX6_dropLateJobs 72 = .ok (.aload_n 0, 1) := by decide +kernel
theorem dX6_dropLateJobs_73 : decode cX6_dropLateJobs 73 = .ok (.iload_n 1, 1) := by decide +kernel
theorem dX6_dropLateJobs_74 : decode cX6_dropLateJobs 74 = .ok (.invokevirtual 95, 3) := by decide +kernel
theorem dX6_dropLateJobs_77 : decode cX6_dropLateJobs 77 = .ok (.iinc 1 1, 3) := by decide +kernel
theorem dX6_dropLateJobs_80 : decode cX6_dropLateJobs 80 = .ok (.goto (-78), 3) := by decide +kernel
theorem dX6_dropLateJobs_83 : decode cX6_dropLateJobs 83 = .ok (.return_, 1) := by decide +kernel
theorem dX6_releaseJobs_0 : decode cX6_releaseJobs 0 = .ok (.aload_n 0, 1) := by decide +kernel
theorem dX6_releaseJobs_1 : decode cX6_releaseJobs 1 = .ok (.getfield 15, 3) := by decide +kernel
theorem dX6_releaseJobs_4 : decode cX6_releaseJobs 4 = .ok (.astore_n 1, 1) := by decide +kernel
theorem dX6_releaseJobs_5 : decode cX6_releaseJobs 5 = .ok (.aload_n 1, 1) := by decide +kernel
theorem dX6_releaseJobs_6 : decode cX6_releaseJobs 6 = .ok (.arraylength, 1) := by decide +kernel
theorem dX6_releaseJobs_7 : decode cX6_releaseJobs 7 = .ok (.istore_n 2, 1) := by decide +kernel
theorem dX6_releaseJobs_8 : decode cX6_releaseJobs 8 = .ok (.iconst 0, 1) := by decide +kernel
theorem dX6_releaseJobs_9 : decode cX6_releaseJobs 9 = .ok (.istore_n 3, 1) := by decide +kernel
theorem dX6_releaseJobs_10 : decode cX6_releaseJobs 10 = .ok (.iload_n 3, 1) := by decide +kernel
theorem dX6_releaseJobs_11 : decode cX6_releaseJobs 11 = .ok (.iload_n 2, 1) := by decide +kernel
theorem dX6_releaseJobs_12 : decode cX6_releaseJobs 12 = .ok (.if_icmp .ge 39, 3) := by decide +kernel
theorem dX6_releaseJobs_15 : decode cX6_releaseJobs 15 = .ok (.aload_n 1, 1) := by decide +kernel
theorem dX6_releaseJobs_16 : decode cX6_releaseJobs 16 = .ok (.iload_n 3, 1) := by decide +kernel
theorem dX6_releaseJobs_17 : decode cX6_releaseJobs 17 = .ok (.aaload, 1) := by decide +kernel
theorem dX6_releaseJobs_18 : decode cX6_releaseJobs 18 = .ok (.astore 4, 2) := by decide +kernel
theorem dX6_releaseJobs_20 : decode cX6_releaseJobs 20 = .ok (.aload 4, 2) := by decide +kernel
theorem dX6_releaseJobs_22 : decode cX6_releaseJobs 22 = .ok (.getfield 57, 3) := by decide +kernel
theorem dX6_releaseJobs_25 : decode cX6_releaseJobs 25 = .ok (.ifCond .eq 20, 3) := by decide +kernel
theorem dX6_releaseJobs_28 : decode cX6_releaseJobs 28 = .ok (.aload 4, 2) := by decide +kernel
theorem dX6_releaseJobs_30 : decode cX6_releaseJobs 30 = .ok (.getfield 149, 3) := by decide +kernel
theorem dX6_releaseJobs_33 : decode cX6_releaseJobs 33 = .ok (.aload_n 0, 1) := by decide +kernel
theorem dX6_releaseJobs_34 : decode cX6_releaseJobs 34 = .ok (.getfield 61, 3) := by decide +kernel
theorem dX6_releaseJobs_37 : decode cX6_releaseJobs 37 = .ok (.if_icmp .ne 8, 3) := by decide +kernel
theorem dX6_releaseJobs_40 : decode cX6_releaseJobs 40 = .ok (.aload 4, 2) := by decide +kernel
theorem dX6_releaseJobs_42 : decode cX6_releaseJobs 42 = .ok (.invokevirtual 215, 3) := by decide +kernel
theorem dX6_releaseJobs_45 : decode cX6_releaseJobs 45 = .ok (.iinc 3 1, 3) := by decide +kernel
theorem dX6_releaseJobs_48 : decode cX6_releaseJobs 48 = .ok (.goto (-38), 3) := by decide +kernel
theorem dX6_releaseJobs_51 : decode cX6_releaseJobs 51 = .ok (.return_, 1) := by decide +kernel
theorem dX6_runOneJob_0 : decode cX6_runOneJob 0 = .ok (.iconst 0, 1) := by decide +kernel
theorem dX6_runOneJob_1 : decode cX6_runOneJob 1 = .ok (.istore_n 1, 1) := by decide +kernel
theorem dX6_runOneJob_2 : decode cX6_runOneJob 2 = .ok (.iload_n 1, 1) := by decide +kernel
theorem dX6_runOneJob_3 : decode cX6_runOneJob 3 = .ok (.aload_n 0, 1) := by decide +kernel
theorem dX6_runOneJob_4 : decode cX6_runOneJob 4 = .ok (.getfield 15, 3) := by decide +kernel
theorem dX6_runOneJob_7 : decode cX6_runOneJob 7 = .ok (.arraylength, 1) := by decide +kernel
theorem dX6_runOneJob_8 : decode cX6_runOneJob 8 = .ok (.if_icmp .ge 41, 3) := by decide +kernel
theorem dX6_runOneJob_11 : decode cX6_runOneJob 11 = .ok (.aload_n 0, 1) := by decide +kernel
theorem dX6_runOneJob_12 : decode cX6_runOneJob 12 = .ok (.invokevirtual 125, 3) := by decide +kernel
theorem dX6_runOneJob_15 : decode cX6_runOneJob 15 = .ok (.aload_n 0, 1) := by decide +kernel
theorem dX6_runOneJob_16 : decode cX6_runOneJob 16 = .ok (.iconst (-1), 1) := by decide +kernel
theorem dX6_runOneJob_17 : decode cX6_runOneJob 17 = .ok (.invokevirtual 218, 3) := by decide +kernel
theorem dX6_runOneJob_20 : decode cX6_runOneJob 20 = .ok (.istore_n 2, 1) := by decide +kernel
theorem dX6_runOneJob_21 : decode cX6_runOneJob 21 = .ok (.iload_n 2, 1) := by decide +kernel
theorem dX6_runOneJob_22 : decode cX6_runOneJob 22 = .ok (.iconst (-1), 1) := by decide +kernel
theorem dX6_runOneJob_23 : decode cX6_runOneJob 23 = .ok (.if_icmp .ne 5, 3) := by decide +kernel
theorem dX6_runOneJob_26 : decode cX6_runOneJob 26 = .ok (.iconst (-1), 1) := by decide +kernel
theorem dX6_runOneJob_27 : decode cX6_runOneJob 27 = .ok (.ireturn, 1) := by decide +kernel
theorem dX6_runOneJob_28 : decode cX6_runOneJob 28 = .ok (.aload_n 0, 1) := by decide +kernel
theorem dX6_runOneJob_29 : decode cX6_runOneJob 29 = .ok (.iload_n 2, 1) := by decide +kernel
theorem dX6_runOneJob_30 : decode cX6_runOneJob 30 = .ok (.invokevirtual 221, 3) := by decide +kernel
theorem dX6_runOneJob_33 : decode cX6_runOneJob 33 = .ok (.ifCond .eq 10, 3) := by decide +kernel
theorem dX6_runOneJob_36 : decode cX6_runOneJob 36 = .ok (.aload_n 0, 1) := by decide +kernel
theorem dX6_runOneJob_37 : decode cX6_runOneJob 37 = .ok (.iload_n 2, 1) := by decide +kernel
theorem dX6_runOneJob_38 : decode cX6_runOneJob 38 = .ok (.invokevirtual 224, 3) := by decide +kernel
theorem dX6_runOneJob_41 : decode cX6_runOneJob 41 = .ok (.iload_n 2, 1) := by decide +kernel
theorem dX6_runOneJob_42 : decode cX6_runOneJob 42 = .ok (.ireturn, 1) := by decide +kernel
theorem dX6_runOneJob_43 : decode cX6_runOneJob 43 = .ok (.iinc 1 1, 3) := by decide +kernel
theorem dX6_runOneJob_46 : decode cX6_runOneJob 46 = .ok (.goto (-44), 3) := by decide +kernel
theorem dX6_runOneJob_49 : decode cX6_runOneJob 49 = .ok (.iconst (-1), 1) := by decide +kernel
theorem dX6_runOneJob_50 : decode cX6_runOneJob 50 = .ok (.ireturn, 1) := by decide +kernel
theorem dX6_takeLocks_0 : decode cX6_takeLocks 0 = .ok (.aload_n 0, 1) := by decide +kernel
theorem dX6_takeLocks_1 : decode cX6_takeLocks 1 = .ok (.getfield 15, 3) := by decide +kernel
theorem dX6_takeLocks_4 : decode cX6_takeLocks 4 = .ok (.iload_n 1, 1) := by decide +kernel
theorem dX6_takeLocks_5 : decode cX6_takeLocks 5 = .ok (.aaload, 1) := by decide +kernel
theorem dX6_takeLocks_6 : decode cX6_takeLocks 6 = .ok (.getfield 75, 3) := by decide +kernel
theorem dX6_takeLocks_9 : decode cX6_takeLocks 9 = .ok (.astore_n 2, 1) := by decide +kernel
theorem dX6_takeLocks_10 : decode cX6_takeLocks 10 = .ok (.iconst 0, 1) := by decide +kernel
theorem dX6_takeLocks_11 : decode cX6_takeLocks 11 = .ok (.istore_n 3, 1) := by decide +kernel
theorem dX6_takeLocks_12 : decode cX6_takeLocks 12 = .ok (.iload_n 3, 1) := by decide +kernel
theorem dX6_takeLocks_13 : decode cX6_takeLocks 13 = .ok (.aload_n 0, 1) := by decide +kernel
theorem dX6_takeLocks_14 : decode cX6_takeLocks 14 = .ok (.getfield 35, 3) := by decide +kernel
theorem dX6_takeLocks_17 : decode cX6_takeLocks 17 = .ok (.getfield 179, 3) := by decide +kernel
theorem dX6_takeLocks_20 : decode cX6_takeLocks 20 = .ok (.if_icmp .ge 97, 3) := by decide +kernel
theorem dX6_takeLocks_23 : decode cX6_takeLocks 23 = .ok (.aload_n 0, 1) := by decide +kernel
theorem dX6_takeLocks_24 : decode cX6_takeLocks 24 = .ok (.getfield 35, 3) := by decide +kernel
theorem dX6_takeLocks_27 : decode cX6_takeLocks 27 = .ok (.getfield 227, 3) := by decide +kernel
theorem dX6_takeLocks_30 : decode cX6_takeLocks 30 = .ok (.iload_n 3, 1) := by decide +kernel
theorem dX6_takeLocks_31 : decode cX6_takeLocks 31 = .ok (.aaload, 1) := by decide +kernel
theorem dX6_takeLocks_32 : decode cX6_takeLocks 32 = .ok (.astore 4, 2) := by decide +kernel
theorem dX6_takeLocks_34 : decode cX6_takeLocks 34 = .ok (.aload 4, 2) := by decide +kernel
theorem dX6_takeLocks_36 : decode cX6_takeLocks 36 = .ok (.getfield 231, 3) := by decide +kernel
theorem dX6_takeLocks_39 : decode cX6_takeLocks 39 = .ok (.iload_n 1, 1) := by decide +kernel
theorem dX6_takeLocks_40 : decode cX6_takeLocks 40 = .ok (.if_icmp .ne 71, 3) := by decide +kernel
theorem dX6_takeLocks_43 : decode cX6_takeLocks 43 = .ok (.aload 4, 2) := by decide +kernel
theorem dX6_takeLocks_45 : decode cX6_takeLocks 45 = .ok (.getfield 234, 3) := by decide +kernel
theorem dX6_takeLocks_48 : decode cX6_takeLocks 48 = .ok (.aload_n 2, 1) := by decide +kernel
theorem dX6_takeLocks_49 : decode cX6_takeLocks 49 = .ok (.getfield 119, 3) := by decide +kernel
theorem dX6_takeLocks_52 : decode cX6_takeLocks 52 = .ok (.if_icmp .eq 6, 3) := by decide +kernel
theorem dX6_takeLocks_55 : decode cX6_takeLocks 55 = .ok (.goto 56, 3) := by decide +kernel
theorem dX6_takeLocks_58 : decode cX6_takeLocks 58 = .ok (.aload_n 0, 1) := by decide +kernel
theorem dX6_takeLocks_59 : decode cX6_takeLocks 59 = .ok (.getfield 20, 3) := by decide +kernel
theorem dX6_takeLocks_62 : decode cX6_takeLocks 62 = .ok (.aload 4, 2) := by decide +kernel
theorem dX6_takeLocks_64 : decode cX6_takeLocks 64 = .ok (.getfield 237, 3) := by decide +kernel
theorem dX6_takeLocks_67 : decode cX6_takeLocks 67 = .ok (.iaload, 1) := by decide +kernel
theorem dX6_takeLocks_68 : decode cX6_takeLocks 68 = .ok (.iconst (-1), 1) := by decide +kernel
theorem dX6_takeLocks_69 : decode cX6_takeLocks 69 = .ok (.if_icmp .ne 17, 3) := by decide +kernel
theorem dX6_takeLocks_72 : decode cX6_takeLocks 72 = .ok (.aload_n 0, 1) := by decide +kernel
theorem dX6_takeLocks_73 : decode cX6_takeLocks 73 = .ok (.getfield 20, 3) := by decide +kernel
theorem dX6_takeLocks_76 : decode cX6_takeLocks 76 = .ok (.aload 4, 2) := by decide +kernel
theorem dX6_takeLocks_78 : decode cX6_takeLocks 78 = .ok (.getfield 237, 3) := by decide +kernel
theorem dX6_takeLocks_81 : decode cX6_takeLocks 81 = .ok (.iload_n 1, 1) := by decide +kernel
theorem dX6_takeLocks_82 : decode cX6_takeLocks 82 = .ok (.iastore, 1) := by decide +kernel
theorem dX6_takeLocks_83 : decode cX6_takeLocks 83 = .ok (.goto 28, 3) := by decide +kernel
theorem dX6_takeLocks_86 : decode cX6_takeLocks 86 = .ok (.aload_n 0, 1) := by decide +kernel
theorem dX6_takeLocks_87 : decode cX6_takeLocks 87 = .ok (.getfield 20, 3) := by decide +kernel
theorem dX6_takeLocks_90 : decode cX6_takeLocks 90 = .ok (.aload 4, 2) := by decide +kernel
theorem dX6_takeLocks_92 : decode cX6_takeLocks 92 = .ok (.getfield 237, 3) := by decide +kernel
theorem dX6_takeLocks_95 : decode cX6_takeLocks 95 = .ok (.iaload, 1) := by decide +kernel
theorem dX6_takeLocks_96 : decode cX6_takeLocks 96 = .ok (.iload_n 1, 1) := by decide +kernel
theorem dX6_takeLocks_97 : decode cX6_takeLocks 97 = .ok (.if_icmp .eq 14, 3) := by decide +kernel
theorem dX6_takeLocks_100 : decode cX6_takeLocks 100 = .ok (.aload_n 2, 1) := by decide +kernel
theorem dX6_takeLocks_101 : decode cX6_takeLocks 101 = .ok (.aload 4, 2) := by decide +kernel
theorem dX6_takeLocks_103 : decode cX6_takeLocks 103 = .ok (.getfield 237, 3) := by decide +kernel
theorem dX6_takeLocks_106 : decode cX6_takeLocks 106 = .ok (.putfield 131, 3) := by decide +kernel
theorem dX6_takeLocks_109 : decode cX6_takeLocks 109 = .ok (.iconst 0, 1) := by decide +kernel
theorem dX6_takeLocks_110 : decode cX6_takeLocks 110 = .ok (.ireturn, 1) := by decide +kernel
theorem dX6_takeLocks_111 : decode cX6_takeLocks 111 = .ok (.iinc 3 1, 3) := by decide +kernel
theorem dX6_takeLocks_114 : decode cX6_takeLocks 114 = .ok (.goto (-102), 3) := by decide +kernel
theorem dX6_takeLocks_117 : decode cX6_takeLocks 117 = .ok (.iconst 1, 1) := by decide +kernel
theorem dX6_takeLocks_118 : decode cX6_takeLocks 118 = .ok (.ireturn, 1) := by decide +kernel
theorem dX6_workOneUnit_0 : decode cX6_workOneUnit 0 = .ok (.aload_n 0, 1) := by decide +kernel
theorem dX6_workOneUnit_1 : decode cX6_workOneUnit 1 = .ok (.getfield 15, 3) := by decide +kernel
theorem dX6_workOneUnit_4 : decode cX6_workOneUnit 4 = .ok (.iload_n 1, 1) := by decide +kernel
theorem dX6_workOneUnit_5 : decode cX6_workOneUnit 5 = .ok (.aaload, 1) := by decide +kernel
theorem dX6_workOneUnit_6 : decode cX6_workOneUnit 6 = .ok (.getfield 75, 3) := by decide +kernel
theorem dX6_workOneUnit_9 : decode cX6_workOneUnit 9 = .ok (.astore_n 2, 1) := by decide +kernel
theorem dX6_workOneUnit_10 : decode cX6_workOneUnit 10 = .ok (.aload_n 2, 1) := by decide +kernel
theorem dX6_workOneUnit_11 : decode cX6_workOneUnit 11 = .ok (.dup, 1) := by decide +kernel
theorem dX6_workOneUnit_12 : decode cX6_workOneUnit 12 = .ok (.getfield 119, 3) := by decide +kernel
theorem dX6_workOneUnit_15 : decode cX6_workOneUnit 15 = .ok (.iconst 1, 1) := by decide +kernel
theorem dX6_workOneUnit_16 : decode cX6_workOneUnit 16 = .ok (.iadd, 1) := by decide +kernel
theorem dX6_workOneUnit_17 : decode cX6_workOneUnit 17 = .ok (.putfield 119, 3) := by decide +kernel
theorem dX6_workOneUnit_20 : decode cX6_workOneUnit 20 = .ok (.aload_n 0, 1) := by decide +kernel
theorem dX6_workOneUnit_21 : decode cX6_workOneUnit 21 = .ok (.getfield 35, 3) := by decide +kernel
theorem dX6_workOneUnit_24 : decode cX6_workOneUnit 24 = .ok (.getfield 179, 3) := by decide +kernel
theorem dX6_workOneUnit_27 : decode cX6_workOneUnit 27 = .ok (.iconst 1, 1) := by decide +kernel
theorem dX6_workOneUnit_28 : decode cX6_workOneUnit 28 = .ok (.isub, 1) := by decide +kernel
theorem dX6_workOneUnit_29 : decode cX6_workOneUnit 29 = .ok (.istore_n 3, 1) := by decide +kernel
theorem dX6_workOneUnit_30 : decode cX6_workOneUnit 30 = .ok (.iload_n 3, 1) := by decide +kernel
theorem dX6_workOneUnit_31 : decode cX6_workOneUnit 31 = .ok (.ifCond .lt 50, 3) := by decide +kernel
theorem dX6_workOneUnit_34 : decode cX6_workOneUnit 34 = .ok (.aload_n 0, 1) := by decide +kernel
theorem dX6_workOneUnit_35 : decode cX6_workOneUnit 35 = .ok (.getfield 35, 3) := by decide +kernel
theorem dX6_workOneUnit_38 : decode cX6_workOneUnit 38 = .ok (.getfield 227, 3) := by decide +kernel
theorem dX6_workOneUnit_41 : decode cX6_workOneUnit 41 = .ok (.iload_n 3, 1) := by decide +kernel
theorem dX6_workOneUnit_42 : decode cX6_workOneUnit 42 = .ok (.aaload, 1) := by decide +kernel
theorem dX6_workOneUnit_43 : decode cX6_workOneUnit 43 = .ok (.astore 4, 2) := by decide +kernel
theorem dX6_workOneUnit_45 : decode cX6_workOneUnit 45 = .ok (.aload 4, 2) := by decide +kernel
theorem dX6_workOneUnit_47 : decode cX6_workOneUnit 47 = .ok (.getfield 231, 3) := by decide +kernel
theorem dX6_workOneUnit_50 : decode cX6_workOneUnit 50 = .ok (.iload_n 1, 1) := by decide +kernel
theorem dX6_workOneUnit_51 : decode cX6_workOneUnit 51 = .ok (.if_icmp .ne 24, 3) := by decide +kernel
theorem dX6_workOneUnit_54 : decode cX6_workOneUnit 54 = .ok (.aload 4, 2) := by decide +kernel
theorem dX6_workOneUnit_56 : decode cX6_workOneUnit 56 = .ok (.getfield 240, 3) := by decide +kernel
theorem dX6_workOneUnit_59 : decode cX6_workOneUnit 59 = .ok (.aload_n 2, 1) := by decide +kernel
theorem dX6_workOneUnit_60 : decode cX6_workOneUnit 60 = .ok (.getfield 119, 3) := by decide +kernel
theorem dX6_workOneUnit_63 : decode cX6_workOneUnit 63 = .ok (.if_icmp .ne 12, 3) := by decide +kernel
theorem dX6_workOneUnit_66 : decode cX6_workOneUnit 66 = .ok (.aload_n 0, 1) := by decide +kernel
theorem dX6_workOneUnit_67 : decode cX6_workOneUnit 67 = .ok (.aload 4, 2) := by decide +kernel
theorem dX6_workOneUnit_69 : decode cX6_workOneUnit 69 = .ok (.getfield 237, 3) := by decide +kernel
theorem dX6_workOneUnit_72 : decode cX6_workOneUnit 72 = .ok (.invokevirtual 243, 3) := by decide +kernel
theorem dX6_workOneUnit_75 : decode cX6_workOneUnit 75 = .ok (.iinc 3 (-1), 3) := by decide +kernel
theorem dX6_workOneUnit_78 : decode cX6_workOneUnit 78 = .ok (.goto (-48), 3) := by decide +kernel
theorem dX6_workOneUnit_81 : decode cX6_workOneUnit 81 = .ok (.aload_n 2, 1) := by decide +kernel
theorem dX6_workOneUnit_82 : decode cX6_workOneUnit 82 = .ok (.getfield 119, 3) := by decide +kernel
theorem dX6_workOneUnit_85 : decode cX6_workOneUnit 85 = .ok (.aload_n 0, 1) := by decide +kernel
theorem dX6_workOneUnit_86 : decode cX6_workOneUnit 86 = .ok (.getfield 15, 3) := by decide +kernel
theorem dX6_workOneUnit_89 : decode cX6_workOneUnit 89 = .ok (.iload_n 1, 1) := by decide +kernel
theorem dX6_workOneUnit_90 : decode cX6_workOneUnit 90 = .ok (.aaload, 1) := by decide +kernel
theorem dX6_workOneUnit_91 : decode cX6_workOneUnit 91 = .ok (.getfield 84, 3) := by decide +kernel
theorem dX6_workOneUnit_94 : decode cX6_workOneUnit 94 = .ok (.if_icmp .ne 18, 3) := by decide +kernel
theorem dX6_workOneUnit_97 : decode cX6_workOneUnit 97 = .ok (.aload_n 0, 1) := by decide +kernel
theorem dX6_workOneUnit_98 : decode cX6_workOneUnit 98 = .ok (.getfield 15, 3) := by decide +kernel
theorem dX6_workOneUnit_101 : decode cX6_workOneUnit 101 = .ok (.iload_n 1, 1) := by decide +kernel
theorem dX6_workOneUnit_102 : decode cX6_workOneUnit 102 = .ok (.aaload, 1) := by decide +kernel
theorem dX6_workOneUnit_103 : decode cX6_workOneUnit 103 = .ok (.aload_n 0, 1) := by decide +kernel
theorem dX6_workOneUnit_104 : decode cX6_workOneUnit 104 = .ok (.getfield 61, 3) := by decide +kernel
theorem dX6_workOneUnit_107 : decode cX6_workOneUnit 107 = .ok (.iconst 1, 1) := by decide +kernel
theorem dX6_workOneUnit_108 : decode cX6_workOneUnit 108 = .ok (.iadd, 1) := by decide +kernel
theorem dX6_workOneUnit_109 : decode cX6_workOneUnit 109 = .ok (.invokevirtual 246, 3) := by decide +kernel
theorem dX6_workOneUnit_112 : decode cX6_workOneUnit 112 = .ok (.return_, 1) := by decide +kernel
theorem dX6_letGo_0 : decode cX6_letGo 0 = .ok (.aload_n 0, 1) := by decide +kernel
theorem dX6_letGo_1 : decode cX6_letGo 1 = .ok (.getfield 20, 3) := by decide +kernel
theorem dX6_letGo_4 : decode cX6_letGo 4 = .ok (.iload_n 1, 1) := by decide +kernel
theorem dX6_letGo_5 : decode cX6_letGo 5 = .ok (.iconst (-1), 1) := by decide +kernel
theorem dX6_letGo_6 : decode cX6_letGo 6 = .ok (.iastore, 1) := by decide +kernel
theorem dX6_letGo_7 : decode cX6_letGo 7 = .ok (.aload_n 0, 1) := by decide +kernel
theorem dX6_letGo_8 : decode cX6_letGo 8 = .ok (.invokevirtual 125, 3) := by decide +kernel
theorem dX6_letGo_11 : decode cX6_letGo 11 = .ok (.aload_n 0, 1) := by decide +kernel
theorem dX6_letGo_12 : decode cX6_letGo 12 = .ok (.iload_n 1, 1) := by decide +kernel
theorem dX6_letGo_13 : decode cX6_letGo 13 = .ok (.invokevirtual 218, 3) := by decide +kernel
theorem dX6_letGo_16 : decode cX6_letGo 16 = .ok (.istore_n 2, 1) := by decide +kernel
theorem dX6_letGo_17 : decode cX6_letGo 17 = .ok (.iload_n 2, 1) := by decide +kernel
theorem dX6_letGo_18 : decode cX6_letGo 18 = .ok (.iconst (-1), 1) := by decide +kernel
theorem dX6_letGo_19 : decode cX6_letGo 19 = .ok (.if_icmp .eq 23, 3) := by decide +kernel
theorem dX6_letGo_22 : decode cX6_letGo 22 = .ok (.aload_n 0, 1) := by decide +kernel
theorem dX6_letGo_23 : decode cX6_letGo 23 = .ok (.getfield 20, 3) := by decide +kernel
theorem dX6_letGo_26 : decode cX6_letGo 26 = .ok (.iload_n 1, 1) := by decide +kernel
theorem dX6_letGo_27 : decode cX6_letGo 27 = .ok (.iload_n 2, 1) := by decide +kernel
theorem dX6_letGo_28 : decode cX6_letGo 28 = .ok (.iastore, 1) := by decide +kernel
theorem dX6_letGo_29 : decode cX6_letGo 29 = .ok (.aload_n 0, 1) := by decide +kernel
theorem dX6_letGo_30 : decode cX6_letGo 30 = .ok (.getfield 15, 3) := by decide +kernel
theorem dX6_letGo_33 : decode cX6_letGo 33 = .ok (.iload_n 2, 1) := by decide +kernel
theorem dX6_letGo_34 : decode cX6_letGo 34 = .ok (.aaload, 1) := by decide +kernel
theorem dX6_letGo_35 : decode cX6_letGo 35 = .ok (.getfield 75, 3) := by decide +kernel
theorem dX6_letGo_38 : decode cX6_letGo 38 = .ok (.iconst (-1), 1) := by decide +kernel
theorem dX6_letGo_39 : decode cX6_letGo 39 = .ok (.putfield 131, 3) := by decide +kernel
theorem dX6_letGo_42 : decode cX6_letGo 42 = .ok (.return_, 1) := by decide +kernel
theorem dX6_dropJob_0 : decode cX6_dropJob 0 = .ok (.aload_n 0, 1) := by decide +kernel
theorem dX6_dropJob_1 : decode cX6_dropJob 1 = .ok (.getfield 15, 3) := by decide +kernel
theorem dX6_dropJob_4 : decode cX6_dropJob 4 = .ok (.iload_n 1, 1) := by decide +kernel
theorem dX6_dropJob_5 : decode cX6_dropJob 5 = .ok (.aaload, 1) := by decide +kernel
theorem dX6_dropJob_6 : decode cX6_dropJob 6 = .ok (.getfield 75, 3) := by decide +kernel
theorem dX6_dropJob_9 : decode cX6_dropJob 9 = .ok (.iconst 0, 1) := by decide +kernel
theorem dX6_dropJob_10 : decode cX6_dropJob 10 = .ok (.putfield 79, 3) := by decide +kernel
theorem dX6_dropJob_13 : decode cX6_dropJob 13 = .ok (.aload_n 0, 1) := by decide +kernel
theorem dX6_dropJob_14 : decode cX6_dropJob 14 = .ok (.getfield 15, 3) := by decide +kernel
theorem dX6_dropJob_17 : decode cX6_dropJob 17 = .ok (.iload_n 1, 1) := by decide +kernel
theorem dX6_dropJob_18 : decode cX6_dropJob 18 = .ok (.aaload, 1) := by decide +kernel
theorem dX6_dropJob_19 : decode cX6_dropJob 19 = .ok (.getfield 75, 3) := by decide +kernel
theorem dX6_dropJob_22 : decode cX6_dropJob 22 = .ok (.iconst (-1), 1) := by decide +kernel
theorem dX6_dropJob_23 : decode cX6_dropJob 23 = .ok (.putfield 131, 3) := by decide +kernel
theorem dX6_dropJob_26 : decode cX6_dropJob 26 = .ok (.iconst 0, 1) := by decide +kernel
theorem dX6_dropJob_27 : decode cX6_dropJob 27 = .ok (.istore_n 2, 1) := by decide +kernel
theorem dX6_dropJob_28 : decode cX6_dropJob 28 = .ok (.iload_n 2, 1) := by decide +kernel
theorem dX6_dropJob_29 : decode cX6_dropJob 29 = .ok (.aload_n 0, 1) := by decide +kernel
theorem dX6_dropJob_30 : decode cX6_dropJob 30 = .ok (.getfield 20, 3) := by decide +kernel
theorem dX6_dropJob_33 : decode cX6_dropJob 33 = .ok (.arraylength, 1) := by decide +kernel
theorem dX6_dropJob_34 : decode cX6_dropJob 34 = .ok (.if_icmp .ge 24, 3) := by decide +kernel
theorem dX6_dropJob_37 : decode cX6_dropJob 37 = .ok (.aload_n 0, 1) := by decide +kernel
theorem dX6_dropJob_38 : decode cX6_dropJob 38 = .ok (.getfield 20, 3) := by decide +kernel
theorem dX6_dropJob_41 : decode cX6_dropJob 41 = .ok (.iload_n 2, 1) := by decide +kernel
theorem dX6_dropJob_42 : decode cX6_dropJob 42 = .ok (.iaload, 1) := by decide +kernel
theorem dX6_dropJob_43 : decode cX6_dropJob 43 = .ok (.iload_n 1, 1) := by decide +kernel
theorem dX6_dropJob_44 : decode cX6_dropJob 44 = .ok (.if_icmp .ne 8, 3) := by decide +kernel
theorem dX6_dropJob_47 : decode cX6_dropJob 47 = .ok (.aload_n 0, 1) := by decide +kernel
theorem dX6_dropJob_48 : decode cX6_dropJob 48 = .ok (.iload_n 2, 1) := by decide +kernel
theorem dX6_dropJob_49 : decode cX6_dropJob 49 = .ok (.invokevirtual 243, 3) := by decide +kernel
theorem dX6_dropJob_52 : decode cX6_dropJob 52 = .ok (.iinc 2 1, 3) := by decide +kernel
theorem dX6_dropJob_55 : decode cX6_dropJob 55 = .ok (.goto (-27), 3) := by decide +kernel
theorem dX6_dropJob_58 : decode cX6_dropJob 58 = .ok (.return_, 1) := by decide +kernel
theorem dX6_aheadOfAll_0 : decode cX6_aheadOfAll 0 = .ok (.iconst (-1), 1) := by decide +kernel
theorem dX6_aheadOfAll_1 : decode cX6_aheadOfAll 1 = .ok (.istore_n 2, 1) := by decide +kernel
theorem dX6_aheadOfAll_2 : decode cX6_aheadOfAll 2 = .ok (.iconst 0, 1) := by decide +kernel
theorem dX6_aheadOfAll_3 : decode cX6_aheadOfAll 3 = .ok (.istore_n 3, 1) := by decide +kernel
theorem dX6_aheadOfAll_4 : decode cX6_aheadOfAll 4 = .ok (.iload_n 3, 1) := by decide +kernel
theorem dX6_aheadOfAll_5 : decode cX6_aheadOfAll 5 = .ok (.aload_n 0, 1) := by decide +kernel
theorem dX6_aheadOfAll_6 : decode cX6_aheadOfAll 6 = .ok (.getfield 15, 3) := by decide +kernel
theorem dX6_aheadOfAll_9 : decode cX6_aheadOfAll 9 = .ok (.arraylength, 1) := by decide +kernel
theorem dX6_aheadOfAll_10 : decode cX6_aheadOfAll 10 = .ok (.if_icmp .ge 67, 3) := by decide +kernel
theorem dX6_aheadOfAll_13 : decode cX6_aheadOfAll 13 = .ok (.aload_n 0, 1) := by decide +kernel
theorem dX6_aheadOfAll_14 : decode cX6_aheadOfAll 14 = .ok (.getfield 15, 3) := by decide +kernel
theorem dX6_aheadOfAll_17 : decode cX6_aheadOfAll 17 = .ok (.iload_n 3, 1) := by decide +kernel
theorem dX6_aheadOfAll_18 : decode cX6_aheadOfAll 18 = .ok (.aaload, 1) := by decide +kernel
theorem dX6_aheadOfAll_19 : decode cX6_aheadOfAll 19 = .ok (.getfield 75, 3) := by decide +kernel
theorem dX6_aheadOfAll_22 : decode cX6_aheadOfAll 22 = .ok (.astore 4, 2) := by decide +kernel
theorem dX6_aheadOfAll_24 : decode cX6_aheadOfAll 24 = .ok (.aload 4, 2) := by decide +kernel
theorem dX6_aheadOfAll_26 : decode cX6_aheadOfAll 26 = .ok (.getfield 79, 3) := by decide +kernel
theorem dX6_aheadOfAll_29 : decode cX6_aheadOfAll 29 = .ok (.ifCond .eq 42, 3) := by decide +kernel
theorem dX6_aheadOfAll_32 : decode cX6_aheadOfAll 32 = .ok (.aload 4, 2) := by decide +kernel
theorem dX6_aheadOfAll_34 : decode cX6_aheadOfAll 34 = .ok (.getfield 131, 3) := by decide +kernel
theorem dX6_aheadOfAll_37 : decode cX6_aheadOfAll 37 = .ok (.iload_n 1, 1) := by decide +kernel
theorem dX6_aheadOfAll_38 : decode cX6_aheadOfAll 38 = .ok (.if_icmp .eq 6, 3) := by decide +kernel
theorem dX6_aheadOfAll_41 : decode cX6_aheadOfAll 41 = .ok (.goto 30, 3) := by decide +kernel
theorem dX6_aheadOfAll_44 : decode cX6_aheadOfAll 44 = .ok (.iload_n 2, 1) := by decide +kernel
theorem dX6_aheadOfAll_45 : decode cX6_aheadOfAll 45 = .ok (.iconst (-1), 1) := by decide +kernel
theorem dX6_aheadOfAll_46 : decode cX6_aheadOfAll 46 = .ok (.if_icmp .eq 23, 3) := by decide +kernel
theorem dX6_aheadOfAll_49 : decode cX6_aheadOfAll 49 = .ok (.aload 4, 2) := by decide +kernel
theorem dX6_aheadOfAll_51 : decode cX6_aheadOfAll 51 = .ok (.getfield 128, 3) := by decide +kernel
theorem dX6_aheadOfAll_54 : decode cX6_aheadOfAll 54 = .ok (.aload_n 0, 1) := by decide +kernel
theorem dX6_aheadOfAll_55 : decode cX6_aheadOfAll 55 = .ok (.getfield 15, 3) := by decide +kernel
theorem dX6_aheadOfAll_58 : decode cX6_aheadOfAll 58 = .ok (.iload_n 2, 1) := by decide +kernel
theorem dX6_aheadOfAll_59 : decode cX6_aheadOfAll 59 = .ok (.aaload, 1) := by decide +kernel
theorem dX6_aheadOfAll_60 : decode cX6_aheadOfAll 60 = .ok (.getfield 75, 3) := by decide +kernel
theorem dX6_aheadOfAll_63 : decode cX6_aheadOfAll 63 = .ok (.getfield 128, 3) := by decide +kernel
theorem dX6_aheadOfAll_66 : decode cX6_aheadOfAll 66 = .ok (.if_icmp .ge 5, 3) := by decide +kernel
theorem dX6_aheadOfAll_69 : decode cX6_aheadOfAll 69 = .ok (.iload_n 3, 1) := by decide +kernel
theorem dX6_aheadOfAll_70 : decode cX6_aheadOfAll 70 = .ok (.istore_n 2, 1) := by decide +kernel
theorem dX6_aheadOfAll_71 : decode cX6_aheadOfAll 71 = .ok (.iinc 3 1, 3) := by decide +kernel
theorem dX6_aheadOfAll_74 : decode cX6_aheadOfAll 74 = .ok (.goto (-70), 3) := by decide +kernel
theorem dX6_aheadOfAll_77 : decode cX6_aheadOfAll 77 = .ok (.iload_n 2, 1) := by decide +kernel
theorem dX6_aheadOfAll_78 : decode cX6_aheadOfAll 78 = .ok (.ireturn, 1) := by decide +kernel
theorem dX6_inheritDeadlines_0 : decode cX6_inheritDeadlines 0 = .ok (.aload_n 0, 1) := by decide +kernel
theorem dX6_inheritDeadlines_1 : decode cX6_inheritDeadlines 1 = .ok (.getfield 15, 3) := by decide +kernel
theorem dX6_inheritDeadlines_4 : decode cX6_inheritDeadlines 4 = .ok (.astore_n 1, 1) := by decide +kernel
theorem dX6_inheritDeadlines_5 : decode cX6_inheritDeadlines 5 = .ok (.aload_n 1, 1) := by decide +kernel
theorem dX6_inheritDeadlines_6 : decode cX6_inheritDeadlines 6 = .ok (.arraylength, 1) := by decide +kernel
theorem dX6_inheritDeadlines_7 : decode cX6_inheritDeadlines 7 = .ok (.istore_n 2, 1) := by decide +kernel
theorem dX6_inheritDeadlines_8 : decode cX6_inheritDeadlines 8 = .ok (.iconst 0, 1) := by decide +kernel
theorem dX6_inheritDeadlines_9 : decode cX6_inheritDeadlines 9 = .ok (.istore_n 3, 1) := by decide +kernel
theorem dX6_inheritDeadlines_10 : decode cX6_inheritDeadlines 10 = .ok (.iload_n 3, 1) := by decide +kernel
theorem dX6_inheritDeadlines_11 : decode cX6_inheritDeadlines 11 = .ok (.iload_n 2, 1) := by decide +kernel
theorem dX6_inheritDeadlines_12 : decode cX6_inheritDeadlines 12 = .ok (.if_icmp .ge 30, 3) := by decide +kernel
theorem dX6_inheritDeadlines_15 : decode cX6_inheritDeadlines 15 = .ok (.aload_n 1, 1) := by decide +kernel
theorem dX6_inheritDeadlines_16 : decode cX6_inheritDeadlines 16 = .ok (.iload_n 3, 1) := by decide +kernel
theorem dX6_inheritDeadlines_17 : decode cX6_inheritDeadlines 17 = .ok (.aaload, 1) := by decide +kernel
theorem dX6_inheritDeadlines_18 : decode cX6_inheritDeadlines 18 = .ok (.astore 4, 2) := by decide +kernel
theorem dX6_inheritDeadlines_20 : decode cX6_inheritDeadlines 20 = .ok (.aload 4, 2) := by decide +kernel
theorem dX6_inheritDeadlines_22 : decode cX6_inheritDeadlines 22 = .ok (.getfield 75, 3) := by decide +kernel
theorem dX6_inheritDeadlines_25 : decode cX6_inheritDeadlines 25 = .ok (.aload 4, 2) := by decide +kernel
theorem dX6_inheritDeadlines_27 : decode cX6_inheritDeadlines 27 = .ok (.getfield 75, 3) := by decide +kernel
theorem dX6_inheritDeadlines_30 : decode cX6_inheritDeadlines 30 = .ok (.getfield 122, 3) := by decide +kernel
theorem dX6_inheritDeadlines_33 : decode cX6_inheritDeadlines 33 = .ok (.putfield 128, 3) := by decide +kernel
theorem dX6_inheritDeadlines_36 : decode cX6_inheritDeadlines 36 = .ok (.iinc 3 1, 3) := by decide +kernel
theorem dX6_inheritDeadlines_39 : decode cX6_inheritDeadlines 39 = .ok (.goto (-29), 3) := by decide +kernel
theorem dX6_inheritDeadlines_42 : decode cX6_inheritDeadlines 42 = .ok (.iconst 0, 1) := by decide +kernel
theorem dX6_inheritDeadlines_43 : decode cX6_inheritDeadlines 43 = .ok (.istore_n 1, 1) := by decide +kernel
theorem dX6_inheritDeadlines_44 : decode cX6_inheritDeadlines 44 = .ok (.iload_n 1, 1) := by decide +kernel
theorem dX6_inheritDeadlines_45 : decode cX6_inheritDeadlines 45 = .ok (.aload_n 0, 1) := by decide +kernel
theorem dX6_inheritDeadlines_46 : decode cX6_inheritDeadlines 46 = .ok (.getfield 15, 3) := by decide +kernel
theorem dX6_inheritDeadlines_49 : decode cX6_inheritDeadlines 49 = .ok (.arraylength, 1) := by decide +kernel
theorem dX6_inheritDeadlines_50 : decode cX6_inheritDeadlines 50 = .ok (.if_icmp .ge 83, 3) := by decide +kernel
theorem dX6_inheritDeadlines_53 : decode cX6_inheritDeadlines 53 = .ok (.aload_n 0, 1) := by decide +kernel
theorem dX6_inheritDeadlines_54 : decode cX6_inheritDeadlines 54 = .ok (.getfield 15, 3) := by decide +kernel
theorem dX6_inheritDeadlines_57 : decode cX6_inheritDeadlines 57 = .ok (.iload_n 1, 1) := by decide +kernel
theorem dX6_inheritDeadlines_58 : decode cX6_inheritDeadlines 58 = .ok (.aaload, 1) := by decide +kernel
theorem dX6_inheritDeadlines_59 : decode cX6_inheritDeadlines 59 = .ok (.getfield 75, 3) := by decide +kernel
theorem dX6_inheritDeadlines_62 : decode cX6_inheritDeadlines 62 = .ok (.getfield 122, 3) := by decide +kernel
theorem dX6_inheritDeadlines_65 : decode cX6_inheritDeadlines 65 = .ok (.istore_n 2, 1) := by decide +kernel
theorem dX6_inheritDeadlines_66 : decode cX6_inheritDeadlines 66 = .ok (.aload_n 0, 1) := by decide +kernel
theorem dX6_inheritDeadlines_67 : decode cX6_inheritDeadlines 67 = .ok (.iload_n 1, 1) := by decide +kernel
theorem dX6_inheritDeadlines_68 : decode cX6_inheritDeadlines 68 = .ok (.invokevirtual 249, 3) := by decide +kernel
theorem dX6_inheritDeadlines_71 : decode cX6_inheritDeadlines 71 = .ok (.istore_n 3, 1) := by decide +kernel
theorem dX6_inheritDeadlines_72 : decode cX6_inheritDeadlines 72 = .ok (.iconst 0, 1) := by decide +kernel
theorem dX6_inheritDeadlines_73 : decode cX6_inheritDeadlines 73 = .ok (.istore 4, 2) := by decide +kernel
theorem dX6_inheritDeadlines_75 : decode cX6_inheritDeadlines 75 = .ok (.iload 4, 2) := by decide +kernel
theorem dX6_inheritDeadlines_77 : decode cX6_inheritDeadlines 77 = .ok (.aload_n 0, 1) := by decide +kernel
theorem dX6_inheritDeadlines_78 : decode cX6_inheritDeadlines 78 = .ok (.getfield 15, 3) := by decide +kernel
theorem dX6_inheritDeadlines_81 : decode cX6_inheritDeadlines 81 = .ok (.arraylength, 1) := by decide +kernel
theorem dX6_inheritDeadlines_82 : decode cX6_inheritDeadlines 82 = .ok (.if_icmp .ge 45, 3) := by decide +kernel
theorem dX6_inheritDeadlines_85 : decode cX6_inheritDeadlines 85 = .ok (.iload_n 3, 1) := by decide +kernel
theorem dX6_inheritDeadlines_86 : decode cX6_inheritDeadlines 86 = .ok (.iconst (-1), 1) := by decide +kernel
theorem dX6_inheritDeadlines_87 : decode cX6_inheritDeadlines 87 = .ok (.if_icmp .eq 40, 3) := by decide +kernel
theorem dX6_inheritDeadlines_90 : decode cX6_inheritDeadlines 90 = .ok (.aload_n 0, 1) := by decide +kernel
theorem dX6_inheritDeadlines_91 : decode cX6_inheritDeadlines 91 = .ok (.getfield 15, 3) := by decide +kernel
theorem dX6_inheritDeadlines_94 : decode cX6_inheritDeadlines 94 = .ok (.iload_n 3, 1) := by decide +kernel
theorem dX6_inheritDeadlines_95 : decode cX6_inheritDeadlines 95 = .ok (.aaload, 1) := by decide +kernel
theorem dX6_inheritDeadlines_96 : decode cX6_inheritDeadlines 96 = .ok (.getfield 75, 3) := by decide +kernel
theorem dX6_inheritDeadlines_99 : decode cX6_inheritDeadlines 99 = .ok (.astore 5, 2) := by decide +kernel
theorem dX6_inheritDeadlines_101 : decode cX6_inheritDeadlines 101 = .ok (.aload 5, 2) := by decide +kernel
theorem dX6_inheritDeadlines_103 : decode cX6_inheritDeadlines 103 = .ok (.aload 5, 2) := by decide +kernel
theorem dX6_inheritDeadlines_105 : decode cX6_inheritDeadlines 105 = .ok (.getfield 128, 3) := by decide +kernel
theorem dX6_inheritDeadlines_108 : decode cX6_inheritDeadlines 108 = .ok (.iload_n 2, 1) := by decide +kernel
theorem dX6_inheritDeadlines_109 : decode cX6_inheritDeadlines 109 = .ok (.invokestatic 188, 3) := by decide +kernel
theorem dX6_inheritDeadlines_112 : decode cX6_inheritDeadlines 112 = .ok (.putfield 128, 3) := by decide +kernel
theorem dX6_inheritDeadlines_115 : decode cX6_inheritDeadlines 115 = .ok (.aload_n 0, 1) := by decide +kernel
theorem dX6_inheritDeadlines_116 : decode cX6_inheritDeadlines 116 = .ok (.iload_n 3, 1) := by decide +kernel
theorem dX6_inheritDeadlines_117 : decode cX6_inheritDeadlines 117 = .ok (.invokevirtual 249, 3) := by decide +kernel
theorem dX6_inheritDeadlines_120 : decode cX6_inheritDeadlines 120 = .ok (.istore_n 3, 1) := by decide +kernel
theorem dX6_inheritDeadlines_121 : decode cX6_inheritDeadlines 121 = .ok (.iinc 4 1, 3) := by decide +kernel
theorem dX6_inheritDeadlines_124 : decode cX6_inheritDeadlines 124 = .ok (.goto (-49), 3) := by decide +kernel
theorem dX6_inheritDeadlines_127 : decode cX6_inheritDeadlines 127 = .ok (.iinc 1 1, 3) := by decide +kernel
theorem dX6_inheritDeadlines_130 : decode cX6_inheritDeadlines 130 = .ok (.goto (-86), 3) := by decide +kernel
theorem dX6_inheritDeadlines_133 : decode cX6_inheritDeadlines 133 = .ok (.return_, 1) := by decide +kernel
theorem dX6_holderAwaitedBy_0 : decode cX6_holderAwaitedBy 0 = .ok (.aload_n 0, 1) := by decide +kernel
theorem dX6_holderAwaitedBy_1 : decode cX6_holderAwaitedBy 1 = .ok (.getfield 15, 3) := by decide +kernel
theorem dX6_holderAwaitedBy_4 : decode cX6_holderAwaitedBy 4 = .ok (.iload_n 1, 1) := by decide +kernel
theorem dX6_holderAwaitedBy_5 : decode cX6_holderAwaitedBy 5 = .ok (.aaload, 1) := by decide +kernel
theorem dX6_holderAwaitedBy_6 : decode cX6_holderAwaitedBy 6 = .ok (.getfield 75, 3) := by decide +kernel
theorem dX6_holderAwaitedBy_9 : decode cX6_holderAwaitedBy 9 = .ok (.getfield 131, 3) := by decide +kernel
theorem dX6_holderAwaitedBy_12 : decode cX6_holderAwaitedBy 12 = .ok (.istore_n 2, 1) := by decide +kernel
theorem dX6_holderAwaitedBy_13 : decode cX6_holderAwaitedBy 13 = .ok (.iload_n 2, 1) := by decide +kernel
theorem dX6_holderAwaitedBy_14 : decode cX6_holderAwaitedBy 14 = .ok (.iconst (-1), 1) := by decide +kernel
theorem dX6_holderAwaitedBy_15 : decode cX6_holderAwaitedBy 15 = .ok (.if_icmp .ne 7, 3) := by decide +kernel
theorem dX6_holderAwaitedBy_18 : decode cX6_holderAwaitedBy 18 = .ok (.iconst (-1), 1) := by decide +kernel
theorem dX6_holderAwaitedBy_19 : decode cX6_holderAwaitedBy 19 = .ok (.goto 9, 3) := by decide +kernel
theorem dX6_holderAwaitedBy_22 : decode cX6_holderAwaitedBy 22 = .ok (.aload_n 0, 1) := by decide +kernel
theorem dX6_holderAwaitedBy_23 : decode cX6_holderAwaitedBy 23 = .ok (.getfield 20, 3) := by decide +kernel
theorem dX6_holderAwaitedBy_26 : decode cX6_holderAwaitedBy 26 = .ok (.iload_n 2, 1) := by decide +kernel
theorem dX6_holderAwaitedBy_27 : decode cX6_holderAwaitedBy 27 = .ok (.iaload, 1) := by decide +kernel
theorem dX6_holderAwaitedBy_28 : decode cX6_holderAwaitedBy 28 = .ok (.ireturn, 1) := by decide +kernel
theorem dX6_countWaitsAndPutBys_0 : decode cX6_countWaitsAndPutBys 0 = .ok (.iconst 0, 1) := by decide +kernel
theorem dX6_countWaitsAndPutBys_1 : decode cX6_countWaitsAndPutBys 1 = .ok (.istore_n 2, 1) := by decide +kernel
theorem dX6_countWaitsAndPutBys_2 : decode cX6_countWaitsAndPutBys 2 = .ok (.iload_n 2, 1) := by decide +kernel
theorem dX6_countWaitsAndPutBys_3 : decode cX6_countWaitsAndPutBys 3 = .ok (.aload_n 0, 1) := by decide +kernel
theorem dX6_countWaitsAndPutBys_4 : decode cX6_countWaitsAndPutBys 4 = .ok (.getfield 15, 3) := by decide +kernel
theorem dX6_countWaitsAndPutBys_7 : decode cX6_countWaitsAndPutBys 7 = .ok (.arraylength, 1) := by decide +kernel
theorem dX6_countWaitsAndPutBys_8 : decode cX6_countWaitsAndPutBys 8 = .ok (.if_icmp .ge 109, 3) := by decide +kernel
theorem dX6_countWaitsAndPutBys_11 : decode cX6_countWaitsAndPutBys 11 = .ok (.aload_n 0, 1) := by decide +kernel
theorem dX6_countWaitsAndPutBys_12 : decode cX6_countWaitsAndPutBys 12 = .ok (.getfield 15, 3) := by decide +kernel
theorem dX6_countWaitsAndPutBys_15 : decode cX6_countWaitsAndPutBys 15 = .ok (.iload_n 2, 1) := by decide +kernel
theorem dX6_countWaitsAndPutBys_16 : decode cX6_countWaitsAndPutBys 16 = .ok (.aaload, 1) := by decide +kernel
theorem dX6_countWaitsAndPutBys_17 : decode cX6_countWaitsAndPutBys 17 = .ok (.getfield 75, 3) := by decide +kernel
theorem dX6_countWaitsAndPutBys_20 : decode cX6_countWaitsAndPutBys 20 = .ok (.astore_n 3, 1) := by decide +kernel
theorem dX6_countWaitsAndPutBys_21 : decode cX6_countWaitsAndPutBys 21 = .ok (.iload_n 2, 1) := by decide +kernel
theorem dX6_countWaitsAndPutBys_22 : decode cX6_countWaitsAndPutBys 22 = .ok (.iload_n 1, 1) := by decide +kernel
theorem dX6_countWaitsAndPutBys_23 : decode cX6_countWaitsAndPutBys 23 = .ok (.if_icmp .ne 7, 3) := by decide +kernel
theorem dX6_countWaitsAndPutBys_26 : decode cX6_countWaitsAndPutBys 26 = .ok (.iconst 1, 1) := by decide +kernel
theorem dX6_countWaitsAndPutBys_27 : decode cX6_countWaitsAndPutBys 27 = .ok (.goto 4, 3) := by decide +kernel
theorem dX6_countWaitsAndPutBys_30 : decode cX6_countWaitsAndPutBys 30 = .ok (.iconst 0, 1) := by decide +kernel
theorem dX6_countWaitsAndPutBys_31 : decode cX6_countWaitsAndPutBys 31 = .ok (.istore 4, 2) := by decide +kernel
theorem dX6_countWaitsAndPutBys_33 : decode cX6_countWaitsAndPutBys 33 = .ok (.aload_n 3, 1) := by decide +kernel
theorem dX6_countWaitsAndPutBys_34 : decode cX6_countWaitsAndPutBys 34 = .ok (.getfield 79, 3) := by decide +kernel
theorem dX6_countWaitsAndPutBys_37 : decode cX6_countWaitsAndPutBys 37 = .ok (.ifCond .eq 29, 3) := by decide +kernel
theorem dX6_countWaitsAndPutBys_40 : decode cX6_countWaitsAndPutBys 40 = .ok (.aload_n 3, 1) := by decide +kernel
theorem dX6_countWaitsAndPutBys_41 : decode cX6_countWaitsAndPutBys 41 = .ok (.getfield 131, 3) := by decide +kernel
theorem dX6_countWaitsAndPutBys_44 : decode cX6_countWaitsAndPutBys 44 = .ok (.iconst (-1), 1) := by decide +kernel
theorem dX6_countWaitsAndPutBys_45 : decode cX6_countWaitsAndPutBys 45 = .ok (.if_icmp .eq 21, 3) := by decide +kernel
theorem dX6_countWaitsAndPutBys_48 : decode cX6_countWaitsAndPutBys 48 = .ok (.aload_n 0, 1) := by decide +kernel
theorem dX6_countWaitsAndPutBys_49 : decode cX6_countWaitsAndPutBys 49 = .ok (.getfield 15, 3) := by decide +kernel
theorem dX6_countWaitsAndPutBys_52 : decode cX6_countWaitsAndPutBys 52 = .ok (.iload_n 2, 1) := by decide +kernel
theorem dX6_countWaitsAndPutBys_53 : decode cX6_countWaitsAndPutBys 53 = .ok (.aaload, 1) := by decide +kernel
theorem dX6_countWaitsAndPutBys_54 : decode cX6_countWaitsAndPutBys 54 = .ok (.dup, 1) := by decide +kernel
theorem dX6_countWaitsAndPutBys_55 : decode cX6_countWaitsAndPutBys 55 = .ok (.getfield 164, 3) := by decide +kernel
theorem dX6_countWaitsAndPutBys_58 : decode cX6_countWaitsAndPutBys 58 = .ok (.iconst 1, 1) := by decide +kernel
theorem dX6_countWaitsAndPutBys_59 : decode cX6_countWaitsAndPutBys 59 = .ok (.iadd, 1) := by decide +kernel
theorem dX6_countWaitsAndPutBys_60 : decode cX6_countWaitsAndPutBys 60 = .ok (.putfield 164, 3) := by decide +kernel
theorem dX6_countWaitsAndPutBys_63 : decode cX6_countWaitsAndPutBys 63 = .ok (.goto 42, 3) := by decide +kernel
theorem dX6_countWaitsAndPutBys_66 : decode cX6_countWaitsAndPutBys 66 = .ok (.aload_n 3, 1) := by decide +kernel
theorem dX6_countWaitsAndPutBys_67 : decode cX6_countWaitsAndPutBys 67 = .ok (.getfield 79, 3) := by decide +kernel
theorem dX6_countWaitsAndPutBys_70 : decode cX6_countWaitsAndPutBys 70 = .ok (.ifCond .eq 35, 3) := by decide +kernel
theorem dX6_countWaitsAndPutBys_73 : decode cX6_countWaitsAndPutBys 73 = .ok (.aload_n 3, 1) := by decide +kernel
theorem dX6_countWaitsAndPutBys_74 : decode cX6_countWaitsAndPutBys 74 = .ok (.getfield 252, 3) := by decide +kernel
theorem dX6_countWaitsAndPutBys_77 : decode cX6_countWaitsAndPutBys 77 = .ok (.ifCond .eq 28, 3) := by decide +kernel
theorem dX6_countWaitsAndPutBys_80 : decode cX6_countWaitsAndPutBys 80 = .ok (.iload 4, 2) := by decide +kernel
theorem dX6_countWaitsAndPutBys_82 : decode cX6_countWaitsAndPutBys 82 = .ok (.ifCond .ne 23, 3) := by decide +kernel
theorem dX6_countWaitsAndPutBys_85 : decode cX6_countWaitsAndPutBys 85 = .ok (.iload_n 1, 1) := by decide +kernel
theorem dX6_countWaitsAndPutBys_86 : decode cX6_countWaitsAndPutBys 86 = .ok (.iconst (-1), 1) := by decide +kernel
theorem dX6_countWaitsAndPutBys_87 : decode cX6_countWaitsAndPutBys 87 = .ok (.if_icmp .eq 18, 3) := by decide +kernel
theorem dX6_countWaitsAndPutBys_90 : decode cX6_countWaitsAndPutBys 90 = .ok (.aload_n 0, 1) := by decide +kernel
theorem dX6_countWaitsAndPutBys_91 : decode cX6_countWaitsAndPutBys 91 = .ok (.getfield 15, 3) := by decide +kernel
theorem dX6_countWaitsAndPutBys_94 : decode cX6_countWaitsAndPutBys 94 = .ok (.iload_n 2, 1) := by decide +kernel
theorem dX6_countWaitsAndPutBys_95 : decode cX6_countWaitsAndPutBys 95 = .ok (.aaload, 1) := by decide +kernel
theorem dX6_countWaitsAndPutBys_96 : decode cX6_countWaitsAndPutBys 96 = .ok (.dup, 1) := by decide +kernel
theorem dX6_countWaitsAndPutBys_97 : decode cX6_countWaitsAndPutBys 97 = .ok (.getfield 167, 3) := by decide +kernel
theorem dX6_countWaitsAndPutBys_100 : decode cX6_countWaitsAndPutBys 100 = .ok (.iconst 1, 1) := by decide +kernel
theorem dX6_countWaitsAndPutBys_101 : decode cX6_countWaitsAndPutBys 101 = .ok (.iadd, 1) := by decide +kernel
theorem dX6_countWaitsAndPutBys_102 : decode cX6_countWaitsAndPutBys 102 = .ok (.putfield 167, 3) := by decide +kernel
theorem dX6_countWaitsAndPutBys_105 : decode cX6_countWaitsAndPutBys 105 = .ok (.aload_n 3, 1) := by decide +kernel
theorem dX6_countWaitsAndPutBys_106 : decode cX6_countWaitsAndPutBys 106 = .ok (.iload 4, 2) := by decide +kernel
theorem dX6_countWaitsAndPutBys_108 : decode cX6_countWaitsAndPutBys 108 = .ok (.putfield 252, 3) := by decide +kernel
theorem dX6_countWaitsAndPutBys_111 : decode cX6_countWaitsAndPutBys 111 = .ok (.iinc 2 1, 3) := by decide +kernel
theorem dX6_countWaitsAndPutBys_114 : decode cX6_countWaitsAndPutBys 114 = .ok (.goto (-112), 3) := by decide +kernel
theorem dX6_countWaitsAndPutBys_117 : decode cX6_countWaitsAndPutBys 117 = .ok (.return_, 1) := by decide +kernel
end
section
theorem dX7_within_0 : decode cX7_within 0 = .ok (.iload_n 0, 1) := by decide +kernel
theorem dX7_within_1 : decode cX7_within 1 = .ok (.iload_n 1, 1) := by decide +kernel
theorem dX7_within_2 : decode cX7_within 2 = .ok (.if_icmp .ge 7, 3) := by decide +kernel
theorem dX7_within_5 : decode cX7_within 5 = .ok (.iload_n 1, 1) := by decide +kernel
theorem dX7_within_6 : decode cX7_within 6 = .ok (.goto 13, 3) := by decide +kernel
theorem dX7_within_9 : decode cX7_within 9 = .ok (.iload_n 0, 1) := by decide +kernel
theorem dX7_within_10 : decode cX7_within 10 = .ok (.iload_n 2, 1) := by decide +kernel
theorem dX7_within_11 : decode cX7_within 11 = .ok (.if_icmp .le 7, 3) := by decide +kernel
theorem dX7_within_14 : decode cX7_within 14 = .ok (.iload_n 2, 1) := by decide +kernel
theorem dX7_within_15 : decode cX7_within 15 = .ok (.goto 4, 3) := by decide +kernel
theorem dX7_within_18 : decode cX7_within 18 = .ok (.iload_n 0, 1) := by decide +kernel
theorem dX7_within_19 : decode cX7_within 19 = .ok (.ireturn, 1) := by decide +kernel
theorem dX7_init_0 : decode cX7_init 0 = .ok (.aload_n 0, 1) := by decide +kernel
theorem dX7_init_1 : decode cX7_init 1 = .ok (.invokespecial 1, 3) := by decide +kernel
theorem dX7_init_4 : decode cX7_init 4 = .ok (.aload_n 0, 1) := by decide +kernel
theorem dX7_init_5 : decode cX7_init 5 = .ok (.bipush 40, 2) := by decide +kernel
theorem dX7_init_7 : decode cX7_init 7 = .ok (.newarray .boolean, 2) := by decide +kernel
theorem dX7_init_9 : decode cX7_init 9 = .ok (.putfield 9, 3) := by decide +kernel
theorem dX7_init_12 : decode cX7_init 12 = .ok (.aload_n 0, 1) := by decide +kernel
theorem dX7_init_13 : decode cX7_init 13 = .ok (.bipush 40, 2) := by decide +kernel
theorem dX7_init_15 : decode cX7_init 15 = .ok (.newarray .int, 2) := by decide +kernel
theorem dX7_init_17 : decode cX7_init 17 = .ok (.putfield 13, 3) := by decide +kernel
theorem dX7_init_20 : decode cX7_init 20 = .ok (.aload_n 0, 1) := by decide +kernel
theorem dX7_init_21 : decode cX7_init 21 = .ok (.bipush 40, 2) := by decide +kernel
theorem dX7_init_23 : decode cX7_init 23 = .ok (.newarray .int, 2) := by decide +kernel
theorem dX7_init_25 : decode cX7_init 25 = .ok (.putfield 17, 3) := by decide +kernel
theorem dX7_init_28 : decode cX7_init 28 = .ok (.aload_n 0, 1) := by decide +kernel
theorem dX7_init_29 : decode cX7_init 29 = .ok (.bipush 40, 2) := by decide +kernel
theorem dX7_init_31 : decode cX7_init 31 = .ok (.newarray .int, 2) := by decide +kernel
theorem dX7_init_33 : decode cX7_init 33 = .ok (.putfield 20, 3) := by decide +kernel
theorem dX7_init_36 : decode cX7_init 36 = .ok (.aload_n 0, 1) := by decide +kernel
theorem dX7_init_37 : decode cX7_init 37 = .ok (.bipush 40, 2) := by decide +kernel
theorem dX7_init_39 : decode cX7_init 39 = .ok (.newarray .int, 2) := by decide +kernel
theorem dX7_init_41 : decode cX7_init 41 = .ok (.putfield 23, 3) := by decide +kernel
theorem dX7_init_44 : decode cX7_init 44 = .ok (.aload_n 0, 1) := by decide +kernel
theorem dX7_init_45 : decode cX7_init 45 = .ok (.bipush 40, 2) := by decide +kernel
theorem dX7_init_47 : decode cX7_init 47 = .ok (.newarray .int, 2) := by decide +kernel
theorem dX7_init_49 : decode cX7_init 49 = .ok (.putfield 26, 3) := by decide +kernel
theorem dX7_init_52 : decode cX7_init 52 = .ok (.aload_n 0, 1) := by decide +kernel
theorem dX7_init_53 : decode cX7_init 53 = .ok (.bipush 40, 2) := by decide +kernel
theorem dX7_init_55 : decode cX7_init 55 = .ok (.newarray .int, 2) := by decide +kernel
theorem dX7_init_57 : decode cX7_init 57 = .ok (.putfield 29, 3) := by decide +kernel
theorem dX7_init_60 : decode cX7_init 60 = .ok (.aload_n 0, 1) := by decide +kernel
theorem dX7_init_61 : decode cX7_init 61 = .ok (.bipush 40, 2) := by decide +kernel
theorem dX7_init_63 : decode cX7_init 63 = .ok (.newarray .int, 2) := by decide +kernel
theorem dX7_init_65 : decode cX7_init 65 = .ok (.putfield 32, 3) := by decide +kernel
theorem dX7_init_68 : decode cX7_init 68 = .ok (.aload_n 0, 1) := by decide +kernel
theorem dX7_init_69 : decode cX7_init 69 = .ok (.bipush 40, 2) := by decide +kernel
theorem dX7_init_71 : decode cX7_init 71 = .ok (.newarray .int, 2) := by decide +kernel
theorem dX7_init_73 : decode cX7_init 73 = .ok (.putfield 35, 3) := by decide +kernel
theorem dX7_init_76 : decode cX7_init 76 = .ok (.aload_n 0, 1) := by decide +kernel
theorem dX7_init_77 : decode cX7_init 77 = .ok (.bipush 40, 2) := by decide +kernel
theorem dX7_init_79 : decode cX7_init 79 = .ok (.newarray .int, 2) := by decide +kernel
theorem dX7_init_81 : decode cX7_init 81 = .ok (.putfield 38, 3) := by decide +kernel
theorem dX7_init_84 : decode cX7_init 84 = .ok (.aload_n 0, 1) := by decide +kernel
theorem dX7_init_85 : decode cX7_init 85 = .ok (.bipush 40, 2) := by decide +kernel
theorem dX7_init_87 : decode cX7_init 87 = .ok (.newarray .int, 2) := by decide +kernel
theorem dX7_init_89 : decode cX7_init 89 = .ok (.putfield 41, 3) := by decide +kernel
theorem dX7_init_92 : decode cX7_init 92 = .ok (.aload_n 0, 1) := by decide +kernel
theorem dX7_init_93 : decode cX7_init 93 = .ok (.bipush 40, 2) := by decide +kernel
theorem dX7_init_95 : decode cX7_init 95 = .ok (.newarray .boolean, 2) := by decide +kernel
theorem dX7_init_97 : decode cX7_init 97 = .ok (.putfield 44, 3) := by decide +kernel
theorem dX7_init_100 : decode cX7_init 100 = .ok (.aload_n 0, 1) := by decide +kernel
theorem dX7_init_101 : decode cX7_init 101 = .ok (.bipush 40, 2) := by decide +kernel
theorem dX7_init_103 : decode cX7_init 103 = .ok (.newarray .int, 2) := by decide +kernel
theorem dX7_init_105 : decode cX7_init 105 = .ok (.putfield 47, 3) := by decide +kernel
theorem dX7_init_108 : decode cX7_init 108 = .ok (.aload_n 0, 1) := by decide +kernel
theorem dX7_init_109 : decode cX7_init 109 = .ok (.bipush 40, 2) := by decide +kernel
theorem dX7_init_111 : decode cX7_init 111 = .ok (.newarray .int, 2) := by decide +kernel
theorem dX7_init_113 : decode cX7_init 113 = .ok (.putfield 50, 3) := by decide +kernel
theorem dX7_init_116 : decode cX7_init 116 = .ok (.aload_n 0, 1) := by decide +kernel
theorem dX7_init_117 : decode cX7_init 117 = .ok (.bipush 40, 2) := by decide +kernel
theorem dX7_init_119 : decode cX7_init 119 = .ok (.newarray .int, 2) := by decide +kernel
theorem dX7_init_121 : decode cX7_init 121 = .ok (.putfield 53, 3) := by decide +kernel
theorem dX7_init_124 : decode cX7_init 124 = .ok (.aload_n 0, 1) := by decide +kernel
theorem dX7_init_125 : decode cX7_init 125 = .ok (.bipush 40, 2) := by decide +kernel
theorem dX7_init_127 : decode cX7_init 127 = .ok (.newarray .int, 2) := by decide +kernel
theorem dX7_init_129 : decode cX7_init 129 = .ok (.putfield 56, 3) := by decide +kernel
theorem dX7_init_132 : decode cX7_init 132 = .ok (.aload_n 0, 1) := by decide +kernel
theorem dX7_init_133 : decode cX7_init 133 = .ok (.bipush 40, 2) := by decide +kernel
theorem dX7_init_135 : decode cX7_init 135 = .ok (.newarray .boolean, 2) := by decide +kernel
theorem dX7_init_137 : decode cX7_init 137 = .ok (.putfield 59, 3) := by decide +kernel
theorem dX7_init_140 : decode cX7_init 140 = .ok (.aload_n 0, 1) := by decide +kernel
theorem dX7_init_141 : decode cX7_init 141 = .ok (.bipush 16, 2) := by decide +kernel
theorem dX7_init_143 : decode cX7_init 143 = .ok (.newarray .int, 2) := by decide +kernel
theorem dX7_init_145 : decode cX7_init 145 = .ok (.putfield 62, 3) := by decide +kernel
theorem dX7_init_148 : decode cX7_init 148 = .ok (.aload_n 0, 1) := by decide +kernel
theorem dX7_init_149 : decode cX7_init 149 = .ok (.bipush 120, 2) := by decide +kernel
theorem dX7_init_151 : decode cX7_init 151 = .ok (.newarray .int, 2) := by decide +kernel
theorem dX7_init_153 : decode cX7_init 153 = .ok (.putfield 65, 3) := by decide +kernel
theorem dX7_init_156 : decode cX7_init 156 = .ok (.aload_n 0, 1) := by decide +kernel
theorem dX7_init_157 : decode cX7_init 157 = .ok (.bipush 120, 2) := by decide +kernel
theorem dX7_init_159 : decode cX7_init 159 = .ok (.newarray .int, 2) := by decide +kernel
theorem dX7_init_161 : decode cX7_init 161 = .ok (.putfield 68, 3) := by decide +kernel
theorem dX7_init_164 : decode cX7_init 164 = .ok (.aload_n 0, 1) := by decide +kernel
theorem dX7_init_165 : decode cX7_init 165 = .ok (.bipush 120, 2) := by decide +kernel
theorem dX7_init_167 : decode cX7_init 167 = .ok (.newarray .int, 2) := by decide +kernel
theorem dX7_init_169 : decode cX7_init 169 = .ok (.putfield 71, 3) := by decide +kernel
theorem dX7_init_172 : decode cX7_init 172 = .ok (.aload_n 0, 1) := by decide +kernel
theorem dX7_init_173 : decode cX7_init 173 = .ok (.bipush 120, 2) := by decide +kernel
theorem dX7_init_175 : decode cX7_init 175 = .ok (.newarray .int, 2) := by decide +kernel
theorem dX7_init_177 : decode cX7_init 177 = .ok (.putfield 74, 3) := by decide +kernel
theorem dX7_init_180 : decode cX7_init 180 = .ok (.aload_n 0, 1) := by decide +kernel
theorem dX7_init_181 : decode cX7_init 181 = .ok (.bipush 40, 2) := by decide +kernel
theorem dX7_init_183 : decode cX7_init 183 = .ok (.newarray .int, 2) := by decide +kernel
theorem dX7_init_185 : decode cX7_init 185 = .ok (.putfield 77, 3) := by decide +kernel
theorem dX7_init_188 : decode cX7_init 188 = .ok (.aload_n 0, 1) := by decide +kernel
theorem dX7_init_189 : decode cX7_init 189 = .ok (.bipush 100, 2) := by decide +kernel
theorem dX7_init_191 : decode cX7_init 191 = .ok (.newarray .int, 2) := by decide +kernel
theorem dX7_init_193 : decode cX7_init 193 = .ok (.putfield 80, 3) := by decide +kernel
theorem dX7_init_196 : decode cX7_init 196 = .ok (.aload_n 0, 1) := by decide +kernel
theorem dX7_init_197 : decode cX7_init 197 = .ok (.bipush 100, 2) := by decide +kernel
theorem dX7_init_199 : decode cX7_init 199 = .ok (.newarray .int, 2) := by decide +kernel
theorem dX7_init_201 : decode cX7_init 201 = .ok (.putfield 83, 3) := by decide +kernel
theorem dX7_init_204 : decode cX7_init 204 = .ok (.aload_n 0, 1) := by decide +kernel
theorem dX7_init_205 : decode cX7_init 205 = .ok (.bipush 100, 2) := by decide +kernel
theorem dX7_init_207 : decode cX7_init 207 = .ok (.newarray .int, 2) := by decide +kernel
theorem dX7_init_209 : decode cX7_init 209 = .ok (.putfield 86, 3) := by decide +kernel
theorem dX7_init_212 : decode cX7_init 212 = .ok (.aload_n 0, 1) := by decide +kernel
theorem dX7_init_213 : decode cX7_init 213 = .ok (.iload_n 1, 1) := by decide +kernel
theorem dX7_init_214 : decode cX7_init 214 = .ok (.iconst 1, 1) := by decide +kernel
theorem dX7_init_215 : decode cX7_init 215 = .ok (.bipush 40, 2) := by decide +kernel
theorem dX7_init_217 : decode cX7_init 217 = .ok (.invokestatic 89, 3) := by decide +kernel
theorem dX7_init_220 : decode cX7_init 220 = .ok (.putfield 93, 3) := by decide +kernel
theorem dX7_init_223 : decode cX7_init 223 = .ok (.aload_n 0, 1) := by decide +kernel
theorem dX7_init_224 : decode cX7_init 224 = .ok (.iload_n 2, 1) := by decide +kernel
theorem dX7_init_225 : decode cX7_init 225 = .ok (.iconst 0, 1) := by decide +kernel
theorem dX7_init_226 : decode cX7_init 226 = .ok (.bipush 16, 2) := by decide +kernel
theorem dX7_init_228 : decode cX7_init 228 = .ok (.invokestatic 89, 3) := by decide +kernel
theorem dX7_init_231 : decode cX7_init 231 = .ok (.putfield 97, 3) := by decide +kernel
theorem dX7_init_234 : decode cX7_init 234 = .ok (.aload_n 0, 1) := by decide +kernel
theorem dX7_init_235 : decode cX7_init 235 = .ok (.iload_n 3, 1) := by decide +kernel
theorem dX7_init_236 : decode cX7_init 236 = .ok (.iconst 0, 1) := by decide +kernel
theorem dX7_init_237 : decode cX7_init 237 = .ok (.bipush 120, 2) := by decide +kernel
theorem dX7_init_239 : decode cX7_init 239 = .ok (.invokestatic 89, 3) := by decide +kernel
theorem dX7_init_242 : decode cX7_init 242 = .ok (.putfield 100, 3) := by decide +kernel
theorem dX7_init_245 : decode cX7_init 245 = .ok (.aload_n 0, 1) := by decide +kernel
theorem dX7_init_246 : decode cX7_init 246 = .ok (.iload 4, 2) := by decide +kernel
theorem dX7_init_248 : decode cX7_init 248 = .ok (.iconst 0, 1) := by decide +kernel
theorem dX7_init_249 : decode cX7_init 249 = .ok (.bipush 100, 2) := by decide +kernel
theorem dX7_init_251 : decode cX7_init 251 = .ok (.invokestatic 89, 3) := by decide +kernel
theorem dX7_init_254 : decode cX7_init 254 = .ok (.putfield 103, 3) := by decide +kernel
theorem dX7_init_257 : decode cX7_init 257 = .ok (.aload_n 0, 1) := by decide +kernel
theorem dX7_init_258 : decode cX7_init 258 = .ok (.iload 5, 2) := by decide +kernel
theorem dX7_init_260 : decode cX7_init 260 = .ok (.iconst 1, 1) := by decide +kernel
theorem dX7_init_261 : decode cX7_init 261 = .ok (.sipush 20000, 3) := by decide +kernel
theorem dX7_init_264 : decode cX7_init 264 = .ok (.invokestatic 89, 3) := by decide +kernel
theorem dX7_init_267 : decode cX7_init 267 = .ok (.putfield 106, 3) := by decide +kernel
theorem dX7_init_270 : decode cX7_init 270 = .ok (.iconst 0, 1) := by decide +kernel
theorem dX7_init_271 : decode cX7_init 271 = .ok (.istore 6, 2) := by decide +kernel
theorem dX7_init_273 : decode cX7_init 273 = .ok (.iload 6, 2) := by decide +kernel
theorem dX7_init_275 : decode cX7_init 275 = .ok (.bipush 16, 2) := by decide +kernel
theorem dX7_init_277 : decode cX7_init 277 = .ok (.if_icmp .ge 17, 3) := by decide +kernel
theorem dX7_init_280 : decode cX7_init 280 = .ok (.aload_n 0, 1) := by decide +kernel
theorem dX7_init_281 : decode cX7_init 281 = .ok (.getfield 62, 3) := by decide +kernel
theorem dX7_init_284 : decode cX7_init 284 = .ok (.iload 6, 2) := by decide +kernel
theorem dX7_init_286 : decode cX7_init 286 = .ok (.iconst (-1), 1) := by decide +kernel
theorem dX7_init_287 : decode cX7_init 287 = .ok (.iastore, 1) := by decide +kernel
theorem dX7_init_288 : decode cX7_init 288 = .ok (.iinc 6 1, 3) := by decide +kernel
theorem dX7_init_291 : decode cX7_init 291 = .ok (.goto (-18), 3) := by decide +kernel
theorem dX7_init_294 : decode cX7_init 294 = .ok (.return_, 1) := by decide +kernel
theorem dX7_isLive_0 : decode cX7_isLive 0 = .ok (.iload_n 1, 1) := by decide +kernel
theorem dX7_isLive_1 : decode cX7_isLive 1 = .ok (.ifCond .lt 24, 3) := by decide +kernel
theorem dX7_isLive_4 : decode cX7_isLive 4 = .ok (.iload_n 1, 1) := by decide +kernel
theorem dX7_isLive_5 : decode cX7_isLive 5 = .ok (.aload_n 0, 1) := by decide +kernel
theorem dX7_isLive_6 : decode cX7_isLive 6 = .ok (.getfield 93, 3) := by decide +kernel
theorem dX7_isLive_9 : decode cX7_isLive 9 = .ok (.if_icmp .ge 16, 3) := by decide +kernel
theorem dX7_isLive_12 : decode cX7_isLive 12 = .ok (.aload_n 0, 1) := by decide +kernel
theorem dX7_isLive_13 : decode cX7_isLive 13 = .ok (.getfield 9, 3) := by decide +kernel
theorem dX7_isLive_16 : decode cX7_isLive 16 = .ok (.iload_n 1, 1) := by decide +kernel
theorem dX7_isLive_17 : decode cX7_isLive 17 = .ok (.baload, 1) := by decide +kernel
theorem dX7_isLive_18 : decode cX7_isLive 18 = .ok (.ifCond .eq 7, 3) := by decide +kernel
theorem dX7_isLive_21 : decode cX7_isLive 21 = .ok (.iconst 1, 1) := by decide +kernel
theorem dX7_isLive_22 : decode cX7_isLive 22 = .ok (.goto 4, 3) := by decide +kernel
theorem dX7_isLive_25 : decode cX7_isLive 25 = .ok (.iconst 0, 1) := by decide +kernel
theorem dX7_isLive_26 : decode cX7_isLive 26 = .ok (.ireturn, 1) := by decide +kernel
theorem dX7_isPending_0 : decode cX7_isPending 0 = .ok (.aload_n 0, 1) := by decide +kernel
theorem dX7_isPending_1 : decode cX7_isPending 1 = .ok (.iload_n 1, 1) := by decide +kernel
theorem dX7_isPending_2 : decode cX7_isPending 2 = .ok (.invokevirtual 109, 3) := by decide +kernel
theorem dX7_isPending_5 : decode cX7_isPending 5 = .ok (.ifCond .eq 16, 3) := by decide +kernel
theorem dX7_isPending_8 : decode cX7_isPending 8 = .ok (.aload_n 0, 1) := by decide +kernel
theorem dX7_isPending_9 : decode cX7_isPending 9 = .ok (.getfield 44, 3) := by decide +kernel
theorem dX7_isPending_12 : decode cX7_isPending 12 = .ok (.iload_n 1, 1) := by decide +kernel
theorem dX7_isPending_13 : decode cX7_isPending 13 = .ok (.baload, 1) := by decide +kernel
theorem dX7_isPending_14 : decode cX7_isPending 14 = .ok (.ifCond .eq 7, 3) := by decide +kernel
theorem dX7_isPending_17 : decode cX7_isPending 17 = .ok (.iconst 1, 1) := by decide +kernel
theorem dX7_isPending_18 : decode cX7_isPending 18 = .ok (.goto 4, 3) := by decide +kernel
theorem dX7_isPending_21 : decode cX7_isPending 21 = .ok (.iconst 0, 1) := by decide +kernel
theorem dX7_isPending_22 : decode cX7_isPending 22 = .ok (.ireturn, 1) := by decide +kernel
theorem dX7_isLock_0 : decode cX7_isLock 0 = .ok (.iload_n 1, 1) := by decide +kernel
theorem dX7_isLock_1 : decode cX7_isLock 1 = .ok (.ifCond .lt 15, 3) := by decide +kernel
theorem dX7_isLock_4 : decode cX7_isLock 4 = .ok (.iload_n 1, 1) := by decide +kernel
theorem dX7_isLock_5 : decode cX7_isLock 5 = .ok (.aload_n 0, 1) := by decide +kernel
theorem dX7_isLock_6 : decode cX7_isLock 6 = .ok (.getfield 97, 3) := by decide +kernel
theorem dX7_isLock_9 : decode cX7_isLock 9 = .ok (.if_icmp .ge 7, 3) := by decide +kernel
theorem dX7_isLock_12 : decode cX7_isLock 12 = .ok (.iconst 1, 1) := by decide +kernel
theorem dX7_isLock_13 : decode cX7_isLock 13 = .ok (.goto 4, 3) := by decide +kernel
theorem dX7_isLock_16 : decode cX7_isLock 16 = .ok (.iconst 0, 1) := by decide +kernel
theorem dX7_isLock_17 : decode cX7_isLock 17 = .ok (.ireturn, 1) := by decide +kernel
theorem dX7_reckons_0 : decode cX7_reckons 0 = .ok (.iconst 0, 1) := by decide +kernel
theorem dX7_reckons_1 : decode cX7_reckons 1 = .ok (.istore_n 1, 1) := by decide +kernel
theorem dX7_reckons_2 : decode cX7_reckons 2 = .ok (.iload_n 1, 1) := by decide +kernel
theorem dX7_reckons_3 : decode cX7_reckons 3 = .ok (.aload_n 0, 1) := by decide +kernel
theorem dX7_reckons_4 : decode cX7_reckons 4 = .ok (.getfield 93, 3) := by decide +kernel
theorem dX7_reckons_7 : decode cX7_reckons 7 = .ok (.if_icmp .ge 21, 3) := by decide +kernel
theorem dX7_reckons_10 : decode cX7_reckons 10 = .ok (.aload_n 0, 1) := by decide +kernel
theorem dX7_reckons_11 : decode cX7_reckons 11 = .ok (.getfield 77, 3) := by decide +kernel
theorem dX7_reckons_14 : decode cX7_reckons 14 = .ok (.iload_n 1, 1) := by decide +kernel
theorem dX7_reckons_15 : decode cX7_reckons 15 = .ok (.aload_n 0, 1) := by decide +kernel
theorem dX7_reckons_16 : decode cX7_reckons 16 = .ok (.getfield 50, 3) := by decide +kernel
theorem dX7_reckons_19 : decode cX7_reckons 19 = .ok (.iload_n 1, 1) := by decide +kernel
theorem dX7_reckons_20 : decode cX7_reckons 20 = .ok (.iaload, 1) := by decide +kernel
theorem dX7_reckons_21 : decode cX7_reckons 21 = .ok (.iastore, 1) := by decide +kernel
theorem dX7_reckons_22 : decode cX7_reckons 22 = .ok (.iinc 1 1, 3) := by decide +kernel
theorem dX7_reckons_25 : decode cX7_reckons 25 = .ok (.goto (-23), 3) := by decide +kernel
theorem dX7_reckons_28 : decode cX7_reckons 28 = .ok (.iconst 1, 1) := by decide +kernel
theorem dX7_reckons_29 : decode cX7_reckons 29 = .ok (.istore_n 1, 1) := by decide +kernel
theorem dX7_reckons_30 : decode cX7_reckons 30 = .ok (.iload_n 1, 1) := by decide +kernel
theorem dX7_reckons_31 : decode cX7_reckons 31 = .ok (.ifCond .eq 94, 3) := by decide +kernel
theorem dX7_reckons_34 : decode cX7_reckons 34 = .ok (.iconst 0, 1) := by decide +kernel
theorem dX7_reckons_35 : decode cX7_reckons 35 = .ok (.istore_n 1, 1) := by decide +kernel
theorem dX7_reckons_36 : decode cX7_reckons 36 = .ok (.iconst 0, 1) := by decide +kernel
theorem dX7_reckons_37 : decode cX7_reckons 37 = .ok (.istore_n 2, 1) := by decide +kernel
theorem dX7_reckons_38 : decode cX7_reckons 38 = .ok (.iload_n 2, 1) := by decide +kernel
theorem dX7_reckons_39 : decode cX7_reckons 39 = .ok (.aload_n 0, 1) := by decide +kernel
theorem dX7_reckons_40 : decode cX7_reckons 40 = .ok (.getfield 93, 3) := by decide +kernel
theorem dX7_reckons_43 : decode cX7_reckons 43 = .ok (.if_icmp .ge 79, 3) := by decide +kernel
theorem dX7_reckons_46 : decode cX7_reckons 46 = .ok (.aload_n 0, 1) := by decide +kernel
theorem dX7_reckons_47 : decode cX7_reckons 47 = .ok (.iload_n 2, 1) := by decide +kernel
theorem dX7_reckons_48 : decode cX7_reckons 48 = .ok (.invokevirtual 113, 3) := by decide +kernel
theorem dX7_reckons_51 : decode cX7_reckons 51 = .ok (.ifCond .eq 65, 3) := by decide +kernel
theorem dX7_reckons_54 : decode cX7_reckons 54 = .ok (.aload_n 0, 1) := by decide +kernel
theorem dX7_reckons_55 : decode cX7_reckons 55 = .ok (.getfield 56, 3) := by decide +kernel
theorem dX7_reckons_58 : decode cX7_reckons 58 = .ok (.iload_n 2, 1) := by decide +kernel
theorem dX7_reckons_59 : decode cX7_reckons 59 = .ok (.iaload, 1) := by decide +kernel
theorem dX7_reckons_60 : decode cX7_reckons 60 = .ok (.iconst (-1), 1) := by decide +kernel
theorem dX7_reckons_61 : decode cX7_reckons 61 = .ok (.if_icmp .ne 6, 3) := by decide +kernel
theorem dX7_reckons_64 : decode cX7_reckons 64 = .ok (.goto 52, 3) := by decide +kernel
theorem dX7_reckons_67 : decode cX7_reckons 67 = .ok (.aload_n 0, 1) := by decide +kernel
theorem dX7_reckons_68 : decode cX7_reckons 68 = .ok (.getfield 62, 3) := by decide +kernel
theorem dX7_reckons_71 : decode cX7_reckons 71 = .ok (.aload_n 0, 1) := by decide +kernel
theorem dX7_reckons_72 : decode cX7_reckons 72 = .ok (.getfield 56, 3) := by decide +kernel
theorem dX7_reckons_75 : decode cX7_reckons 75 = .ok (.iload_n 2, 1) := by decide +kernel
theorem dX7_reckons_76 : decode cX7_reckons 76 = .ok (.iaload, 1) := by decide +kernel
theorem dX7_reckons_77 : decode cX7_reckons 77 = .ok (.iaload, 1) := by decide +kernel
theorem dX7_reckons_78 : decode cX7_reckons 78 = .ok (.istore_n 3, 1) := by decide +kernel
theorem dX7_reckons_79 : decode cX7_reckons 79 = .ok (.iload_n 3, 1) := by decide +kernel
theorem dX7_reckons_80 : decode cX7_reckons 80 = .ok (.iconst (-1), 1) := by decide +kernel
theorem dX7_reckons_81 : decode cX7_reckons 81 = .ok (.if_icmp .eq 35, 3) := by decide +kernel
theorem dX7_reckons_84 : decode cX7_reckons 84 = .ok (.aload_n 0, 1) := by decide +kernel
theorem dX7_reckons_85 : decode cX7_reckons 85 = .ok (.getfield 77, 3) := by decide +kernel
theorem dX7_reckons_88 : decode cX7_reckons 88 = .ok (.iload_n 3, 1) := by decide +kernel
theorem dX7_reckons_89 : decode cX7_reckons 89 = .ok (.iaload, 1) := by decide +kernel
theorem dX7_reckons_90 : decode cX7_reckons 90 = .ok (.aload_n 0, 1) := by decide +kernel
theorem dX7_reckons_91 : decode cX7_reckons 91 = .ok (.getfield 77, 3) := by decide +kernel
theorem dX7_reckons_94 : decode cX7_reckons 94 = .ok (.iload_n 2, 1) := by decide +kernel
theorem dX7_reckons_95 : decode cX7_reckons 95 = .ok (.iaload, 1) := by decide +kernel
theorem dX7_reckons_96 : decode cX7_reckons 96 = .ok (.if_icmp .gt 6, 3) := by decide +kernel
theorem dX7_reckons_99 : decode cX7_reckons 99 = .ok (.goto 17, 3) := by decide +kernel
theorem dX7_reckons_102 : decode cX7_reckons 102 = .ok (.aload_n 0, 1) := by decide +kernel
theorem dX7_reckons_103 : decode cX7_reckons 103 = .ok (.getfield 77, 3) := by decide +kernel
theorem dX7_reckons_106 : decode cX7_reckons 106 = .ok (.iload_n 3, 1) := by decide +kernel
theorem dX7_reckons_107 : decode cX7_reckons 107 = .ok (.aload_n 0, 1) := by decide +kernel
theorem dX7_reckons_108 : decode cX7_reckons 108 = .ok (.getfield 77, 3) := by decide +kernel
theorem dX7_reckons_111 : decode cX7_reckons 111 = .ok (.iload_n 2, 1) := by decide +kernel
theorem dX7_reckons_112 : decode cX7_reckons 112 = .ok (.iaload, 1) := by decide +kernel
theorem dX7_reckons_113 : decode cX7_reckons 113 = .ok (.iastore, 1) := by decide +kernel
theorem dX7_reckons_114 : decode cX7_reckons 114 = .ok (.iconst 1, 1) := by decide +kernel
theorem dX7_reckons_115 : decode cX7_reckons 115 = .ok (.istore_n 1, 1) := by decide +kernel
theorem dX7_reckons_116 : decode cX7_reckons 116 = .ok (.iinc 2 1, 3) := by decide +kernel
theorem dX7_reckons_119 : decode cX7_reckons 119 = .ok (.goto (-81), 3) := by decide +kernel
theorem dX7_reckons_122 : decode cX7_reckons 122 = .ok (.goto (-92), 3) := by decide +kernel
theorem dX7_reckons_125 : decode cX7_reckons 125 = .ok (.return_, 1) := by decide +kernel
theorem dX7_ahead_0 : decode cX7_ahead 0 = .ok (.aload_n 0, 1) := by decide +kernel
theorem dX7_ahead_1 : decode cX7_ahead 1 = .ok (.invokevirtual 116, 3) := by decide +kernel
theorem dX7_ahead_4 : decode cX7_ahead 4 = .ok (.iconst (-1), 1) := by decide +kernel
theorem dX7_ahead_5 : decode cX7_ahead 5 = .ok (.istore_n 2, 1) := by decide +kernel
theorem dX7_ahead_6 : decode cX7_ahead 6 = .ok (.iconst 0, 1) := by decide +kernel
theorem dX7_ahead_7 : decode cX7_ahead 7 = .ok (.istore_n 3, 1) := by decide +kernel
theorem dX7_ahead_8 : decode cX7_ahead 8 = .ok (.iload_n 3, 1) := by decide +kernel
theorem dX7_ahead_9 : decode cX7_ahead 9 = .ok (.aload_n 0, 1) := by decide +kernel
theorem dX7_ahead_10 : decode cX7_ahead 10 = .ok (.getfield 93, 3) := by decide +kernel
theorem dX7_ahead_13 : decode cX7_ahead 13 = .ok (.if_icmp .ge 52, 3) := by decide +kernel
theorem dX7_ahead_16 : decode cX7_ahead 16 = .ok (.aload_n 0, 1) := by decide +kernel
theorem dX7_ahead_17 : decode cX7_ahead 17 = .ok (.iload_n 3, 1) := by decide +kernel
theorem dX7_ahead_18 : decode cX7_ahead 18 = .ok (.invokevirtual 113, 3) := by decide +kernel
theorem dX7_ahead_21 : decode cX7_ahead 21 = .ok (.ifCond .eq 38, 3) := by decide +kernel
theorem dX7_ahead_24 : decode cX7_ahead 24 = .ok (.aload_n 0, 1) := by decide +kernel
theorem dX7_ahead_25 : decode cX7_ahead 25 = .ok (.getfield 56, 3) := by decide +kernel
theorem dX7_ahead_28 : decode cX7_ahead 28 = .ok (.iload_n 3, 1) := by decide +kernel
theorem dX7_ahead_29 : decode cX7_ahead 29 = .ok (.iaload, 1) := by decide +kernel
theorem dX7_ahead_30 : decode cX7_ahead 30 = .ok (.iload_n 1, 1) := by decide +kernel
theorem dX7_ahead_31 : decode cX7_ahead 31 = .ok (.if_icmp .eq 6, 3) := by decide +kernel
theorem dX7_ahead_34 : decode cX7_ahead 34 = .ok (.goto 25, 3) := by decide +kernel
theorem dX7_ahead_37 : decode cX7_ahead 37 = .ok (.iload_n 2, 1) := by decide +kernel
theorem dX7_ahead_38 : decode cX7_ahead 38 = .ok (.iconst (-1), 1) := by decide +kernel
theorem dX7_ahead_39 : decode cX7_ahead 39 = .ok (.if_icmp .eq 18, 3) := by decide +kernel
theorem dX7_ahead_42 : decode cX7_ahead 42 = .ok (.aload_n 0, 1) := by decide +kernel
theorem dX7_ahead_43 : decode cX7_ahead 43 = .ok (.getfield 77, 3) := by decide +kernel
theorem dX7_ahead_46 : decode cX7_ahead 46 = .ok (.iload_n 3, 1) := by decide +kernel
theorem dX7_ahead_47 : decode cX7_ahead 47 = .ok (.iaload, 1) := by decide +kernel
theorem dX7_ahead_48 : decode cX7_ahead 48 = .ok (.aload_n 0, 1) := by decide +kernel
theorem dX7_ahead_49 : decode cX7_ahead 49 = .ok (.getfield 77, 3) := by decide +kernel
theorem dX7_ahead_52 : decode cX7_ahead 52 = .ok (.iload_n 2, 1) := by decide +kernel
theorem dX7_ahead_53 : decode cX7_ahead 53 = .ok (.iaload, 1) := by decide +kernel
theorem dX7_ahead_54 : decode cX7_ahead 54 = .ok (.if_icmp .ge 5, 3) := by decide +kernel
theorem dX7_ahead_57 : decode cX7_ahead 57 = .ok (.iload_n 3, 1) := by decide +kernel
theorem dX7_ahead_58 : decode cX7_ahead 58 = .ok (.istore_n 2, 1) := by decide +kernel
theorem dX7_ahead_59 : decode cX7_ahead 59 = .ok (.iinc 3 1, 3) := by decide +kernel
theorem dX7_ahead_62 : decode cX7_ahead 62 = .ok (.goto (-54), 3) := by decide +kernel
theorem dX7_ahead_65 : decode cX7_ahead 65 = .ok (.iload_n 2, 1) := by decide +kernel
theorem dX7_ahead_66 : decode cX7_ahead 66 = .ok (.ireturn, 1) := by decide +kernel
theorem dX7_letsGo_0 : decode cX7_letsGo 0 = .ok (.aload_n 0, 1) := by decide +kernel
theorem dX7_letsGo_1 : decode cX7_letsGo 1 = .ok (.getfield 62, 3) := by decide +kernel
theorem dX7_letsGo_4 : decode cX7_letsGo 4 = .ok (.iload_n 1, 1) := by decide +kernel
theorem dX7_letsGo_5 : decode cX7_letsGo 5 = .ok (.iconst (-1), 1) := by decide +kernel
theorem dX7_letsGo_6 : decode cX7_letsGo 6 = .ok (.iastore, 1) := by decide +kernel
theorem dX7_letsGo_7 : decode cX7_letsGo 7 = .ok (.aload_n 0, 1) := by decide +kernel
theorem dX7_letsGo_8 : decode cX7_letsGo 8 = .ok (.iload_n 1, 1) := by decide +kernel
theorem dX7_letsGo_9 : decode cX7_letsGo 9 = .ok (.invokevirtual 119, 3) := by decide +kernel
theorem dX7_letsGo_12 : decode cX7_letsGo 12 = .ok (.istore_n 2, 1) := by decide +kernel
theorem dX7_letsGo_13 : decode cX7_letsGo 13 = .ok (.iload_n 2, 1) := by decide +kernel
theorem dX7_letsGo_14 : decode cX7_letsGo 14 = .ok (.iconst (-1), 1) := by decide +kernel
theorem dX7_letsGo_15 : decode cX7_letsGo 15 = .ok (.if_icmp .ne 4, 3) := by decide +kernel
theorem dX7_letsGo_18 : decode cX7_letsGo 18 = .ok (.return_, 1) := by decide +kernel
theorem dX7_letsGo_19 : decode cX7_letsGo 19 = .ok (.aload_n 0, 1) := by decide +kernel
theorem dX7_letsGo_20 : decode cX7_letsGo 20 = .ok (.getfield 62, 3) := by decide +kernel
theorem dX7_letsGo_23 : decode cX7_letsGo 23 = .ok (.iload_n 1, 1) := by decide +kernel
theorem dX7_letsGo_24 : decode cX7_letsGo 24 = .ok (.iload_n 2, 1) := by decide +kernel
theorem dX7_letsGo_25 : decode cX7_letsGo 25 = .ok (.iastore, 1) := by decide +kernel
theorem dX7_letsGo_26 : decode cX7_letsGo 26 = .ok (.aload_n 0, 1) := by decide +kernel
theorem dX7_letsGo_27 : decode cX7_letsGo 27 = .ok (.getfield 56, 3) := by decide +kernel
theorem dX7_letsGo_30 : decode cX7_letsGo 30 = .ok (.iload_n 2, 1) := by decide +kernel
theorem dX7_letsGo_31 : decode cX7_letsGo 31 = .ok (.iconst (-1), 1) := by decide +kernel
theorem dX7_letsGo_32 : decode cX7_letsGo 32 = .ok (.iastore, 1) := by decide +kernel
theorem dX7_letsGo_33 : decode cX7_letsGo 33 = .ok (.return_, 1) := by decide +kernel
theorem dX7_drops_0 : decode cX7_drops 0 = .ok (.aload_n 0, 1) := by decide +kernel
theorem dX7_drops_1 : decode cX7_drops 1 = .ok (.getfield 44, 3) := by decide +kernel
theorem dX7_drops_4 : decode cX7_drops 4 = .ok (.iload_n 1, 1) := by decide +kernel
theorem dX7_drops_5 : decode cX7_drops 5 = .ok (.iconst 0, 1) := by decide +kernel
theorem dX7_drops_6 : decode cX7_drops 6 = .ok (.bastore, 1) := by decide +kernel
theorem dX7_drops_7 : decode cX7_drops 7 = .ok (.aload_n 0, 1) := by decide +kernel
theorem dX7_drops_8 : decode cX7_drops 8 = .ok (.getfield 56, 3) := by decide +kernel
theorem dX7_drops_11 : decode cX7_drops 11 = .ok (.iload_n 1, 1) := by decide +kernel
theorem dX7_drops_12 : decode cX7_drops 12 = .ok (.iconst (-1), 1) := by decide +kernel
theorem dX7_drops_13 : decode cX7_drops 13 = .ok (.iastore, 1) := by decide +kernel
theorem dX7_drops_14 : decode cX7_drops 14 = .ok (.aload_n 0, 1) := by decide +kernel
theorem dX7_drops_15 : decode cX7_drops 15 = .ok (.getfield 59, 3) := by decide +kernel
theorem dX7_drops_18 : decode cX7_drops 18 = .ok (.iload_n 1, 1) := by decide +kernel
theorem dX7_drops_19 : decode cX7_drops 19 = .ok (.iconst 0, 1) := by decide +kernel
theorem dX7_drops_20 : decode cX7_drops 20 = .ok (.bastore, 1) := by decide +kernel
theorem dX7_drops_21 : decode cX7_drops 21 = .ok (.iconst 0, 1) := by decide +kernel
theorem dX7_drops_22 : decode cX7_drops 22 = .ok (.istore_n 2, 1) := by decide +kernel
theorem dX7_drops_23 : decode cX7_drops 23 = .ok (.iload_n 2, 1) := by decide +kernel
theorem dX7_drops_24 : decode cX7_drops 24 = .ok (.aload_n 0, 1) := by decide +kernel
theorem dX7_drops_25 : decode cX7_drops 25 = .ok (.getfield 97, 3) := by decide +kernel
theorem dX7_drops_28 : decode cX7_drops 28 = .ok (.if_icmp .ge 24, 3) := by decide +kernel
theorem dX7_drops_31 : decode cX7_drops 31 = .ok (.aload_n 0, 1) := by decide +kernel
theorem dX7_drops_32 : decode cX7_drops 32 = .ok (.getfield 62, 3) := by decide +kernel
theorem dX7_drops_35 : decode cX7_drops 35 = .ok (.iload_n 2, 1) := by decide +kernel
theorem dX7_drops_36 : decode cX7_drops 36 = .ok (.iaload, 1) := by decide +kernel
theorem dX7_drops_37 : decode cX7_drops 37 = .ok (.iload_n 1, 1) := by decide +kernel
theorem dX7_drops_38 : decode cX7_drops 38 = .ok (.if_icmp .ne 8, 3) := by decide +kernel
theorem dX7_drops_41 : decode cX7_drops 41 = .ok (.aload_n 0, 1) := by decide +kernel
theorem dX7_drops_42 : decode cX7_drops 42 = .ok (.iload_n 2, 1) := by decide +kernel
theorem dX7_drops_43 : decode cX7_drops 43 = .ok (.invokevirtual 123, 3) := by decide +kernel
theorem dX7_drops_46 : decode cX7_drops 46 = .ok (.iinc 2 1, 3) := by decide +kernel
theorem dX7_drops_49 : decode cX7_drops 49 = .ok (.goto (-26), 3) := by decide +kernel
theorem dX7_drops_52 : decode cX7_drops 52 = .ok (.return_, 1) := by decide +kernel
theorem dX7_addTask_0 : decode cX7_addTask 0 = .ok (.iload_n 2, 1) := by decide +kernel
theorem dX7_addTask_1 : decode cX7_addTask 1 = .ok (.ifCond .le 21, 3) := by decide +kernel
theorem dX7_addTask_4 : decode cX7_addTask 4 = .ok (.iload_n 2, 1) := by decide +kernel
theorem dX7_addTask_5 : decode cX7_addTask 5 = .ok (.iload_n 3, 1) := by decide +kernel
theorem dX7_addTask_6 : decode cX7_addTask 6 = .ok (.if_icmp .gt 16, 3) := by decide +kernel
theorem dX7_addTask_9 : decode cX7_addTask 9 = .ok (.iload_n 3, 1) := by decide +kernel
theorem dX7_addTask_10 : decode cX7_addTask 10 = .ok (.iload_n 1, 1) := by decide +kernel
theorem dX7_addTask_11 : decode cX7_addTask 11 = .ok (.if_icmp .gt 11, 3) := by decide +kernel
theorem dX7_addTask_14 : decode cX7_addTask 14 = .ok (.iload_n 1, 1) := by decide +kernel
theorem dX7_addTask_15 : decode cX7_addTask 15 = .ok (.aload_n 0, 1) := by decide +kernel
theorem dX7_addTask_16 : decode cX7_addTask 16 = .ok (.getfield 106, 3) := by decide +kernel
theorem dX7_addTask_19 : decode cX7_addTask 19 = .ok (.if_icmp .le 6, 3) := by decide +kernel
theorem dX7_addTask_22 : decode cX7_addTask 22 = .ok (.bipush (-2), 2) := by decide +kernel
theorem dX7_addTask_24 : decode cX7_addTask 24 = .ok (.ireturn, 1) := by decide +kernel
theorem dX7_addTask_25 : decode cX7_addTask 25 = .ok (.iconst 0, 1) := by decide +kernel
theorem dX7_addTask_26 : decode cX7_addTask 26 = .ok (.istore 4, 2) := by decide +kernel
theorem dX7_addTask_28 : decode cX7_addTask 28 = .ok (.iload 4, 2) := by decide +kernel
theorem dX7_addTask_30 : decode cX7_addTask 30 = .ok (.aload_n 0, 1) := by decide +kernel
theorem dX7_addTask_31 : decode cX7_addTask 31 = .ok (.getfield 93, 3) := by decide +kernel
theorem dX7_addTask_34 : decode cX7_addTask 34 = .ok (.if_icmp .ge 19, 3) := by decide +kernel
theorem dX7_addTask_37 : decode cX7_addTask 37 = .ok (.aload_n 0, 1) := by decide +kernel
theorem dX7_addTask_38 : decode cX7_addTask 38 = .ok (.getfield 9, 3) := by decide +kernel
theorem dX7_addTask_41 : decode cX7_addTask 41 = .ok (.iload 4, 2) := by decide +kernel
theorem dX7_addTask_43 : decode cX7_addTask 43 = .ok (.baload, 1) := by decide +kernel
theorem dX7_addTask_44 : decode cX7_addTask 44 = .ok (.ifCond .eq 9, 3) := by decide +kernel
theorem dX7_addTask_47 : decode cX7_addTask 47 = .ok (.iinc 4 1, 3) := by decide +kernel
theorem dX7_addTask_50 : decode cX7_addTask 50 = .ok (.goto (-22), 3) := by decide +kernel
theorem dX7_addTask_53 : decode cX7_addTask 53 = .ok (.iload 4, 2) := by decide +kernel
theorem dX7_addTask_55 : decode cX7_addTask 55 = .ok (.aload_n 0, 1) := by decide +kernel
theorem dX7_addTask_56 : decode cX7_addTask 56 = .ok (.getfield 93, 3) := by decide +kernel
theorem dX7_addTask_59 : decode cX7_addTask 59 = .ok (.if_icmp .ne 5, 3) := by decide +kernel
theorem dX7_addTask_62 : decode cX7_addTask 62 = .ok (.iconst (-1), 1) := by decide +kernel
theorem dX7_addTask_63 : decode cX7_addTask 63 = .ok (.ireturn, 1) := by decide +kernel
theorem dX7_addTask_64 : decode cX7_addTask 64 = .ok (.aload_n 0, 1) := by decide +kernel
theorem dX7_addTask_65 : decode cX7_addTask 65 = .ok (.getfield 9, 3) := by decide +kernel
theorem dX7_addTask_68 : decode cX7_addTask 68 = .ok (.iload 4, 2) := by decide +kernel
theorem dX7_addTask_70 : decode cX7_addTask 70 = .ok (.iconst 1, 1) := by decide +kernel
theorem dX7_addTask_71 : decode cX7_addTask 71 = .ok (.bastore, 1) := by decide +kernel
theorem dX7_addTask_72 : decode cX7_addTask 72 = .ok (.aload_n 0, 1) := by decide +kernel
theorem dX7_addTask_73 : decode cX7_addTask 73 = .ok (.getfield 13, 3) := by decide +kernel
theorem dX7_addTask_76 : decode cX7_addTask 76 = .ok (.iload 4, 2) := by decide +kernel
theorem dX7_addTask_78 : decode cX7_addTask 78 = .ok (.iload_n 1, 1) := by decide +kernel
theorem dX7_addTask_79 : decode cX7_addTask 79 = .ok (.iastore, 1) := by decide +kernel
theorem dX7_addTask_80 : decode cX7_addTask 80 = .ok (.aload_n 0, 1) := by decide +kernel
theorem dX7_addTask_81 : decode cX7_addTask 81 = .ok (.getfield 17, 3) := by decide +kernel
theorem dX7_addTask_84 : decode cX7_addTask 84 = .ok (.iload 4, 2) := by decide +kernel
theorem dX7_addTask_86 : decode cX7_addTask 86 = .ok (.iload_n 2, 1) := by decide +kernel
theorem dX7_addTask_87 : decode cX7_addTask 87 = .ok (.iastore, 1) := by decide +kernel
theorem dX7_addTask_88 : decode cX7_addTask 88 = .ok (.aload_n 0, 1) := by decide +kernel
theorem dX7_addTask_89 : decode cX7_addTask 89 = .ok (.getfield 20, 3) := by decide +kernel
theorem dX7_addTask_92 : decode cX7_addTask 92 = .ok (.iload 4, 2) := by decide +kernel
theorem dX7_addTask_94 : decode cX7_addTask 94 = .ok (.iload_n 3, 1) := by decide +kernel
theorem dX7_addTask_95 : decode cX7_addTask 95 = .ok (.iastore, 1) := by decide +kernel
theorem dX7_addTask_96 : decode cX7_addTask 96 = .ok (.aload_n 0, 1) := by decide +kernel
theorem dX7_addTask_97 : decode cX7_addTask 97 = .ok (.getfield 23, 3) := by decide +kernel
theorem dX7_addTask_100 : decode cX7_addTask 100 = .ok (.iload 4, 2) := by decide +kernel
theorem dX7_addTask_102 : decode cX7_addTask 102 = .ok (.aload_n 0, 1) := by decide +kernel
theorem dX7_addTask_103 : decode cX7_addTask 103 = .ok (.getfield 127, 3) := by decide +kernel
theorem dX7_addTask_106 : decode cX7_addTask 106 = .ok (.iastore, 1) := by decide +kernel
theorem dX7_addTask_107 : decode cX7_addTask 107 = .ok (.aload_n 0, 1) := by decide +kernel
theorem dX7_addTask_108 : decode cX7_addTask 108 = .ok (.getfield 26, 3) := by decide +kernel
theorem dX7_addTask_111 : decode cX7_addTask 111 = .ok (.iload 4, 2) := by decide +kernel
theorem dX7_addTask_113 : decode cX7_addTask 113 = .ok (.iconst 0, 1) := by decide +kernel
theorem dX7_addTask_114 : decode cX7_addTask 114 = .ok (.iastore, 1) := by decide +kernel
theorem dX7_addTask_115 : decode cX7_addTask 115 = .ok (.aload_n 0, 1) := by decide +kernel
theorem dX7_addTask_116 : decode cX7_addTask 116 = .ok (.getfield 29, 3) := by decide +kernel
theorem dX7_addTask_119 : decode cX7_addTask 119 = .ok (.iload 4, 2) := by decide +kernel
theorem dX7_addTask_121 : decode cX7_addTask 121 = .ok (.iconst 0, 1) := by decide +kernel
theorem dX7_addTask_122 : decode cX7_addTask 122 = .ok (.iastore, 1) := by decide +kernel
theorem dX7_addTask_123 : decode cX7_addTask 123 = .ok (.aload_n 0, 1) := by decide +kernel
theorem dX7_addTask_124 : decode cX7_addTask 124 = .ok (.getfield 32, 3) := by decide +kernel
theorem dX7_addTask_127 : decode cX7_addTask 127 = .ok (.iload 4, 2) := by decide +kernel
theorem dX7_addTask_129 : decode cX7_addTask 129 = .ok (.iconst 0, 1) := by decide +kernel
theorem dX7_addTask_130 : decode cX7_addTask 130 = .ok (.iastore, 1) := by decide +kernel
theorem dX7_addTask_131 : decode cX7_addTask 131 = .ok (.aload_n 0, 1) := by decide +kernel
theorem dX7_addTask_132 : decode cX7_addTask 132 = .ok (.getfield 35, 3) := by decide +kernel
theorem dX7_addTask_135 : decode cX7_addTask 135 = .ok (.iload 4, 2) := by decide +kernel
theorem dX7_addTask_137 : decode cX7_addTask 137 = .ok (.iconst 0, 1) := by decide +kernel
theorem dX7_addTask_138 : decode cX7_addTask 138 = .ok (.iastore, 1) := by decide +kernel
theorem dX7_addTask_139 : decode cX7_addTask 139 = .ok (.aload_n 0, 1) := by decide +kernel
theorem dX7_addTask_140 : decode cX7_addTask 140 = .ok (.getfield 38, 3) := by decide +kernel
theorem dX7_addTask_143 : decode cX7_addTask 143 = .ok (.iload 4, 2) := by decide +kernel
theorem dX7_addTask_145 : decode cX7_addTask 145 = .ok (.iconst 0, 1) := by decide +kernel
theorem dX7_addTask_146 : decode cX7_addTask 146 = .ok (.iastore, 1) := by decide +kernel
theorem dX7_addTask_147 : decode cX7_addTask 147 = .ok (.aload_n 0, 1) := by decide +kernel
theorem dX7_addTask_148 : decode cX7_addTask 148 = .ok (.getfield 41, 3) := by decide +kernel
theorem dX7_addTask_151 : decode cX7_addTask 151 = .ok (.iload 4, 2) := by decide +kernel
theorem dX7_addTask_153 : decode cX7_addTask 153 = .ok (.iconst 0, 1) := by decide +kernel
theorem dX7_addTask_154 : decode cX7_addTask 154 = .ok (.iastore, 1) := by decide +kernel
theorem dX7_addTask_155 : decode cX7_addTask 155 = .ok (.aload_n 0, 1) := by decide +kernel
theorem dX7_addTask_156 : decode cX7_addTask 156 = .ok (.getfield 44, 3) := by decide +kernel
theorem dX7_addTask_159 : decode cX7_addTask 159 = .ok (.iload 4, 2) := by decide +kernel
theorem dX7_addTask_161 : decode cX7_addTask 161 = .ok (.iconst 0, 1) := by decide +kernel
theorem dX7_addTask_162 : decode cX7_addTask 162 = .ok (.bastore, 1) := by decide +kernel
theorem dX7_addTask_163 : decode cX7_addTask 163 = .ok (.aload_n 0, 1) := by decide +kernel
theorem dX7_addTask_164 : decode cX7_addTask 164 = .ok (.getfield 56, 3) := by decide +kernel
theorem dX7_addTask_167 : decode cX7_addTask 167 = .ok (.iload 4, 2) := by decide +kernel
theorem dX7_addTask_169 : decode cX7_addTask 169 = .ok (.iconst (-1), 1) := by decide +kernel
theorem dX7_addTask_170 : decode cX7_addTask 170 = .ok (.iastore, 1) := by decide +kernel
theorem dX7_addTask_171 : decode cX7_addTask 171 = .ok (.aload_n 0, 1) := by decide +kernel
theorem dX7_addTask_172 : decode cX7_addTask 172 = .ok (.getfield 59, 3) := by decide +kernel
theorem dX7_addTask_175 : decode cX7_addTask 175 = .ok (.iload 4, 2) := by decide +kernel
theorem dX7_addTask_177 : decode cX7_addTask 177 = .ok (.iconst 0, 1) := by decide +kernel
theorem dX7_addTask_178 : decode cX7_addTask 178 = .ok (.bastore, 1) := by decide +kernel
theorem dX7_addTask_179 : decode cX7_addTask 179 = .ok (.iload 4, 2) := by decide +kernel
theorem dX7_addTask_181 : decode cX7_addTask 181 = .ok (.ireturn, 1) := by decide +kernel
theorem dX7_mayStand_0 : decode cX7_mayStand 0 = .ok (.aload_n 0, 1) := by decide +kernel
theorem dX7_mayStand_1 : decode cX7_mayStand 1 = .ok (.getfield 71, 3) := by decide +kernel
theorem dX7_mayStand_4 : decode cX7_mayStand 4 = .ok (.iload_n 1, 1) := by decide +kernel
theorem dX7_mayStand_5 : decode cX7_mayStand 5 = .ok (.iaload, 1) := by decide +kernel
theorem dX7_mayStand_6 : decode cX7_mayStand 6 = .ok (.istore 5, 2) := by decide +kernel
theorem dX7_mayStand_8 : decode cX7_mayStand 8 = .ok (.iload 5, 2) := by decide +kernel
theorem dX7_mayStand_10 : decode cX7_mayStand 10 = .ok (.aload_n 0, 1) := by decide +kernel
theorem dX7_mayStand_11 : decode cX7_mayStand 11 = .ok (.getfield 74, 3) := by decide +kernel
theorem dX7_mayStand_14 : decode cX7_mayStand 14 = .ok (.iload_n 1, 1) := by decide +kernel
theorem dX7_mayStand_15 : decode cX7_mayStand 15 = .ok (.iaload, 1) := by decide +kernel
theorem dX7_mayStand_16 : decode cX7_mayStand 16 = .ok (.iadd, 1) := by decide +kernel
theorem dX7_mayStand_17 : decode cX7_mayStand 17 = .ok (.istore 6, 2) := by decide +kernel
theorem dX7_mayStand_19 : decode cX7_mayStand 19 = .ok (.iload_n 2, 1) := by decide +kernel
theorem dX7_mayStand_20 : decode cX7_mayStand 20 = .ok (.iload 6, 2) := by decide +kernel
theorem dX7_mayStand_22 : decode cX7_mayStand 22 = .ok (.if_icmp .ge 9, 3) := by decide +kernel
theorem dX7_mayStand_25 : decode cX7_mayStand 25 = .ok (.iload 5, 2) := by decide +kernel
theorem dX7_mayStand_27 : decode cX7_mayStand 27 = .ok (.iload_n 3, 1) := by decide +kernel
theorem dX7_mayStand_28 : decode cX7_mayStand 28 = .ok (.if_icmp .lt 5, 3) := by decide +kernel
theorem dX7_mayStand_31 : decode cX7_mayStand 31 = .ok (.iconst 1, 1) := by decide +kernel
theorem dX7_mayStand_32 : decode cX7_mayStand 32 = .ok (.ireturn, 1) := by decide +kernel
theorem dX7_mayStand_33 : decode cX7_mayStand 33 = .ok (.iload_n 2, 1) := by decide +kernel
theorem dX7_mayStand_34 : decode cX7_mayStand 34 = .ok (.iload 5, 2) := by decide +kernel
theorem dX7_mayStand_36 : decode cX7_mayStand 36 = .ok (.if_icmp .lt 9, 3) := by decide +kernel
theorem dX7_mayStand_39 : decode cX7_mayStand 39 = .ok (.iload_n 3, 1) := by decide +kernel
theorem dX7_mayStand_40 : decode cX7_mayStand 40 = .ok (.iload 6, 2) := by decide +kernel
theorem dX7_mayStand_42 : decode cX7_mayStand 42 = .ok (.if_icmp .le 15, 3) := by decide +kernel
theorem dX7_mayStand_45 : decode cX7_mayStand 45 = .ok (.iload 5, 2) := by decide +kernel
theorem dX7_mayStand_47 : decode cX7_mayStand 47 = .ok (.iload_n 2, 1) := by decide +kernel
theorem dX7_mayStand_48 : decode cX7_mayStand 48 = .ok (.if_icmp .lt 13, 3) := by decide +kernel
theorem dX7_mayStand_51 : decode cX7_mayStand 51 = .ok (.iload 6, 2) := by decide +kernel
theorem dX7_mayStand_53 : decode cX7_mayStand 53 = .ok (.iload_n 3, 1) := by decide +kernel
theorem dX7_mayStand_54 : decode cX7_mayStand 54 = .ok (.if_icmp .gt 7, 3) := by decide +kernel
theorem dX7_mayStand_57 : decode cX7_mayStand 57 = .ok (.iconst 1, 1) := by decide +kernel
theorem dX7_mayStand_58 : decode cX7_mayStand 58 = .ok (.goto 4, 3) := by decide +kernel
theorem dX7_mayStand_61 : decode cX7_mayStand 61 = .ok (.iconst 0, 1) := by decide +kernel
theorem dX7_mayStand_62 : decode cX7_mayStand 62 = .ok (.istore 7, 2) := by decide +kernel
theorem dX7_mayStand_64 : decode cX7_mayStand 64 = .ok (.iload 7, 2) := by decide +kernel
theorem dX7_mayStand_66 : decode cX7_mayStand 66 = .ok (.ifCond .eq 18, 3) := by decide +kernel
theorem dX7_mayStand_69 : decode cX7_mayStand 69 = .ok (.aload_n 0, 1) := by decide +kernel
theorem dX7_mayStand_70 : decode cX7_mayStand 70 = .ok (.getfield 68, 3) := by decide +kernel
theorem dX7_mayStand_73 : decode cX7_mayStand 73 = .ok (.iload_n 1, 1) := by decide +kernel
theorem dX7_mayStand_74 : decode cX7_mayStand 74 = .ok (.iaload, 1) := by decide +kernel
theorem dX7_mayStand_75 : decode cX7_mayStand 75 = .ok (.iload 4, 2) := by decide +kernel
theorem dX7_mayStand_77 : decode cX7_mayStand 77 = .ok (.if_icmp .eq 7, 3) := by decide +kernel
theorem dX7_mayStand_80 : decode cX7_mayStand 80 = .ok (.iconst 1, 1) := by decide +kernel
theorem dX7_mayStand_81 : decode cX7_mayStand 81 = .ok (.goto 4, 3) := by decide +kernel
theorem dX7_mayStand_84 : decode cX7_mayStand 84 = .ok (.iconst 0, 1) := by decide +kernel
theorem dX7_mayStand_85 : decode cX7_mayStand 85 = .ok (.ireturn, 1) := by decide +kernel
theorem dX7_addSection_0 : decode cX7_addSection 0 = .ok (.aload_n 0, 1) := by decide +kernel
theorem dX7_addSection_1 : decode cX7_addSection 1 = .ok (.iload_n 1, 1) := by decide +kernel
theorem dX7_addSection_2 : decode cX7_addSection 2 = .ok (.invokevirtual 109, 3) := by decide +kernel
theorem dX7_addSection_5 : decode cX7_addSection 5 = .ok (.ifCond .eq 21, 3) := by decide +kernel
theorem dX7_addSection_8 : decode cX7_addSection 8 = .ok (.aload_n 0, 1) := by decide +kernel
theorem dX7_addSection_9 : decode cX7_addSection 9 = .ok (.iload_n 3, 1) := by decide +kernel
theorem dX7_addSection_10 : decode cX7_addSection 10 = .ok (.invokevirtual 130, 3) := by decide +kernel
theorem dX7_addSection_13 : decode cX7_addSection 13 = .ok (.ifCond .eq 13, 3) := by decide +kernel
theorem dX7_addSection_16 : decode cX7_addSection 16 = .ok (.iload_n 2, 1) := by decide +kernel
theorem dX7_addSection_17 : decode cX7_addSection 17 = .ok (.ifCond .lt 9, 3) := by decide +kernel
theorem dX7_addSection_20 : decode cX7_addSection 20 = .ok (.iload 4, 2) := by decide +kernel
theorem dX7_addSection_22 : decode cX7_addSection 22 = .ok (.iconst 1, 1) := by decide +kernel
theorem dX7_addSection_23 : decode cX7_addSection 23 = .ok (.if_icmp .ge 5, 3) := by decide +kernel
theorem dX7_addSection_26 : decode cX7_addSection 26 = .ok (.iconst 0, 1) := by decide +kernel
theorem dX7_addSection_27 : decode cX7_addSection 27 = .ok (.ireturn, 1) := by decide +kernel
theorem dX7_addSection_28 : decode cX7_addSection 28 = .ok (.iload 4, 2) := by decide +kernel
theorem dX7_addSection_30 : decode cX7_addSection 30 = .ok (.aload_n 0, 1) := by decide +kernel
theorem dX7_addSection_31 : decode cX7_addSection 31 = .ok (.getfield 17, 3) := by decide +kernel
theorem dX7_addSection_34 : decode cX7_addSection 34 = .ok (.iload_n 1, 1) := by decide +kernel
theorem dX7_addSection_35 : decode cX7_addSection 35 = .ok (.iaload, 1) := by decide +kernel
theorem dX7_addSection_36 : decode cX7_addSection 36 = .ok (.if_icmp .gt 36, 3) := by decide +kernel
theorem dX7_addSection_39 : decode cX7_addSection 39 = .ok (.iload_n 2, 1) := by decide +kernel
theorem dX7_addSection_40 : decode cX7_addSection 40 = .ok (.aload_n 0, 1) := by decide +kernel
theorem dX7_addSection_41 : decode cX7_addSection 41 = .ok (.getfield 17, 3) := by decide +kernel
theorem dX7_addSection_44 : decode cX7_addSection 44 = .ok (.iload_n 1, 1) := by decide +kernel
theorem dX7_addSection_45 : decode cX7_addSection 45 = .ok (.iaload, 1) := by decide +kernel
theorem dX7_addSection_46 : decode cX7_addSection 46 = .ok (.iload 4, 2) := by decide +kernel
theorem dX7_addSection_48 : decode cX7_addSection 48 = .ok (.isub, 1) := by decide +kernel
theorem dX7_addSection_49 : decode cX7_addSection 49 = .ok (.if_icmp .gt 23, 3) := by decide +kernel
theorem dX7_addSection_52 : decode cX7_addSection 52 = .ok (.aload_n 0, 1) := by decide +kernel
theorem dX7_addSection_53 : decode cX7_addSection 53 = .ok (.getfield 133, 3) := by decide +kernel
theorem dX7_addSection_56 : decode cX7_addSection 56 = .ok (.aload_n 0, 1) := by decide +kernel
theorem dX7_addSection_57 : decode cX7_addSection 57 = .ok (.getfield 100, 3) := by decide +kernel
theorem dX7_addSection_60 : decode cX7_addSection 60 = .ok (.if_icmp .eq 12, 3) := by decide +kernel
theorem dX7_addSection_63 : decode cX7_addSection 63 = .ok (.aload_n 0, 1) := by decide +kernel
theorem dX7_addSection_64 : decode cX7_addSection 64 = .ok (.getfield 44, 3) := by decide +kernel
theorem dX7_addSection_67 : decode cX7_addSection 67 = .ok (.iload_n 1, 1) := by decide +kernel
theorem dX7_addSection_68 : decode cX7_addSection 68 = .ok (.baload, 1) := by decide +kernel
theorem dX7_addSection_69 : decode cX7_addSection 69 = .ok (.ifCond .eq 5, 3) := by decide +kernel
theorem dX7_addSection_72 : decode cX7_addSection 72 = .ok (.iconst 0, 1) := by decide +kernel
theorem dX7_addSection_73 : decode cX7_addSection 73 = .ok (.ireturn, 1) := by decide +kernel
theorem dX7_addSection_74 : decode cX7_addSection 74 = .ok (.iconst 0, 1) := by decide +kernel
theorem dX7_addSection_75 : decode cX7_addSection 75 = .ok (.istore 5, 2) := by decide +kernel
theorem dX7_addSection_77 : decode cX7_addSection 77 = .ok (.iload 5, 2) := by decide +kernel
theorem dX7_addSection_79 : decode cX7_addSection 79 = .ok (.aload_n 0, 1) := by decide +kernel
theorem dX7_addSection_80 : decode cX7_addSection 80 = .ok (.getfield 133, 3) := by decide +kernel
theorem dX7_addSection_83 : decode cX7_addSection 83 = .ok (.if_icmp .ge 37, 3) := by decide +kernel
theorem dX7_addSection_86 : decode cX7_addSection 86 = .ok (.aload_n 0, 1) := by decide +kernel
theorem dX7_addSection_87 : decode cX7_addSection 87 = .ok (.getfield 65, 3) := by decide +kernel
theorem dX7_addSection_90 : decode cX7_addSection 90 = .ok (.iload 5, 2) := by decide +kernel
theorem dX7_addSection_92 : decode cX7_addSection 92 = .ok (.iaload, 1) := by decide +kernel
theorem dX7_addSection_93 : decode cX7_addSection 93 = .ok (.iload_n 1, 1) := by decide +kernel
theorem dX7_addSection_94 : decode cX7_addSection 94 = .ok (.if_icmp .ne 20, 3) := by decide +kernel
theorem dX7_addSection_97 : decode cX7_addSection 97 = .ok (.aload_n 0, 1) := by decide +kernel
theorem dX7_addSection_98 : decode cX7_addSection 98 = .ok (.iload 5, 2) := by decide +kernel
theorem dX7_addSection_100 : decode cX7_addSection 100 = .ok (.iload_n 2, 1) := by decide +kernel
theorem dX7_addSection_101 : decode cX7_addSection 101 = .ok (.iload_n 2, 1) := by decide +kernel
theorem dX7_addSection_102 : decode cX7_addSection 102 = .ok (.iload 4, 2) := by decide +kernel
theorem dX7_addSection_104 : decode cX7_addSection 104 = .ok (.iadd, 1) := by decide +kernel
theorem dX7_addSection_105 : decode cX7_addSection 105 = .ok (.iload_n 3, 1) := by decide +kernel
theorem dX7_addSection_106 : decode cX7_addSection 106 = .ok (.invokevirtual 136, 3) := by decide +kernel
theorem dX7_addSection_109 : decode cX7_addSection 109 = .ok (.ifCond .ne 5, 3) := by decide +kernel
theorem dX7_addSection_112 : decode cX7_addSection 112 = .ok (.iconst 0, 1) := by decide +kernel
theorem dX7_addSection_113 : decode cX7_addSection 113 = .ok (.ireturn, 1) := by decide +kernel
theorem dX7_addSection_114 : decode cX7_addSection 114 = .ok (.iinc 5 1, 3) := by decide +kernel
theorem dX7_addSection_117 : decode cX7_addSection 117 = .ok (.goto (-40), 3) := by decide +kernel
theorem dX7_addSection_120 : decode cX7_addSection 120 = .ok (.aload_n 0, 1) := by decide +kernel
theorem dX7_addSection_121 : decode cX7_addSection 121 = .ok (.getfield 65, 3) := by decide +kernel
theorem dX7_addSection_124 : decode cX7_addSection 124 = .ok (.aload_n 0, 1) := by decide +kernel
theorem dX7_addSection_125 : decode cX7_addSection 125 = .ok (.getfield 133, 3) := by decide +kernel
theorem dX7_addSection_128 : decode cX7_addSection 128 = .ok (.iload_n 1, 1) := by decide +kernel
theorem dX7_addSection_129 : decode cX7_addSection 129 = .ok (.iastore, 1) := by decide +kernel
theorem dX7_addSection_130 : decode cX7_addSection 130 = .ok (.aload_n 0, 1) := by decide +kernel
theorem dX7_addSection_131 : decode cX7_addSection 131 = .ok (.getfield 68, 3) := by decide +kernel
theorem dX7_addSection_134 : decode cX7_addSection 134 = .ok (.aload_n 0, 1) := by decide +kernel
theorem dX7_addSection_135 : decode cX7_addSection 135 = .ok (.getfield 133, 3) := by decide +kernel
theorem dX7_addSection_138 : decode cX7_addSection 138 = .ok (.iload_n 3, 1) := by decide +kernel
theorem dX7_addSection_139 : decode cX7_addSection 139 = .ok (.iastore, 1) := by decide +kernel
theorem dX7_addSection_140 : decode cX7_addSection 140 = .ok (.aload_n 0, 1) := by decide +kernel
theorem dX7_addSection_141 : decode cX7_addSection 141 = .ok (.getfield 71, 3) := by decide +kernel
theorem dX7_addSection_144 : decode cX7_addSection 144 = .ok (.aload_n 0, 1) := by decide +kernel
theorem dX7_addSection_145 : decode cX7_addSection 145 = .ok (.getfield 133, 3) := by decide +kernel
theorem dX7_addSection_148 : decode cX7_addSection 148 = .ok (.iload_n 2, 1) := by decide +kernel
theorem dX7_addSection_149 : decode cX7_addSection 149 = .ok (.iastore, 1) := by decide +kernel
theorem dX7_addSection_150 : decode cX7_addSection 150 = .ok (.aload_n 0, 1) := by decide +kernel
theorem dX7_addSection_151 : decode cX7_addSection 151 = .ok (.getfield 74, 3) := by decide +kernel
theorem dX7_addSection_154 : decode cX7_addSection 154 = .ok (.aload_n 0, 1) := by decide +kernel
theorem dX7_addSection_155 : decode cX7_addSection 155 = .ok (.getfield 133, 3) := by decide +kernel
theorem dX7_addSection_158 : decode cX7_addSection 158 = .ok (.iload 4, 2) := by decide +kernel
theorem dX7_addSection_160 : decode cX7_addSection 160 = .ok (.iastore, 1) := by decide +kernel
theorem dX7_addSection_161 : decode cX7_addSection 161 = .ok (.aload_n 0, 1) := by decide +kernel
theorem dX7_addSection_162 : decode cX7_addSection 162 = .ok (.dup, 1) := by decide +kernel
theorem dX7_addSection_163 : decode cX7_addSection 163 = .ok (.getfield 133, 3) := by decide +kernel
theorem dX7_addSection_166 : decode cX7_addSection 166 = .ok (.iconst 1, 1) := by decide +kernel
theorem dX7_addSection_167 : decode cX7_addSection 167 = .ok (.iadd, 1) := by decide +kernel
theorem dX7_addSection_168 : decode cX7_addSection 168 = .ok (.putfield 133, 3) := by decide +kernel
theorem dX7_addSection_171 : decode cX7_addSection 171 = .ok (.iconst 1, 1) := by decide +kernel
theorem dX7_addSection_172 : decode cX7_addSection 172 = .ok (.ireturn, 1) := by decide +kernel
theorem dX7_removeTask_0 : decode cX7_removeTask 0 = .ok (.aload_n 0, 1) := by decide +kernel
theorem dX7_removeTask_1 : decode cX7_removeTask 1 = .ok (.iload_n 1, 1) := by decide +kernel
theorem dX7_removeTask_2 : decode cX7_removeTask 2 = .ok (.invokevirtual 109, 3) := by decide +kernel
theorem dX7_removeTask_5 : decode cX7_removeTask 5 = .ok (.ifCond .ne 5, 3) := by decide +kernel
theorem dX7_removeTask_8 : decode cX7_removeTask 8 = .ok (.iconst 0, 1) := by decide +kernel
theorem dX7_removeTask_9 : decode cX7_removeTask 9 = .ok (.ireturn, 1) := by decide +kernel
theorem dX7_removeTask_10 : decode cX7_removeTask 10 = .ok (.aload_n 0, 1) := by decide +kernel
theorem dX7_removeTask_11 : decode cX7_removeTask 11 = .ok (.getfield 44, 3) := by decide +kernel
theorem dX7_removeTask_14 : decode cX7_removeTask 14 = .ok (.iload_n 1, 1) := by decide +kernel
theorem dX7_removeTask_15 : decode cX7_removeTask 15 = .ok (.baload, 1) := by decide +kernel
theorem dX7_removeTask_16 : decode cX7_removeTask 16 = .ok (.ifCond .eq 8, 3) := by decide +kernel
theorem dX7_removeTask_19 : decode cX7_removeTask 19 = .ok (.aload_n 0, 1) := by decide +kernel
theorem dX7_removeTask_20 : decode cX7_removeTask 20 = .ok (.iload_n 1, 1) := by decide +kernel
theorem dX7_removeTask_21 : decode cX7_removeTask 21 = .ok (.invokevirtual 140, 3) := by decide +kernel
theorem dX7_removeTask_24 : decode cX7_removeTask 24 = .ok (.aload_n 0, 1) := by decide +kernel
theorem dX7_removeTask_25 : decode cX7_removeTask 25 = .ok (.getfield 9, 3) := by decide +kernel
theorem dX7_removeTask_28 : decode cX7_removeTask 28 = .ok (.iload_n 1, 1) := by decide +kernel
theorem dX7_removeTask_29 : decode cX7_removeTask 29 = .ok (.iconst 0, 1) := by decide +kernel
theorem dX7_removeTask_30 : decode cX7_removeTask 30 = .ok (.bastore, 1) := by decide +kernel
theorem dX7_removeTask_31 : decode cX7_removeTask 31 = .ok (.iconst 0, 1) := by decide +kernel
theorem dX7_removeTask_32 : decode cX7_removeTask 32 = .ok (.istore_n 2, 1) := by decide +kernel
theorem dX7_removeTask_33 : decode cX7_removeTask 33 = .ok (.iconst 0, 1) := by decide +kernel
theorem dX7_removeTask_34 : decode cX7_removeTask 34 = .ok (.istore_n 3, 1) := by decide +kernel
theorem dX7_removeTask_35 : decode cX7_removeTask 35 = .ok (.iload_n 3, 1) := by decide +kernel
theorem dX7_removeTask_36 : decode cX7_removeTask 36 = .ok (.aload_n 0, 1) := by decide +kernel
theorem dX7_removeTask_37 : decode cX7_removeTask 37 = .ok (.getfield 133, 3) := by decide +kernel
theorem dX7_removeTask_40 : decode cX7_removeTask 40 = .ok (.if_icmp .ge 73, 3) := by decide +kernel
theorem dX7_removeTask_43 : decode cX7_removeTask 43 = .ok (.aload_n 0, 1) := by decide +kernel
theorem dX7_removeTask_44 : decode cX7_removeTask 44 = .ok (.getfield 65, 3) := by decide +kernel
theorem dX7_removeTask_47 : decode cX7_removeTask 47 = .ok (.iload_n 3, 1) := by decide +kernel
theorem dX7_removeTask_48 : decode cX7_removeTask 48 = .ok (.iaload, 1) := by decide +kernel
theorem dX7_removeTask_49 : decode cX7_removeTask 49 = .ok (.iload_n 1, 1) := by decide +kernel
theorem dX7_removeTask_50 : decode cX7_removeTask 50 = .ok (.if_icmp .ne 6, 3) := by decide +kernel
theorem dX7_removeTask_53 : decode cX7_removeTask 53 = .ok (.goto 54, 3) := by decide +kernel
theorem dX7_removeTask_56 : decode cX7_removeTask 56 = .ok (.aload_n 0, 1) := by decide +kernel
theorem dX7_removeTask_57 : decode cX7_removeTask 57 = .ok (.getfield 65, 3) := by decide +kernel
theorem dX7_removeTask_60 : decode cX7_removeTask 60 = .ok (.iload_n 2, 1) := by decide +kernel
theorem dX7_removeTask_61 : decode cX7_removeTask 61 = .ok (.aload_n 0, 1) := by decide +kernel
theorem dX7_removeTask_62 : decode cX7_removeTask 62 = .ok (.getfield 65, 3) := by decide +kernel
theorem dX7_removeTask_65 : decode cX7_removeTask 65 = .ok (.iload_n 3, 1) := by decide +kernel
theorem dX7_removeTask_66 : decode cX7_removeTask 66 = .ok (.iaload, 1) := by decide +kernel
theorem dX7_removeTask_67 : decode cX7_removeTask 67 = .ok (.iastore, 1) := by decide +kernel
theorem dX7_removeTask_68 : decode cX7_removeTask 68 = .ok (.aload_n 0, 1) := by decide +kernel
theorem dX7_removeTask_69 : decode cX7_removeTask 69 = .ok (.getfield 68, 3) := by decide +kernel
theorem dX7_removeTask_72 : decode cX7_removeTask 72 = .ok (.iload_n 2, 1) := by decide +kernel
theorem dX7_removeTask_73 : decode cX7_removeTask 73 = .ok (.aload_n 0, 1) := by decide +kernel
theorem dX7_removeTask_74 : decode cX7_removeTask 74 = .ok (.getfield 68, 3) := by decide +kernel
theorem dX7_removeTask_77 : decode cX7_removeTask 77 = .ok (.iload_n 3, 1) := by decide +kernel
theorem dX7_removeTask_78 : decode cX7_removeTask 78 = .ok (.iaload, 1) := by decide +kernel
theorem dX7_removeTask_79 : decode cX7_removeTask 79 = .ok (.iastore, 1) := by decide +kernel
theorem dX7_removeTask_80 : decode cX7_removeTask 80 = .ok (.aload_n 0, 1) := by decide +kernel
theorem dX7_removeTask_81 : decode cX7_removeTask 81 = .ok (.getfield 71, 3) := by decide +kernel
theorem dX7_removeTask_84 : decode cX7_removeTask 84 = .ok (.iload_n 2, 1) := by decide +kernel
theorem dX7_removeTask_85 : decode cX7_removeTask 85 = .ok (.aload_n 0, 1) := by decide +kernel
theorem dX7_removeTask_86 : decode cX7_removeTask 86 = .ok (.getfield 71, 3) := by decide +kernel
theorem dX7_removeTask_89 : decode cX7_removeTask 89 = .ok (.iload_n 3, 1) := by decide +kernel
theorem dX7_removeTask_90 : decode cX7_removeTask 90 = .ok (.iaload, 1) := by decide +kernel
theorem dX7_removeTask_91 : decode cX7_removeTask 91 = .ok (.iastore, 1) := by decide +kernel
theorem dX7_removeTask_92 : decode cX7_removeTask 92 = .ok (.aload_n 0, 1) := by decide +kernel
theorem dX7_removeTask_93 : decode cX7_removeTask 93 = .ok (.getfield 74, 3) := by decide +kernel
theorem dX7_removeTask_96 : decode cX7_removeTask 96 = .ok (.iload_n 2, 1) := by decide +kernel
theorem dX7_removeTask_97 : decode cX7_removeTask 97 = .ok (.aload_n 0, 1) := by decide +kernel
theorem dX7_removeTask_98 : decode cX7_removeTask 98 = .ok (.getfield 74, 3) := by decide +kernel
theorem dX7_removeTask_101 : decode cX7_removeTask 101 = .ok (.iload_n 3, 1) := by decide +kernel
theorem dX7_removeTask_102 : decode cX7_removeTask 102 = .ok (.iaload, 1) := by decide +kernel
theorem dX7_removeTask_103 : decode cX7_removeTask 103 = .ok (.iastore, 1) := by decide +kernel
theorem dX7_removeTask_104 : decode cX7_removeTask 104 = .ok (.iinc 2 1, 3) := by decide +kernel
theorem dX7_removeTask_107 : decode cX7_removeTask 107 = .ok (.iinc 3 1, 3) := by decide +kernel
theorem dX7_removeTask_110 : decode cX7_removeTask 110 = .ok (.goto (-75), 3) := by decide +kernel
theorem dX7_removeTask_113 : decode cX7_removeTask 113 = .ok (.aload_n 0, 1) := by decide +kernel
theorem dX7_removeTask_114 : decode cX7_removeTask 114 = .ok (.iload_n 2, 1) := by decide +kernel
theorem dX7_removeTask_115 : decode cX7_removeTask 115 = .ok (.putfield 133, 3) := by decide +kernel
theorem dX7_removeTask_118 : decode cX7_removeTask 118 = .ok (.iconst 1, 1) := by decide +kernel
theorem dX7_removeTask_119 : decode cX7_removeTask 119 = .ok (.ireturn, 1) := by decide +kernel
theorem dX7_admissible_0 : decode cX7_admissible 0 = .ok (.iconst 1, 1) := by decide +kernel
theorem dX7_admissible_1 : decode cX7_admissible 1 = .ok (.istore_n 1, 1) := by decide +kernel
theorem dX7_admissible_2 : decode cX7_admissible 2 = .ok (.iconst 0, 1) := by decide +kernel
theorem dX7_admissible_3 : decode cX7_admissible 3 = .ok (.istore_n 2, 1) := by decide +kernel
theorem dX7_admissible_4 : decode cX7_admissible 4 = .ok (.iload_n 2, 1) := by decide +kernel
theorem dX7_admissible_5 : decode cX7_admissible 5 = .ok (.aload_n 0, 1) := by decide +kernel
theorem dX7_admissible_6 : decode cX7_admissible 6 = .ok (.getfield 106, 3) := by decide +kernel
theorem dX7_admissible_9 : decode cX7_admissible 9 = .ok (.if_icmp .ge 99, 3) := by decide +kernel
theorem dX7_admissible_12 : decode cX7_admissible 12 = .ok (.iload_n 1, 1) := by decide +kernel
theorem dX7_admissible_13 : decode cX7_admissible 13 = .ok (.ifCond .eq 95, 3) := by decide +kernel
theorem dX7_admissible_16 : decode cX7_admissible 16 = .ok (.lconst 0, 1) := by decide +kernel
theorem dX7_admissible_17 : decode cX7_admissible 17 = .ok (.lstore_n 3, 1) := by decide +kernel
theorem dX7_admissible_18 : decode cX7_admissible 18 = .ok (.iconst 0, 1) := by decide +kernel
theorem dX7_admissible_19 : decode cX7_admissible 19 = .ok (.istore 5, 2) := by decide +kernel
theorem dX7_admissible_21 : decode cX7_admissible 21 = .ok (.iload 5, 2) := by decide +kernel
theorem dX7_admissible_23 : decode cX7_admissible 23 = .ok (.aload_n 0, 1) := by decide +kernel
theorem dX7_admissible_24 : decode cX7_admissible 24 = .ok (.getfield 93, 3) := by decide +kernel
theorem dX7_admissible_27 : decode cX7_admissible 27 = .ok (.if_icmp .ge 62, 3) := by decide +kernel
theorem dX7_admissible_30 : decode cX7_admissible 30 = .ok (.aload_n 0, 1) := by decide +kernel
theorem dX7_admissible_31 : decode cX7_admissible 31 = .ok (.getfield 9, 3) := by decide +kernel
theorem dX7_admissible_34 : decode cX7_admissible 34 = .ok (.iload 5, 2) := by decide +kernel
theorem dX7_admissible_36 : decode cX7_admissible 36 = .ok (.baload, 1) := by decide +kernel
theorem dX7_admissible_37 : decode cX7_admissible 37 = .ok (.ifCond .eq 46, 3) := by decide +kernel
theorem dX7_admissible_40 : decode cX7_admissible 40 = .ok (.aload_n 0, 1) := by decide +kernel
theorem dX7_admissible_41 : decode cX7_admissible 41 = .ok (.getfield 20, 3) := by decide +kernel
theorem dX7_admissible_44 : decode cX7_admissible 44 = .ok (.iload 5, 2) := by decide +kernel
theorem dX7_admissible_46 : decode cX7_admissible 46 = .ok (.iaload, 1) := by decide +kernel
theorem dX7_admissible_47 : decode cX7_admissible 47 = .ok (.iload_n 2, 1) := by decide +kernel
theorem dX7_admissible_48 : decode cX7_admissible 48 = .ok (.if_icmp .gt 35, 3) := by decide +kernel
theorem dX7_admissible_51 : decode cX7_admissible 51 = .ok (.lload_n 3, 1) := by decide +kernel
theorem dX7_admissible_52 : decode cX7_admissible 52 = .ok (.aload_n 0, 1) := by decide +kernel
theorem dX7_admissible_53 : decode cX7_admissible 53 = .ok (.getfield 17, 3) := by decide +kernel
theorem dX7_admissible_56 : decode cX7_admissible 56 = .ok (.iload 5, 2) := by decide +kernel
theorem dX7_admissible_58 : decode cX7_admissible 58 = .ok (.iaload, 1) := by decide +kernel
theorem dX7_admissible_59 : decode cX7_admissible 59 = .ok (.i2l, 1) := by decide +kernel
theorem dX7_admissible_60 : decode cX7_admissible 60 = .ok (.iconst 1, 1) := by decide +kernel
theorem dX7_admissible_61 : decode cX7_admissible 61 = .ok (.iload_n 2, 1) := by decide +kernel
theorem dX7_admissible_62 : decode cX7_admissible 62 = .ok (.aload_n 0, 1) := by decide +kernel
theorem dX7_admissible_63 : decode cX7_admissible 63 = .ok (.getfield 20, 3) := by decide +kernel
theorem dX7_admissible_66 : decode cX7_admissible 66 = .ok (.iload 5, 2) := by decide +kernel
theorem dX7_admissible_68 : decode cX7_admissible 68 = .ok (.iaload, 1) := by decide +kernel
theorem dX7_admissible_69 : decode cX7_admissible 69 = .ok (.isub, 1) := by decide +kernel
theorem dX7_admissible_70 : decode cX7_admissible 70 = .ok (.aload_n 0, 1) := by decide +kernel
theorem dX7_admissible_71 : decode cX7_admissible 71 = .ok (.getfield 13, 3) := by decide +kernel
theorem dX7_admissible_74 : decode cX7_admissible 74 = .ok (.iload 5, 2) := by decide +kernel
theorem dX7_admissible_76 : decode cX7_admissible 76 = .ok (.iaload, 1) := by decide +kernel
theorem dX7_admissible_77 : decode cX7_admissible 77 = .ok (.idiv, 1) := by decide +kernel
theorem dX7_admissible_78 : decode cX7_admissible 78 = .ok (.iadd, 1) := by decide +kernel
theorem dX7_admissible_79 : decode cX7_admissible 79 = .ok (.i2l, 1) := by decide +kernel
theorem dX7_admissible_80 : decode cX7_admissible 80 = .ok (.lmul, 1) := by decide +kernel
theorem dX7_admissible_81 : decode cX7_admissible 81 = .ok (.ladd, 1) := by decide +kernel
theorem dX7_admissible_82 : decode cX7_admissible 82 = .ok (.lstore_n 3, 1) := by decide +kernel
theorem dX7_admissible_83 : decode cX7_admissible 83 = .ok (.iinc 5 1, 3) := by decide +kernel
theorem dX7_admissible_86 : decode cX7_admissible 86 = .ok (.goto (-65), 3) := by decide +kernel
theorem dX7_admissible_89 : decode cX7_admissible 89 = .ok (.lload_n 3, 1) := by decide +kernel
theorem dX7_admissible_90 : decode cX7_admissible 90 = .ok (.iload_n 2, 1) := by decide +kernel
theorem dX7_admissible_91 : decode cX7_admissible 91 = .ok (.i2l, 1) := by decide +kernel
theorem dX7_admissible_92 : decode cX7_admissible 92 = .ok (.lcmp, 1) := by decide +kernel
theorem dX7_admissible_93 : decode cX7_admissible 93 = .ok (.ifCond .gt 7, 3) := by decide +kernel
theorem dX7_admissible_96 : decode cX7_admissible 96 = .ok (.iconst 1, 1) := by decide +kernel
theorem dX7_admissible_97 : decode cX7_admissible 97 = .ok (.goto 4, 3) := by decide +kernel
theorem dX7_admissible_100 : decode cX7_admissible 100 = .ok (.iconst 0, 1) := by decide +kernel
theorem dX7_admissible_101 : decode cX7_admissible 101 = .ok (.istore_n 1, 1) := by decide +kernel
theorem dX7_admissible_102 : decode cX7_admissible 102 = .ok (.iinc 2 1, 3) := by decide +kernel
theorem dX7_admissible_105 : decode cX7_admissible 105 = .ok (.goto (-101), 3) := by decide +kernel
theorem dX7_admissible_108 : decode cX7_admissible 108 = .ok (.iload_n 1, 1) := by decide +kernel
theorem dX7_admissible_109 : decode cX7_admissible 109 = .ok (.ireturn, 1) := by decide +kernel
theorem dX7_misses_0 : decode cX7_misses 0 = .ok (.iconst 0, 1) := by decide +kernel
theorem dX7_misses_1 : decode cX7_misses 1 = .ok (.istore_n 1, 1) := by decide +kernel
theorem dX7_misses_2 : decode cX7_misses 2 = .ok (.iconst 0, 1) := by decide +kernel
theorem dX7_misses_3 : decode cX7_misses 3 = .ok (.istore_n 2, 1) := by decide +kernel
theorem dX7_misses_4 : decode cX7_misses 4 = .ok (.iload_n 2, 1) := by decide +kernel
theorem dX7_misses_5 : decode cX7_misses 5 = .ok (.aload_n 0, 1) := by decide +kernel
theorem dX7_misses_6 : decode cX7_misses 6 = .ok (.getfield 93, 3) := by decide +kernel
theorem dX7_misses_9 : decode cX7_misses 9 = .ok (.if_icmp .ge 94, 3) := by decide +kernel
theorem dX7_misses_12 : decode cX7_misses 12 = .ok (.aload_n 0, 1) := by decide +kernel
theorem dX7_misses_13 : decode cX7_misses 13 = .ok (.iload_n 2, 1) := by decide +kernel
theorem dX7_misses_14 : decode cX7_misses 14 = .ok (.invokevirtual 113, 3) := by decide +kernel
theorem dX7_misses_17 : decode cX7_misses 17 = .ok (.ifCond .eq 80, 3) := by decide +kernel
theorem dX7_misses_20 : decode cX7_misses 20 = .ok (.aload_n 0, 1) := by decide +kernel
theorem dX7_misses_21 : decode cX7_misses 21 = .ok (.getfield 50, 3) := by decide +kernel
theorem dX7_misses_24 : decode cX7_misses 24 = .ok (.iload_n 2, 1) := by decide +kernel
theorem dX7_misses_25 : decode cX7_misses 25 = .ok (.iaload, 1) := by decide +kernel
theorem dX7_misses_26 : decode cX7_misses 26 = .ok (.aload_n 0, 1) := by decide +kernel
theorem dX7_misses_27 : decode cX7_misses 27 = .ok (.getfield 127, 3) := by decide +kernel
theorem dX7_misses_30 : decode cX7_misses 30 = .ok (.if_icmp .eq 6, 3) := by decide +kernel
theorem dX7_misses_33 : decode cX7_misses 33 = .ok (.goto 64, 3) := by decide +kernel
theorem dX7_misses_36 : decode cX7_misses 36 = .ok (.iconst 1, 1) := by decide +kernel
theorem dX7_misses_37 : decode cX7_misses 37 = .ok (.istore_n 1, 1) := by decide +kernel
theorem dX7_misses_38 : decode cX7_misses 38 = .ok (.aload_n 0, 1) := by decide +kernel
theorem dX7_misses_39 : decode cX7_misses 39 = .ok (.getfield 32, 3) := by decide +kernel
theorem dX7_misses_42 : decode cX7_misses 42 = .ok (.iload_n 2, 1) := by decide +kernel
theorem dX7_misses_43 : decode cX7_misses 43 = .ok (.dup2, 1) := by decide +kernel
theorem dX7_misses_44 : decode cX7_misses 44 = .ok (.iaload, 1) := by decide +kernel
theorem dX7_misses_45 : decode cX7_misses 45 = .ok (.iconst 1, 1) := by decide +kernel
theorem dX7_misses_46 : decode cX7_misses 46 = .ok (.iadd, 1) := by decide +kernel
theorem dX7_misses_47 : decode cX7_misses 47 = .ok (.iastore, 1) := by decide +kernel
theorem dX7_misses_48 : decode cX7_misses 48 = .ok (.aload_n 0, 1) := by decide +kernel
theorem dX7_misses_49 : decode cX7_misses 49 = .ok (.getfield 143, 3) := by decide +kernel
theorem dX7_misses_52 : decode cX7_misses 52 = .ok (.aload_n 0, 1) := by decide +kernel
theorem dX7_misses_53 : decode cX7_misses 53 = .ok (.getfield 103, 3) := by decide +kernel
theorem dX7_misses_56 : decode cX7_misses 56 = .ok (.if_icmp .ge 26, 3) := by decide +kernel
theorem dX7_misses_59 : decode cX7_misses 59 = .ok (.aload_n 0, 1) := by decide +kernel
theorem dX7_misses_60 : decode cX7_misses 60 = .ok (.getfield 80, 3) := by decide +kernel
theorem dX7_misses_63 : decode cX7_misses 63 = .ok (.aload_n 0, 1) := by decide +kernel
theorem dX7_misses_64 : decode cX7_misses 64 = .ok (.getfield 143, 3) := by decide +kernel
theorem dX7_misses_67 : decode cX7_misses 67 = .ok (.iload_n 2, 1) := by decide +kernel
theorem dX7_misses_68 : decode cX7_misses 68 = .ok (.iastore, 1) := by decide +kernel
theorem dX7_misses_69 : decode cX7_misses 69 = .ok (.aload_n 0, 1) := by decide +kernel
end
section
theorem dX7_misses_70 : decode cX7_misses 70 = .ok (.getfield 83, 3) := by decide +kernel
theorem dX7_misses_73 : decode cX7_misses 73 = .ok (.aload_n 0, 1) := by decide +kernel
theorem dX7_misses_74 : decode cX7_misses 74 = .ok (.getfield 143, 3) := by decide +kernel
theorem dX7_misses_77 : decode cX7_misses 77 = .ok (.aload_n 0, 1) := by decide +kernel
theorem dX7_misses_78 : decode cX7_misses 78 = .ok (.getfield 127, 3) := by decide +kernel
theorem dX7_misses_81 : decode cX7_misses 81 = .ok (.iastore, 1) := by decide +kernel
theorem dX7_misses_82 : decode cX7_misses 82 = .ok (.aload_n 0, 1) := by decide +kernel
theorem dX7_misses_83 : decode cX7_misses 83 = .ok (.dup, 1) := by decide +kernel
theorem dX7_misses_84 : decode cX7_misses 84 = .ok (.getfield 143, 3) := by decide +kernel
theorem dX7_misses_87 : decode cX7_misses 87 = .ok (.iconst 1, 1) := by decide +kernel
theorem dX7_misses_88 : decode cX7_misses 88 = .ok (.iadd, 1) := by decide +kernel
theorem dX7_misses_89 : decode cX7_misses 89 = .ok (.putfield 143, 3) := by decide +kernel
theorem dX7_misses_92 : decode cX7_misses 92 = .ok (.aload_n 0, 1) := by decide +kernel
theorem dX7_misses_93 : decode cX7_misses 93 = .ok (.iload_n 2, 1) := by decide +kernel
theorem dX7_misses_94 : decode cX7_misses 94 = .ok (.invokevirtual 140, 3) := by decide +kernel
theorem dX7_misses_97 : decode cX7_misses 97 = .ok (.iinc 2 1, 3) := by decide +kernel
theorem dX7_misses_100 : decode cX7_misses 100 = .ok (.goto (-96), 3) := by decide +kernel
theorem dX7_misses_103 : decode cX7_misses 103 = .ok (.iload_n 1, 1) := by decide +kernel
theorem dX7_misses_104 : decode cX7_misses 104 = .ok (.ireturn, 1) := by decide +kernel
theorem dX7_releases_0 : decode cX7_releases 0 = .ok (.iconst 0, 1) := by decide +kernel
theorem dX7_releases_1 : decode cX7_releases 1 = .ok (.istore_n 1, 1) := by decide +kernel
theorem dX7_releases_2 : decode cX7_releases 2 = .ok (.iload_n 1, 1) := by decide +kernel
theorem dX7_releases_3 : decode cX7_releases 3 = .ok (.aload_n 0, 1) := by decide +kernel
theorem dX7_releases_4 : decode cX7_releases 4 = .ok (.getfield 93, 3) := by decide +kernel
theorem dX7_releases_7 : decode cX7_releases 7 = .ok (.if_icmp .ge 114, 3) := by decide +kernel
theorem dX7_releases_10 : decode cX7_releases 10 = .ok (.aload_n 0, 1) := by decide +kernel
theorem dX7_releases_11 : decode cX7_releases 11 = .ok (.getfield 9, 3) := by decide +kernel
theorem dX7_releases_14 : decode cX7_releases 14 = .ok (.iload_n 1, 1) := by decide +kernel
theorem dX7_releases_15 : decode cX7_releases 15 = .ok (.baload, 1) := by decide +kernel
theorem dX7_releases_16 : decode cX7_releases 16 = .ok (.ifCond .eq 99, 3) := by decide +kernel
theorem dX7_releases_19 : decode cX7_releases 19 = .ok (.aload_n 0, 1) := by decide +kernel
theorem dX7_releases_20 : decode cX7_releases 20 = .ok (.getfield 23, 3) := by decide +kernel
theorem dX7_releases_23 : decode cX7_releases 23 = .ok (.iload_n 1, 1) := by decide +kernel
theorem dX7_releases_24 : decode cX7_releases 24 = .ok (.iaload, 1) := by decide +kernel
theorem dX7_releases_25 : decode cX7_releases 25 = .ok (.aload_n 0, 1) := by decide +kernel
theorem dX7_releases_26 : decode cX7_releases 26 = .ok (.getfield 127, 3) := by decide +kernel
theorem dX7_releases_29 : decode cX7_releases 29 = .ok (.if_icmp .eq 6, 3) := by decide +kernel
theorem dX7_releases_32 : decode cX7_releases 32 = .ok (.goto 83, 3) := by decide +kernel
theorem dX7_releases_35 : decode cX7_releases 35 = .ok (.aload_n 0, 1) := by decide +kernel
theorem dX7_releases_36 : decode cX7_releases 36 = .ok (.getfield 44, 3) := by decide +kernel
theorem dX7_releases_39 : decode cX7_releases 39 = .ok (.iload_n 1, 1) := by decide +kernel
theorem dX7_releases_40 : decode cX7_releases 40 = .ok (.iconst 1, 1) := by decide +kernel
theorem dX7_releases_41 : decode cX7_releases 41 = .ok (.bastore, 1) := by decide +kernel
theorem dX7_releases_42 : decode cX7_releases 42 = .ok (.aload_n 0, 1) := by decide +kernel
theorem dX7_releases_43 : decode cX7_releases 43 = .ok (.getfield 47, 3) := by decide +kernel
theorem dX7_releases_46 : decode cX7_releases 46 = .ok (.iload_n 1, 1) := by decide +kernel
theorem dX7_releases_47 : decode cX7_releases 47 = .ok (.aload_n 0, 1) := by decide +kernel
theorem dX7_releases_48 : decode cX7_releases 48 = .ok (.getfield 127, 3) := by decide +kernel
theorem dX7_releases_51 : decode cX7_releases 51 = .ok (.iastore, 1) := by decide +kernel
theorem dX7_releases_52 : decode cX7_releases 52 = .ok (.aload_n 0, 1) := by decide +kernel
theorem dX7_releases_53 : decode cX7_releases 53 = .ok (.getfield 50, 3) := by decide +kernel
theorem dX7_releases_56 : decode cX7_releases 56 = .ok (.iload_n 1, 1) := by decide +kernel
theorem dX7_releases_57 : decode cX7_releases 57 = .ok (.aload_n 0, 1) := by decide +kernel
theorem dX7_releases_58 : decode cX7_releases 58 = .ok (.getfield 127, 3) := by decide +kernel
theorem dX7_releases_61 : decode cX7_releases 61 = .ok (.aload_n 0, 1) := by decide +kernel
theorem dX7_releases_62 : decode cX7_releases 62 = .ok (.getfield 20, 3) := by decide +kernel
theorem dX7_releases_65 : decode cX7_releases 65 = .ok (.iload_n 1, 1) := by decide +kernel
theorem dX7_releases_66 : decode cX7_releases 66 = .ok (.iaload, 1) := by decide +kernel
theorem dX7_releases_67 : decode cX7_releases 67 = .ok (.iadd, 1) := by decide +kernel
theorem dX7_releases_68 : decode cX7_releases 68 = .ok (.iastore, 1) := by decide +kernel
theorem dX7_releases_69 : decode cX7_releases 69 = .ok (.aload_n 0, 1) := by decide +kernel
theorem dX7_releases_70 : decode cX7_releases 70 = .ok (.getfield 53, 3) := by decide +kernel
theorem dX7_releases_73 : decode cX7_releases 73 = .ok (.iload_n 1, 1) := by decide +kernel
theorem dX7_releases_74 : decode cX7_releases 74 = .ok (.iconst 0, 1) := by decide +kernel
theorem dX7_releases_75 : decode cX7_releases 75 = .ok (.iastore, 1) := by decide +kernel
theorem dX7_releases_76 : decode cX7_releases 76 = .ok (.aload_n 0, 1) := by decide +kernel
theorem dX7_releases_77 : decode cX7_releases 77 = .ok (.getfield 56, 3) := by decide +kernel
theorem dX7_releases_80 : decode cX7_releases 80 = .ok (.iload_n 1, 1) := by decide +kernel
theorem dX7_releases_81 : decode cX7_releases 81 = .ok (.iconst (-1), 1) := by decide +kernel
theorem dX7_releases_82 : decode cX7_releases 82 = .ok (.iastore, 1) := by decide +kernel
theorem dX7_releases_83 : decode cX7_releases 83 = .ok (.aload_n 0, 1) := by decide +kernel
theorem dX7_releases_84 : decode cX7_releases 84 = .ok (.getfield 59, 3) := by decide +kernel
theorem dX7_releases_87 : decode cX7_releases 87 = .ok (.iload_n 1, 1) := by decide +kernel
theorem dX7_releases_88 : decode cX7_releases 88 = .ok (.iconst 0, 1) := by decide +kernel
theorem dX7_releases_89 : decode cX7_releases 89 = .ok (.bastore, 1) := by decide +kernel
theorem dX7_releases_90 : decode cX7_releases 90 = .ok (.aload_n 0, 1) := by decide +kernel
theorem dX7_releases_91 : decode cX7_releases 91 = .ok (.getfield 26, 3) := by decide +kernel
theorem dX7_releases_94 : decode cX7_releases 94 = .ok (.iload_n 1, 1) := by decide +kernel
theorem dX7_releases_95 : decode cX7_releases 95 = .ok (.dup2, 1) := by decide +kernel
theorem dX7_releases_96 : decode cX7_releases 96 = .ok (.iaload, 1) := by decide +kernel
theorem dX7_releases_97 : decode cX7_releases 97 = .ok (.iconst 1, 1) := by decide +kernel
theorem dX7_releases_98 : decode cX7_releases 98 = .ok (.iadd, 1) := by decide +kernel
theorem dX7_releases_99 : decode cX7_releases 99 = .ok (.iastore, 1) := by decide +kernel
theorem dX7_releases_100 : decode cX7_releases 100 = .ok (.aload_n 0, 1) := by decide +kernel
theorem dX7_releases_101 : decode cX7_releases 101 = .ok (.getfield 23, 3) := by decide +kernel
theorem dX7_releases_104 : decode cX7_releases 104 = .ok (.iload_n 1, 1) := by decide +kernel
theorem dX7_releases_105 : decode cX7_releases 105 = .ok (.dup2, 1) := by decide +kernel
theorem dX7_releases_106 : decode cX7_releases 106 = .ok (.iaload, 1) := by decide +kernel
theorem dX7_releases_107 : decode cX7_releases 107 = .ok (.aload_n 0, 1) := by decide +kernel
theorem dX7_releases_108 : decode cX7_releases 108 = .ok (.getfield 13, 3) := by decide +kernel
theorem dX7_releases_111 : decode cX7_releases 111 = .ok (.iload_n 1, 1) := by decide +kernel
theorem dX7_releases_112 : decode cX7_releases 112 = .ok (.iaload, 1) := by decide +kernel
theorem dX7_releases_113 : decode cX7_releases 113 = .ok (.iadd, 1) := by decide +kernel
theorem dX7_releases_114 : decode cX7_releases 114 = .ok (.iastore, 1) := by decide +kernel
theorem dX7_releases_115 : decode cX7_releases 115 = .ok (.iinc 1 1, 3) := by decide +kernel
theorem dX7_releases_118 : decode cX7_releases 118 = .ok (.goto (-116), 3) := by decide +kernel
theorem dX7_releases_121 : decode cX7_releases 121 = .ok (.return_, 1) := by decide +kernel
theorem dX7_wanted_0 : decode cX7_wanted 0 = .ok (.iconst (-1), 1) := by decide +kernel
theorem dX7_wanted_1 : decode cX7_wanted 1 = .ok (.istore_n 2, 1) := by decide +kernel
theorem dX7_wanted_2 : decode cX7_wanted 2 = .ok (.iconst 0, 1) := by decide +kernel
theorem dX7_wanted_3 : decode cX7_wanted 3 = .ok (.istore_n 3, 1) := by decide +kernel
theorem dX7_wanted_4 : decode cX7_wanted 4 = .ok (.iload_n 3, 1) := by decide +kernel
theorem dX7_wanted_5 : decode cX7_wanted 5 = .ok (.aload_n 0, 1) := by decide +kernel
theorem dX7_wanted_6 : decode cX7_wanted 6 = .ok (.getfield 133, 3) := by decide +kernel
theorem dX7_wanted_9 : decode cX7_wanted 9 = .ok (.if_icmp .ge 74, 3) := by decide +kernel
theorem dX7_wanted_12 : decode cX7_wanted 12 = .ok (.aload_n 0, 1) := by decide +kernel
theorem dX7_wanted_13 : decode cX7_wanted 13 = .ok (.getfield 65, 3) := by decide +kernel
theorem dX7_wanted_16 : decode cX7_wanted 16 = .ok (.iload_n 3, 1) := by decide +kernel
theorem dX7_wanted_17 : decode cX7_wanted 17 = .ok (.iaload, 1) := by decide +kernel
theorem dX7_wanted_18 : decode cX7_wanted 18 = .ok (.iload_n 1, 1) := by decide +kernel
theorem dX7_wanted_19 : decode cX7_wanted 19 = .ok (.if_icmp .ne 58, 3) := by decide +kernel
theorem dX7_wanted_22 : decode cX7_wanted 22 = .ok (.aload_n 0, 1) := by decide +kernel
theorem dX7_wanted_23 : decode cX7_wanted 23 = .ok (.getfield 71, 3) := by decide +kernel
theorem dX7_wanted_26 : decode cX7_wanted 26 = .ok (.iload_n 3, 1) := by decide +kernel
theorem dX7_wanted_27 : decode cX7_wanted 27 = .ok (.iaload, 1) := by decide +kernel
theorem dX7_wanted_28 : decode cX7_wanted 28 = .ok (.aload_n 0, 1) := by decide +kernel
theorem dX7_wanted_29 : decode cX7_wanted 29 = .ok (.getfield 53, 3) := by decide +kernel
theorem dX7_wanted_32 : decode cX7_wanted 32 = .ok (.iload_n 1, 1) := by decide +kernel
theorem dX7_wanted_33 : decode cX7_wanted 33 = .ok (.iaload, 1) := by decide +kernel
theorem dX7_wanted_34 : decode cX7_wanted 34 = .ok (.if_icmp .ne 43, 3) := by decide +kernel
theorem dX7_wanted_37 : decode cX7_wanted 37 = .ok (.aload_n 0, 1) := by decide +kernel
theorem dX7_wanted_38 : decode cX7_wanted 38 = .ok (.getfield 62, 3) := by decide +kernel
theorem dX7_wanted_41 : decode cX7_wanted 41 = .ok (.aload_n 0, 1) := by decide +kernel
theorem dX7_wanted_42 : decode cX7_wanted 42 = .ok (.getfield 68, 3) := by decide +kernel
theorem dX7_wanted_45 : decode cX7_wanted 45 = .ok (.iload_n 3, 1) := by decide +kernel
theorem dX7_wanted_46 : decode cX7_wanted 46 = .ok (.iaload, 1) := by decide +kernel
theorem dX7_wanted_47 : decode cX7_wanted 47 = .ok (.iaload, 1) := by decide +kernel
theorem dX7_wanted_48 : decode cX7_wanted 48 = .ok (.iload_n 1, 1) := by decide +kernel
theorem dX7_wanted_49 : decode cX7_wanted 49 = .ok (.if_icmp .ne 6, 3) := by decide +kernel
theorem dX7_wanted_52 : decode cX7_wanted 52 = .ok (.goto 25, 3) := by decide +kernel
theorem dX7_wanted_55 : decode cX7_wanted 55 = .ok (.iload_n 2, 1) := by decide +kernel
theorem dX7_wanted_56 : decode cX7_wanted 56 = .ok (.iconst (-1), 1) := by decide +kernel
theorem dX7_wanted_57 : decode cX7_wanted 57 = .ok (.if_icmp .eq 18, 3) := by decide +kernel
theorem dX7_wanted_60 : decode cX7_wanted 60 = .ok (.aload_n 0, 1) := by decide +kernel
theorem dX7_wanted_61 : decode cX7_wanted 61 = .ok (.getfield 74, 3) := by decide +kernel
theorem dX7_wanted_64 : decode cX7_wanted 64 = .ok (.iload_n 3, 1) := by decide +kernel
theorem dX7_wanted_65 : decode cX7_wanted 65 = .ok (.iaload, 1) := by decide +kernel
theorem dX7_wanted_66 : decode cX7_wanted 66 = .ok (.aload_n 0, 1) := by decide +kernel
theorem dX7_wanted_67 : decode cX7_wanted 67 = .ok (.getfield 74, 3) := by decide +kernel
theorem dX7_wanted_70 : decode cX7_wanted 70 = .ok (.iload_n 2, 1) := by decide +kernel
theorem dX7_wanted_71 : decode cX7_wanted 71 = .ok (.iaload, 1) := by decide +kernel
theorem dX7_wanted_72 : decode cX7_wanted 72 = .ok (.if_icmp .le 5, 3) := by decide +kernel
theorem dX7_wanted_75 : decode cX7_wanted 75 = .ok (.iload_n 3, 1) := by decide +kernel
theorem dX7_wanted_76 : decode cX7_wanted 76 = .ok (.istore_n 2, 1) := by decide +kernel
theorem dX7_wanted_77 : decode cX7_wanted 77 = .ok (.iinc 3 1, 3) := by decide +kernel
theorem dX7_wanted_80 : decode cX7_wanted 80 = .ok (.goto (-76), 3) := by decide +kernel
theorem dX7_wanted_83 : decode cX7_wanted 83 = .ok (.iload_n 2, 1) := by decide +kernel
theorem dX7_wanted_84 : decode cX7_wanted 84 = .ok (.ireturn, 1) := by decide +kernel
theorem dX7_taken_0 : decode cX7_taken 0 = .ok (.aload_n 0, 1) := by decide +kernel
theorem dX7_taken_1 : decode cX7_taken 1 = .ok (.iconst (-1), 1) := by decide +kernel
theorem dX7_taken_2 : decode cX7_taken 2 = .ok (.invokevirtual 119, 3) := by decide +kernel
theorem dX7_taken_5 : decode cX7_taken 5 = .ok (.istore_n 1, 1) := by decide +kernel
theorem dX7_taken_6 : decode cX7_taken 6 = .ok (.iload_n 1, 1) := by decide +kernel
theorem dX7_taken_7 : decode cX7_taken 7 = .ok (.iconst (-1), 1) := by decide +kernel
theorem dX7_taken_8 : decode cX7_taken 8 = .ok (.if_icmp .eq 67, 3) := by decide +kernel
theorem dX7_taken_11 : decode cX7_taken 11 = .ok (.aload_n 0, 1) := by decide +kernel
theorem dX7_taken_12 : decode cX7_taken 12 = .ok (.iload_n 1, 1) := by decide +kernel
theorem dX7_taken_13 : decode cX7_taken 13 = .ok (.invokevirtual 146, 3) := by decide +kernel
theorem dX7_taken_16 : decode cX7_taken 16 = .ok (.istore_n 2, 1) := by decide +kernel
theorem dX7_taken_17 : decode cX7_taken 17 = .ok (.iload_n 2, 1) := by decide +kernel
theorem dX7_taken_18 : decode cX7_taken 18 = .ok (.iconst (-1), 1) := by decide +kernel
theorem dX7_taken_19 : decode cX7_taken 19 = .ok (.if_icmp .ne 5, 3) := by decide +kernel
theorem dX7_taken_22 : decode cX7_taken 22 = .ok (.iload_n 1, 1) := by decide +kernel
theorem dX7_taken_23 : decode cX7_taken 23 = .ok (.ireturn, 1) := by decide +kernel
theorem dX7_taken_24 : decode cX7_taken 24 = .ok (.aload_n 0, 1) := by decide +kernel
theorem dX7_taken_25 : decode cX7_taken 25 = .ok (.getfield 62, 3) := by decide +kernel
theorem dX7_taken_28 : decode cX7_taken 28 = .ok (.aload_n 0, 1) := by decide +kernel
theorem dX7_taken_29 : decode cX7_taken 29 = .ok (.getfield 68, 3) := by decide +kernel
theorem dX7_taken_32 : decode cX7_taken 32 = .ok (.iload_n 2, 1) := by decide +kernel
theorem dX7_taken_33 : decode cX7_taken 33 = .ok (.iaload, 1) := by decide +kernel
theorem dX7_taken_34 : decode cX7_taken 34 = .ok (.iaload, 1) := by decide +kernel
theorem dX7_taken_35 : decode cX7_taken 35 = .ok (.iconst (-1), 1) := by decide +kernel
theorem dX7_taken_36 : decode cX7_taken 36 = .ok (.if_icmp .ne 18, 3) := by decide +kernel
theorem dX7_taken_39 : decode cX7_taken 39 = .ok (.aload_n 0, 1) := by decide +kernel
theorem dX7_taken_40 : decode cX7_taken 40 = .ok (.getfield 62, 3) := by decide +kernel
theorem dX7_taken_43 : decode cX7_taken 43 = .ok (.aload_n 0, 1) := by decide +kernel
theorem dX7_taken_44 : decode cX7_taken 44 = .ok (.getfield 68, 3) := by decide +kernel
theorem dX7_taken_47 : decode cX7_taken 47 = .ok (.iload_n 2, 1) := by decide +kernel
theorem dX7_taken_48 : decode cX7_taken 48 = .ok (.iaload, 1) := by decide +kernel
theorem dX7_taken_49 : decode cX7_taken 49 = .ok (.iload_n 1, 1) := by decide +kernel
theorem dX7_taken_50 : decode cX7_taken 50 = .ok (.iastore, 1) := by decide +kernel
theorem dX7_taken_51 : decode cX7_taken 51 = .ok (.goto 21, 3) := by decide +kernel
theorem dX7_taken_54 : decode cX7_taken 54 = .ok (.aload_n 0, 1) := by decide +kernel
theorem dX7_taken_55 : decode cX7_taken 55 = .ok (.getfield 56, 3) := by decide +kernel
theorem dX7_taken_58 : decode cX7_taken 58 = .ok (.iload_n 1, 1) := by decide +kernel
theorem dX7_taken_59 : decode cX7_taken 59 = .ok (.aload_n 0, 1) := by decide +kernel
theorem dX7_taken_60 : decode cX7_taken 60 = .ok (.getfield 68, 3) := by decide +kernel
theorem dX7_taken_63 : decode cX7_taken 63 = .ok (.iload_n 2, 1) := by decide +kernel
theorem dX7_taken_64 : decode cX7_taken 64 = .ok (.iaload, 1) := by decide +kernel
theorem dX7_taken_65 : decode cX7_taken 65 = .ok (.iastore, 1) := by decide +kernel
theorem dX7_taken_66 : decode cX7_taken 66 = .ok (.aload_n 0, 1) := by decide +kernel
theorem dX7_taken_67 : decode cX7_taken 67 = .ok (.iconst (-1), 1) := by decide +kernel
theorem dX7_taken_68 : decode cX7_taken 68 = .ok (.invokevirtual 119, 3) := by decide +kernel
theorem dX7_taken_71 : decode cX7_taken 71 = .ok (.istore_n 1, 1) := by decide +kernel
theorem dX7_taken_72 : decode cX7_taken 72 = .ok (.goto (-66), 3) := by decide +kernel
theorem dX7_taken_75 : decode cX7_taken 75 = .ok (.iconst (-1), 1) := by decide +kernel
theorem dX7_taken_76 : decode cX7_taken 76 = .ok (.ireturn, 1) := by decide +kernel
theorem dX7_ending_0 : decode cX7_ending 0 = .ok (.iconst (-1), 1) := by decide +kernel
theorem dX7_ending_1 : decode cX7_ending 1 = .ok (.istore_n 2, 1) := by decide +kernel
theorem dX7_ending_2 : decode cX7_ending 2 = .ok (.iconst 0, 1) := by decide +kernel
theorem dX7_ending_3 : decode cX7_ending 3 = .ok (.istore_n 3, 1) := by decide +kernel
theorem dX7_ending_4 : decode cX7_ending 4 = .ok (.iload_n 3, 1) := by decide +kernel
theorem dX7_ending_5 : decode cX7_ending 5 = .ok (.aload_n 0, 1) := by decide +kernel
theorem dX7_ending_6 : decode cX7_ending 6 = .ok (.getfield 133, 3) := by decide +kernel
theorem dX7_ending_9 : decode cX7_ending 9 = .ok (.if_icmp .ge 81, 3) := by decide +kernel
theorem dX7_ending_12 : decode cX7_ending 12 = .ok (.aload_n 0, 1) := by decide +kernel
theorem dX7_ending_13 : decode cX7_ending 13 = .ok (.getfield 65, 3) := by decide +kernel
theorem dX7_ending_16 : decode cX7_ending 16 = .ok (.iload_n 3, 1) := by decide +kernel
theorem dX7_ending_17 : decode cX7_ending 17 = .ok (.iaload, 1) := by decide +kernel
theorem dX7_ending_18 : decode cX7_ending 18 = .ok (.iload_n 1, 1) := by decide +kernel
theorem dX7_ending_19 : decode cX7_ending 19 = .ok (.if_icmp .ne 65, 3) := by decide +kernel
theorem dX7_ending_22 : decode cX7_ending 22 = .ok (.aload_n 0, 1) := by decide +kernel
theorem dX7_ending_23 : decode cX7_ending 23 = .ok (.getfield 71, 3) := by decide +kernel
theorem dX7_ending_26 : decode cX7_ending 26 = .ok (.iload_n 3, 1) := by decide +kernel
theorem dX7_ending_27 : decode cX7_ending 27 = .ok (.iaload, 1) := by decide +kernel
theorem dX7_ending_28 : decode cX7_ending 28 = .ok (.aload_n 0, 1) := by decide +kernel
theorem dX7_ending_29 : decode cX7_ending 29 = .ok (.getfield 74, 3) := by decide +kernel
theorem dX7_ending_32 : decode cX7_ending 32 = .ok (.iload_n 3, 1) := by decide +kernel
theorem dX7_ending_33 : decode cX7_ending 33 = .ok (.iaload, 1) := by decide +kernel
theorem dX7_ending_34 : decode cX7_ending 34 = .ok (.iadd, 1) := by decide +kernel
theorem dX7_ending_35 : decode cX7_ending 35 = .ok (.aload_n 0, 1) := by decide +kernel
theorem dX7_ending_36 : decode cX7_ending 36 = .ok (.getfield 53, 3) := by decide +kernel
theorem dX7_ending_39 : decode cX7_ending 39 = .ok (.iload_n 1, 1) := by decide +kernel
theorem dX7_ending_40 : decode cX7_ending 40 = .ok (.iaload, 1) := by decide +kernel
theorem dX7_ending_41 : decode cX7_ending 41 = .ok (.if_icmp .ne 43, 3) := by decide +kernel
theorem dX7_ending_44 : decode cX7_ending 44 = .ok (.aload_n 0, 1) := by decide +kernel
theorem dX7_ending_45 : decode cX7_ending 45 = .ok (.getfield 62, 3) := by decide +kernel
theorem dX7_ending_48 : decode cX7_ending 48 = .ok (.aload_n 0, 1) := by decide +kernel
theorem dX7_ending_49 : decode cX7_ending 49 = .ok (.getfield 68, 3) := by decide +kernel
theorem dX7_ending_52 : decode cX7_ending 52 = .ok (.iload_n 3, 1) := by decide +kernel
theorem dX7_ending_53 : decode cX7_ending 53 = .ok (.iaload, 1) := by decide +kernel
theorem dX7_ending_54 : decode cX7_ending 54 = .ok (.iaload, 1) := by decide +kernel
theorem dX7_ending_55 : decode cX7_ending 55 = .ok (.iload_n 1, 1) := by decide +kernel
theorem dX7_ending_56 : decode cX7_ending 56 = .ok (.if_icmp .eq 6, 3) := by decide +kernel
theorem dX7_ending_59 : decode cX7_ending 59 = .ok (.goto 25, 3) := by decide +kernel
theorem dX7_ending_62 : decode cX7_ending 62 = .ok (.iload_n 2, 1) := by decide +kernel
theorem dX7_ending_63 : decode cX7_ending 63 = .ok (.iconst (-1), 1) := by decide +kernel
theorem dX7_ending_64 : decode cX7_ending 64 = .ok (.if_icmp .eq 18, 3) := by decide +kernel
theorem dX7_ending_67 : decode cX7_ending 67 = .ok (.aload_n 0, 1) := by decide +kernel
theorem dX7_ending_68 : decode cX7_ending 68 = .ok (.getfield 71, 3) := by decide +kernel
theorem dX7_ending_71 : decode cX7_ending 71 = .ok (.iload_n 3, 1) := by decide +kernel
theorem dX7_ending_72 : decode cX7_ending 72 = .ok (.iaload, 1) := by decide +kernel
theorem dX7_ending_73 : decode cX7_ending 73 = .ok (.aload_n 0, 1) := by decide +kernel
theorem dX7_ending_74 : decode cX7_ending 74 = .ok (.getfield 71, 3) := by decide +kernel
theorem dX7_ending_77 : decode cX7_ending 77 = .ok (.iload_n 2, 1) := by decide +kernel
theorem dX7_ending_78 : decode cX7_ending 78 = .ok (.iaload, 1) := by decide +kernel
theorem dX7_ending_79 : decode cX7_ending 79 = .ok (.if_icmp .lt 5, 3) := by decide +kernel
theorem dX7_ending_82 : decode cX7_ending 82 = .ok (.iload_n 3, 1) := by decide +kernel
theorem dX7_ending_83 : decode cX7_ending 83 = .ok (.istore_n 2, 1) := by decide +kernel
theorem dX7_ending_84 : decode cX7_ending 84 = .ok (.iinc 3 1, 3) := by decide +kernel
theorem dX7_ending_87 : decode cX7_ending 87 = .ok (.goto (-83), 3) := by decide +kernel
theorem dX7_ending_90 : decode cX7_ending 90 = .ok (.iload_n 2, 1) := by decide +kernel
theorem dX7_ending_91 : decode cX7_ending 91 = .ok (.ireturn, 1) := by decide +kernel
theorem dX7_works_0 : decode cX7_works 0 = .ok (.aload_n 0, 1) := by decide +kernel
theorem dX7_works_1 : decode cX7_works 1 = .ok (.getfield 53, 3) := by decide +kernel
theorem dX7_works_4 : decode cX7_works 4 = .ok (.iload_n 1, 1) := by decide +kernel
theorem dX7_works_5 : decode cX7_works 5 = .ok (.dup2, 1) := by decide +kernel
theorem dX7_works_6 : decode cX7_works 6 = .ok (.iaload, 1) := by decide +kernel
theorem dX7_works_7 : decode cX7_works 7 = .ok (.iconst 1, 1) := by decide +kernel
theorem dX7_works_8 : decode cX7_works 8 = .ok (.iadd, 1) := by decide +kernel
theorem dX7_works_9 : decode cX7_works 9 = .ok (.iastore, 1) := by decide +kernel
theorem dX7_works_10 : decode cX7_works 10 = .ok (.aload_n 0, 1) := by decide +kernel
theorem dX7_works_11 : decode cX7_works 11 = .ok (.iload_n 1, 1) := by decide +kernel
theorem dX7_works_12 : decode cX7_works 12 = .ok (.invokevirtual 149, 3) := by decide +kernel
theorem dX7_works_15 : decode cX7_works 15 = .ok (.istore_n 2, 1) := by decide +kernel
theorem dX7_works_16 : decode cX7_works 16 = .ok (.iload_n 2, 1) := by decide +kernel
theorem dX7_works_17 : decode cX7_works 17 = .ok (.iconst (-1), 1) := by decide +kernel
theorem dX7_works_18 : decode cX7_works 18 = .ok (.if_icmp .eq 22, 3) := by decide +kernel
theorem dX7_works_21 : decode cX7_works 21 = .ok (.aload_n 0, 1) := by decide +kernel
theorem dX7_works_22 : decode cX7_works 22 = .ok (.aload_n 0, 1) := by decide +kernel
theorem dX7_works_23 : decode cX7_works 23 = .ok (.getfield 68, 3) := by decide +kernel
theorem dX7_works_26 : decode cX7_works 26 = .ok (.iload_n 2, 1) := by decide +kernel
theorem dX7_works_27 : decode cX7_works 27 = .ok (.iaload, 1) := by decide +kernel
theorem dX7_works_28 : decode cX7_works 28 = .ok (.invokevirtual 123, 3) := by decide +kernel
theorem dX7_works_31 : decode cX7_works 31 = .ok (.aload_n 0, 1) := by decide +kernel
theorem dX7_works_32 : decode cX7_works 32 = .ok (.iload_n 1, 1) := by decide +kernel
theorem dX7_works_33 : decode cX7_works 33 = .ok (.invokevirtual 149, 3) := by decide +kernel
theorem dX7_works_36 : decode cX7_works 36 = .ok (.istore_n 2, 1) := by decide +kernel
theorem dX7_works_37 : decode cX7_works 37 = .ok (.goto (-21), 3) := by decide +kernel
theorem dX7_works_40 : decode cX7_works 40 = .ok (.aload_n 0, 1) := by decide +kernel
theorem dX7_works_41 : decode cX7_works 41 = .ok (.getfield 53, 3) := by decide +kernel
theorem dX7_works_44 : decode cX7_works 44 = .ok (.iload_n 1, 1) := by decide +kernel
theorem dX7_works_45 : decode cX7_works 45 = .ok (.iaload, 1) := by decide +kernel
theorem dX7_works_46 : decode cX7_works 46 = .ok (.aload_n 0, 1) := by decide +kernel
theorem dX7_works_47 : decode cX7_works 47 = .ok (.getfield 17, 3) := by decide +kernel
theorem dX7_works_50 : decode cX7_works 50 = .ok (.iload_n 1, 1) := by decide +kernel
theorem dX7_works_51 : decode cX7_works 51 = .ok (.iaload, 1) := by decide +kernel
theorem dX7_works_52 : decode cX7_works 52 = .ok (.if_icmp .ge 4, 3) := by decide +kernel
theorem dX7_works_55 : decode cX7_works 55 = .ok (.return_, 1) := by decide +kernel
theorem dX7_works_56 : decode cX7_works 56 = .ok (.aload_n 0, 1) := by decide +kernel
theorem dX7_works_57 : decode cX7_works 57 = .ok (.getfield 44, 3) := by decide +kernel
theorem dX7_works_60 : decode cX7_works 60 = .ok (.iload_n 1, 1) := by decide +kernel
theorem dX7_works_61 : decode cX7_works 61 = .ok (.iconst 0, 1) := by decide +kernel
theorem dX7_works_62 : decode cX7_works 62 = .ok (.bastore, 1) := by decide +kernel
theorem dX7_works_63 : decode cX7_works 63 = .ok (.aload_n 0, 1) := by decide +kernel
theorem dX7_works_64 : decode cX7_works 64 = .ok (.getfield 29, 3) := by decide +kernel
theorem dX7_works_67 : decode cX7_works 67 = .ok (.iload_n 1, 1) := by decide +kernel
theorem dX7_works_68 : decode cX7_works 68 = .ok (.dup2, 1) := by decide +kernel
theorem dX7_works_69 : decode cX7_works 69 = .ok (.iaload, 1) := by decide +kernel
theorem dX7_works_70 : decode cX7_works 70 = .ok (.iconst 1, 1) := by decide +kernel
theorem dX7_works_71 : decode cX7_works 71 = .ok (.iadd, 1) := by decide +kernel
theorem dX7_works_72 : decode cX7_works 72 = .ok (.iastore, 1) := by decide +kernel
theorem dX7_works_73 : decode cX7_works 73 = .ok (.aload_n 0, 1) := by decide +kernel
theorem dX7_works_74 : decode cX7_works 74 = .ok (.getfield 127, 3) := by decide +kernel
theorem dX7_works_77 : decode cX7_works 77 = .ok (.iconst 1, 1) := by decide +kernel
theorem dX7_works_78 : decode cX7_works 78 = .ok (.iadd, 1) := by decide +kernel
theorem dX7_works_79 : decode cX7_works 79 = .ok (.aload_n 0, 1) := by decide +kernel
theorem dX7_works_80 : decode cX7_works 80 = .ok (.getfield 47, 3) := by decide +kernel
theorem dX7_works_83 : decode cX7_works 83 = .ok (.iload_n 1, 1) := by decide +kernel
theorem dX7_works_84 : decode cX7_works 84 = .ok (.iaload, 1) := by decide +kernel
theorem dX7_works_85 : decode cX7_works 85 = .ok (.isub, 1) := by decide +kernel
theorem dX7_works_86 : decode cX7_works 86 = .ok (.istore_n 3, 1) := by decide +kernel
theorem dX7_works_87 : decode cX7_works 87 = .ok (.iload_n 3, 1) := by decide +kernel
theorem dX7_works_88 : decode cX7_works 88 = .ok (.aload_n 0, 1) := by decide +kernel
theorem dX7_works_89 : decode cX7_works 89 = .ok (.getfield 41, 3) := by decide +kernel
theorem dX7_works_92 : decode cX7_works 92 = .ok (.iload_n 1, 1) := by decide +kernel
theorem dX7_works_93 : decode cX7_works 93 = .ok (.iaload, 1) := by decide +kernel
theorem dX7_works_94 : decode cX7_works 94 = .ok (.if_icmp .le 10, 3) := by decide +kernel
theorem dX7_works_97 : decode cX7_works 97 = .ok (.aload_n 0, 1) := by decide +kernel
theorem dX7_works_98 : decode cX7_works 98 = .ok (.getfield 41, 3) := by decide +kernel
theorem dX7_works_101 : decode cX7_works 101 = .ok (.iload_n 1, 1) := by decide +kernel
theorem dX7_works_102 : decode cX7_works 102 = .ok (.iload_n 3, 1) := by decide +kernel
theorem dX7_works_103 : decode cX7_works 103 = .ok (.iastore, 1) := by decide +kernel
theorem dX7_works_104 : decode cX7_works 104 = .ok (.return_, 1) := by decide +kernel
theorem dX7_counts_0 : decode cX7_counts 0 = .ok (.iconst 0, 1) := by decide +kernel
theorem dX7_counts_1 : decode cX7_counts 1 = .ok (.istore_n 2, 1) := by decide +kernel
theorem dX7_counts_2 : decode cX7_counts 2 = .ok (.iload_n 2, 1) := by decide +kernel
theorem dX7_counts_3 : decode cX7_counts 3 = .ok (.aload_n 0, 1) := by decide +kernel
theorem dX7_counts_4 : decode cX7_counts 4 = .ok (.getfield 93, 3) := by decide +kernel
theorem dX7_counts_7 : decode cX7_counts 7 = .ok (.if_icmp .ge 102, 3) := by decide +kernel
theorem dX7_counts_10 : decode cX7_counts 10 = .ok (.aload_n 0, 1) := by decide +kernel
theorem dX7_counts_11 : decode cX7_counts 11 = .ok (.iload_n 2, 1) := by decide +kernel
theorem dX7_counts_12 : decode cX7_counts 12 = .ok (.invokevirtual 113, 3) := by decide +kernel
theorem dX7_counts_15 : decode cX7_counts 15 = .ok (.istore_n 3, 1) := by decide +kernel
theorem dX7_counts_16 : decode cX7_counts 16 = .ok (.iload_n 3, 1) := by decide +kernel
theorem dX7_counts_17 : decode cX7_counts 17 = .ok (.ifCond .eq 23, 3) := by decide +kernel
theorem dX7_counts_20 : decode cX7_counts 20 = .ok (.aload_n 0, 1) := by decide +kernel
theorem dX7_counts_21 : decode cX7_counts 21 = .ok (.getfield 56, 3) := by decide +kernel
theorem dX7_counts_24 : decode cX7_counts 24 = .ok (.iload_n 2, 1) := by decide +kernel
theorem dX7_counts_25 : decode cX7_counts 25 = .ok (.iaload, 1) := by decide +kernel
theorem dX7_counts_26 : decode cX7_counts 26 = .ok (.iconst (-1), 1) := by decide +kernel
theorem dX7_counts_27 : decode cX7_counts 27 = .ok (.if_icmp .eq 13, 3) := by decide +kernel
theorem dX7_counts_30 : decode cX7_counts 30 = .ok (.aload_n 0, 1) := by decide +kernel
theorem dX7_counts_31 : decode cX7_counts 31 = .ok (.getfield 35, 3) := by decide +kernel
theorem dX7_counts_34 : decode cX7_counts 34 = .ok (.iload_n 2, 1) := by decide +kernel
theorem dX7_counts_35 : decode cX7_counts 35 = .ok (.dup2, 1) := by decide +kernel
theorem dX7_counts_36 : decode cX7_counts 36 = .ok (.iaload, 1) := by decide +kernel
theorem dX7_counts_37 : decode cX7_counts 37 = .ok (.iconst 1, 1) := by decide +kernel
theorem dX7_counts_38 : decode cX7_counts 38 = .ok (.iadd, 1) := by decide +kernel
theorem dX7_counts_39 : decode cX7_counts 39 = .ok (.iastore, 1) := by decide +kernel
theorem dX7_counts_40 : decode cX7_counts 40 = .ok (.iload_n 3, 1) := by decide +kernel
theorem dX7_counts_41 : decode cX7_counts 41 = .ok (.ifCond .eq 42, 3) := by decide +kernel
theorem dX7_counts_44 : decode cX7_counts 44 = .ok (.aload_n 0, 1) := by decide +kernel
theorem dX7_counts_45 : decode cX7_counts 45 = .ok (.getfield 59, 3) := by decide +kernel
theorem dX7_counts_48 : decode cX7_counts 48 = .ok (.iload_n 2, 1) := by decide +kernel
theorem dX7_counts_49 : decode cX7_counts 49 = .ok (.baload, 1) := by decide +kernel
theorem dX7_counts_50 : decode cX7_counts 50 = .ok (.ifCond .eq 33, 3) := by decide +kernel
theorem dX7_counts_53 : decode cX7_counts 53 = .ok (.aload_n 0, 1) := by decide +kernel
theorem dX7_counts_54 : decode cX7_counts 54 = .ok (.getfield 56, 3) := by decide +kernel
theorem dX7_counts_57 : decode cX7_counts 57 = .ok (.iload_n 2, 1) := by decide +kernel
theorem dX7_counts_58 : decode cX7_counts 58 = .ok (.iaload, 1) := by decide +kernel
theorem dX7_counts_59 : decode cX7_counts 59 = .ok (.iconst (-1), 1) := by decide +kernel
theorem dX7_counts_60 : decode cX7_counts 60 = .ok (.if_icmp .ne 23, 3) := by decide +kernel
theorem dX7_counts_63 : decode cX7_counts 63 = .ok (.iload_n 1, 1) := by decide +kernel
theorem dX7_counts_64 : decode cX7_counts 64 = .ok (.iconst (-1), 1) := by decide +kernel
theorem dX7_counts_65 : decode cX7_counts 65 = .ok (.if_icmp .eq 18, 3) := by decide +kernel
theorem dX7_counts_68 : decode cX7_counts 68 = .ok (.iload_n 1, 1) := by decide +kernel
theorem dX7_counts_69 : decode cX7_counts 69 = .ok (.iload_n 2, 1) := by decide +kernel
theorem dX7_counts_70 : decode cX7_counts 70 = .ok (.if_icmp .eq 13, 3) := by decide +kernel
theorem dX7_counts_73 : decode cX7_counts 73 = .ok (.aload_n 0, 1) := by decide +kernel
theorem dX7_counts_74 : decode cX7_counts 74 = .ok (.getfield 38, 3) := by decide +kernel
theorem dX7_counts_77 : decode cX7_counts 77 = .ok (.iload_n 2, 1) := by decide +kernel
theorem dX7_counts_78 : decode cX7_counts 78 = .ok (.dup2, 1) := by decide +kernel
theorem dX7_counts_79 : decode cX7_counts 79 = .ok (.iaload, 1) := by decide +kernel
theorem dX7_counts_80 : decode cX7_counts 80 = .ok (.iconst 1, 1) := by decide +kernel
theorem dX7_counts_81 : decode cX7_counts 81 = .ok (.iadd, 1) := by decide +kernel
theorem dX7_counts_82 : decode cX7_counts 82 = .ok (.iastore, 1) := by decide +kernel
theorem dX7_counts_83 : decode cX7_counts 83 = .ok (.aload_n 0, 1) := by decide +kernel
theorem dX7_counts_84 : decode cX7_counts 84 = .ok (.getfield 59, 3) := by decide +kernel
theorem dX7_counts_87 : decode cX7_counts 87 = .ok (.iload_n 2, 1) := by decide +kernel
theorem dX7_counts_88 : decode cX7_counts 88 = .ok (.iload_n 3, 1) := by decide +kernel
theorem dX7_counts_89 : decode cX7_counts 89 = .ok (.ifCond .eq 12, 3) := by decide +kernel
theorem dX7_counts_92 : decode cX7_counts 92 = .ok (.iload_n 1, 1) := by decide +kernel
theorem dX7_counts_93 : decode cX7_counts 93 = .ok (.iload_n 2, 1) := by decide +kernel
theorem dX7_counts_94 : decode cX7_counts 94 = .ok (.if_icmp .ne 7, 3) := by decide +kernel
theorem dX7_counts_97 : decode cX7_counts 97 = .ok (.iconst 1, 1) := by decide +kernel
theorem dX7_counts_98 : decode cX7_counts 98 = .ok (.goto 4, 3) := by decide +kernel
theorem dX7_counts_101 : decode cX7_counts 101 = .ok (.iconst 0, 1) := by decide +kernel
theorem dX7_counts_102 : decode cX7_counts 102 = .ok (.bastore, 1) := by decide +kernel
theorem dX7_counts_103 : decode cX7_counts 103 = .ok (.iinc 2 1, 3) := by decide +kernel
theorem dX7_counts_106 : decode cX7_counts 106 = .ok (.goto (-104), 3) := by decide +kernel
theorem dX7_counts_109 : decode cX7_counts 109 = .ok (.return_, 1) := by decide +kernel
theorem dX7_turns_0 : decode cX7_turns 0 = .ok (.aload_n 0, 1) := by decide +kernel
theorem dX7_turns_1 : decode cX7_turns 1 = .ok (.invokevirtual 152, 3) := by decide +kernel
theorem dX7_turns_4 : decode cX7_turns 4 = .ok (.istore_n 1, 1) := by decide +kernel
theorem dX7_turns_5 : decode cX7_turns 5 = .ok (.aload_n 0, 1) := by decide +kernel
theorem dX7_turns_6 : decode cX7_turns 6 = .ok (.invokevirtual 155, 3) := by decide +kernel
theorem dX7_turns_9 : decode cX7_turns 9 = .ok (.aload_n 0, 1) := by decide +kernel
theorem dX7_turns_10 : decode cX7_turns 10 = .ok (.invokevirtual 158, 3) := by decide +kernel
theorem dX7_turns_13 : decode cX7_turns 13 = .ok (.istore_n 2, 1) := by decide +kernel
theorem dX7_turns_14 : decode cX7_turns 14 = .ok (.iload_n 2, 1) := by decide +kernel
theorem dX7_turns_15 : decode cX7_turns 15 = .ok (.iconst (-1), 1) := by decide +kernel
theorem dX7_turns_16 : decode cX7_turns 16 = .ok (.if_icmp .ne 16, 3) := by decide +kernel
theorem dX7_turns_19 : decode cX7_turns 19 = .ok (.aload_n 0, 1) := by decide +kernel
theorem dX7_turns_20 : decode cX7_turns 20 = .ok (.dup, 1) := by decide +kernel
theorem dX7_turns_21 : decode cX7_turns 21 = .ok (.getfield 162, 3) := by decide +kernel
theorem dX7_turns_24 : decode cX7_turns 24 = .ok (.iconst 1, 1) := by decide +kernel
theorem dX7_turns_25 : decode cX7_turns 25 = .ok (.iadd, 1) := by decide +kernel
theorem dX7_turns_26 : decode cX7_turns 26 = .ok (.putfield 162, 3) := by decide +kernel
theorem dX7_turns_29 : decode cX7_turns 29 = .ok (.goto 8, 3) := by decide +kernel
theorem dX7_turns_32 : decode cX7_turns 32 = .ok (.aload_n 0, 1) := by decide +kernel
theorem dX7_turns_33 : decode cX7_turns 33 = .ok (.iload_n 2, 1) := by decide +kernel
theorem dX7_turns_34 : decode cX7_turns 34 = .ok (.invokevirtual 165, 3) := by decide +kernel
theorem dX7_turns_37 : decode cX7_turns 37 = .ok (.aload_n 0, 1) := by decide +kernel
theorem dX7_turns_38 : decode cX7_turns 38 = .ok (.iload_n 2, 1) := by decide +kernel
theorem dX7_turns_39 : decode cX7_turns 39 = .ok (.invokevirtual 168, 3) := by decide +kernel
theorem dX7_turns_42 : decode cX7_turns 42 = .ok (.aload_n 0, 1) := by decide +kernel
theorem dX7_turns_43 : decode cX7_turns 43 = .ok (.getfield 86, 3) := by decide +kernel
theorem dX7_turns_46 : decode cX7_turns 46 = .ok (.aload_n 0, 1) := by decide +kernel
theorem dX7_turns_47 : decode cX7_turns 47 = .ok (.getfield 171, 3) := by decide +kernel
theorem dX7_turns_50 : decode cX7_turns 50 = .ok (.bipush 100, 2) := by decide +kernel
theorem dX7_turns_52 : decode cX7_turns 52 = .ok (.irem, 1) := by decide +kernel
theorem dX7_turns_53 : decode cX7_turns 53 = .ok (.iload_n 2, 1) := by decide +kernel
theorem dX7_turns_54 : decode cX7_turns 54 = .ok (.iastore, 1) := by decide +kernel
theorem dX7_turns_55 : decode cX7_turns 55 = .ok (.aload_n 0, 1) := by decide +kernel
theorem dX7_turns_56 : decode cX7_turns 56 = .ok (.dup, 1) := by decide +kernel
theorem dX7_turns_57 : decode cX7_turns 57 = .ok (.getfield 171, 3) := by decide +kernel
theorem dX7_turns_60 : decode cX7_turns 60 = .ok (.iconst 1, 1) := by decide +kernel
theorem dX7_turns_61 : decode cX7_turns 61 = .ok (.iadd, 1) := by decide +kernel
theorem dX7_turns_62 : decode cX7_turns 62 = .ok (.putfield 171, 3) := by decide +kernel
theorem dX7_turns_65 : decode cX7_turns 65 = .ok (.aload_n 0, 1) := by decide +kernel
theorem dX7_turns_66 : decode cX7_turns 66 = .ok (.dup, 1) := by decide +kernel
theorem dX7_turns_67 : decode cX7_turns 67 = .ok (.getfield 127, 3) := by decide +kernel
theorem dX7_turns_70 : decode cX7_turns 70 = .ok (.iconst 1, 1) := by decide +kernel
theorem dX7_turns_71 : decode cX7_turns 71 = .ok (.iadd, 1) := by decide +kernel
theorem dX7_turns_72 : decode cX7_turns 72 = .ok (.putfield 127, 3) := by decide +kernel
theorem dX7_turns_75 : decode cX7_turns 75 = .ok (.iload_n 1, 1) := by decide +kernel
theorem dX7_turns_76 : decode cX7_turns 76 = .ok (.ireturn, 1) := by decide +kernel
theorem dX7_tick_0 : decode cX7_tick 0 = .ok (.aload_n 0, 1) := by decide +kernel
theorem dX7_tick_1 : decode cX7_tick 1 = .ok (.getfield 127, 3) := by decide +kernel
theorem dX7_tick_4 : decode cX7_tick 4 = .ok (.aload_n 0, 1) := by decide +kernel
theorem dX7_tick_5 : decode cX7_tick 5 = .ok (.getfield 106, 3) := by decide +kernel
theorem dX7_tick_8 : decode cX7_tick 8 = .ok (.if_icmp .ne 6, 3) := by decide +kernel
theorem dX7_tick_11 : decode cX7_tick 11 = .ok (.bipush (-2), 2) := by decide +kernel
theorem dX7_tick_13 : decode cX7_tick 13 = .ok (.ireturn, 1) := by decide +kernel
theorem dX7_tick_14 : decode cX7_tick 14 = .ok (.aload_n 0, 1) := by decide +kernel
theorem dX7_tick_15 : decode cX7_tick 15 = .ok (.invokevirtual 174, 3) := by decide +kernel
theorem dX7_tick_18 : decode cX7_tick 18 = .ok (.pop, 1) := by decide +kernel
theorem dX7_tick_19 : decode cX7_tick 19 = .ok (.aload_n 0, 1) := by decide +kernel
theorem dX7_tick_20 : decode cX7_tick 20 = .ok (.getfield 86, 3) := by decide +kernel
theorem dX7_tick_23 : decode cX7_tick 23 = .ok (.aload_n 0, 1) := by decide +kernel
theorem dX7_tick_24 : decode cX7_tick 24 = .ok (.getfield 171, 3) := by decide +kernel
theorem dX7_tick_27 : decode cX7_tick 27 = .ok (.iconst 1, 1) := by decide +kernel
theorem dX7_tick_28 : decode cX7_tick 28 = .ok (.isub, 1) := by decide +kernel
theorem dX7_tick_29 : decode cX7_tick 29 = .ok (.bipush 100, 2) := by decide +kernel
theorem dX7_tick_31 : decode cX7_tick 31 = .ok (.irem, 1) := by decide +kernel
theorem dX7_tick_32 : decode cX7_tick 32 = .ok (.iaload, 1) := by decide +kernel
theorem dX7_tick_33 : decode cX7_tick 33 = .ok (.ireturn, 1) := by decide +kernel
theorem dX7_run_0 : decode cX7_run 0 = .ok (.iload_n 1, 1) := by decide +kernel
theorem dX7_run_1 : decode cX7_run 1 = .ok (.ifCond .lt 10, 3) := by decide +kernel
theorem dX7_run_4 : decode cX7_run 4 = .ok (.iload_n 1, 1) := by decide +kernel
theorem dX7_run_5 : decode cX7_run 5 = .ok (.sipush 2000, 3) := by decide +kernel
theorem dX7_run_8 : decode cX7_run 8 = .ok (.if_icmp .le 5, 3) := by decide +kernel
theorem dX7_run_11 : decode cX7_run 11 = .ok (.iconst (-1), 1) := by decide +kernel
theorem dX7_run_12 : decode cX7_run 12 = .ok (.ireturn, 1) := by decide +kernel
theorem dX7_run_13 : decode cX7_run 13 = .ok (.iconst 0, 1) := by decide +kernel
theorem dX7_run_14 : decode cX7_run 14 = .ok (.istore_n 2, 1) := by decide +kernel
theorem dX7_run_15 : decode cX7_run 15 = .ok (.iconst 0, 1) := by decide +kernel
theorem dX7_run_16 : decode cX7_run 16 = .ok (.istore_n 3, 1) := by decide +kernel
theorem dX7_run_17 : decode cX7_run 17 = .ok (.iload_n 2, 1) := by decide +kernel
theorem dX7_run_18 : decode cX7_run 18 = .ok (.iload_n 1, 1) := by decide +kernel
theorem dX7_run_19 : decode cX7_run 19 = .ok (.if_icmp .ge 29, 3) := by decide +kernel
theorem dX7_run_22 : decode cX7_run 22 = .ok (.aload_n 0, 1) := by decide +kernel
theorem dX7_run_23 : decode cX7_run 23 = .ok (.getfield 127, 3) := by decide +kernel
theorem dX7_run_26 : decode cX7_run 26 = .ok (.aload_n 0, 1) := by decide +kernel
theorem dX7_run_27 : decode cX7_run 27 = .ok (.getfield 106, 3) := by decide +kernel
theorem dX7_run_30 : decode cX7_run 30 = .ok (.if_icmp .ge 18, 3) := by decide +kernel
theorem dX7_run_33 : decode cX7_run 33 = .ok (.iload_n 3, 1) := by decide +kernel
theorem dX7_run_34 : decode cX7_run 34 = .ok (.ifCond .ne 14, 3) := by decide +kernel
theorem dX7_run_37 : decode cX7_run 37 = .ok (.aload_n 0, 1) := by decide +kernel
theorem dX7_run_38 : decode cX7_run 38 = .ok (.invokevirtual 174, 3) := by decide +kernel
theorem dX7_run_41 : decode cX7_run 41 = .ok (.istore_n 3, 1) := by decide +kernel
theorem dX7_run_42 : decode cX7_run 42 = .ok (.iinc 2 1, 3) := by decide +kernel
theorem dX7_run_45 : decode cX7_run 45 = .ok (.goto (-28), 3) := by decide +kernel
theorem dX7_run_48 : decode cX7_run 48 = .ok (.iload_n 2, 1) := by decide +kernel
theorem dX7_run_49 : decode cX7_run 49 = .ok (.ireturn, 1) := by decide +kernel
theorem dX7_ran_0 : decode cX7_ran 0 = .ok (.iload_n 1, 1) := by decide +kernel
theorem dX7_ran_1 : decode cX7_ran 1 = .ok (.ifCond .lt 36, 3) := by decide +kernel
theorem dX7_ran_4 : decode cX7_ran 4 = .ok (.iload_n 1, 1) := by decide +kernel
theorem dX7_ran_5 : decode cX7_ran 5 = .ok (.bipush 100, 2) := by decide +kernel
theorem dX7_ran_7 : decode cX7_ran 7 = .ok (.if_icmp .ge 30, 3) := by decide +kernel
theorem dX7_ran_10 : decode cX7_ran 10 = .ok (.iload_n 1, 1) := by decide +kernel
theorem dX7_ran_11 : decode cX7_ran 11 = .ok (.aload_n 0, 1) := by decide +kernel
theorem dX7_ran_12 : decode cX7_ran 12 = .ok (.getfield 171, 3) := by decide +kernel
theorem dX7_ran_15 : decode cX7_ran 15 = .ok (.if_icmp .ge 22, 3) := by decide +kernel
theorem dX7_ran_18 : decode cX7_ran 18 = .ok (.aload_n 0, 1) := by decide +kernel
theorem dX7_ran_19 : decode cX7_ran 19 = .ok (.getfield 86, 3) := by decide +kernel
theorem dX7_ran_22 : decode cX7_ran 22 = .ok (.aload_n 0, 1) := by decide +kernel
theorem dX7_ran_23 : decode cX7_ran 23 = .ok (.getfield 171, 3) := by decide +kernel
theorem dX7_ran_26 : decode cX7_ran 26 = .ok (.iconst 1, 1) := by decide +kernel
theorem dX7_ran_27 : decode cX7_ran 27 = .ok (.isub, 1) := by decide +kernel
theorem dX7_ran_28 : decode cX7_ran 28 = .ok (.iload_n 1, 1) := by decide +kernel
theorem dX7_ran_29 : decode cX7_ran 29 = .ok (.isub, 1) := by decide +kernel
theorem dX7_ran_30 : decode cX7_ran 30 = .ok (.bipush 100, 2) := by decide +kernel
theorem dX7_ran_32 : decode cX7_ran 32 = .ok (.irem, 1) := by decide +kernel
theorem dX7_ran_33 : decode cX7_ran 33 = .ok (.iaload, 1) := by decide +kernel
theorem dX7_ran_34 : decode cX7_ran 34 = .ok (.goto 5, 3) := by decide +kernel
theorem dX7_ran_37 : decode cX7_ran 37 = .ok (.bipush (-2), 2) := by decide +kernel
theorem dX7_ran_39 : decode cX7_ran 39 = .ok (.ireturn, 1) := by decide +kernel
theorem dX7_remaining_0 : decode cX7_remaining 0 = .ok (.aload_n 0, 1) := by decide +kernel
theorem dX7_remaining_1 : decode cX7_remaining 1 = .ok (.iload_n 1, 1) := by decide +kernel
theorem dX7_remaining_2 : decode cX7_remaining 2 = .ok (.invokevirtual 113, 3) := by decide +kernel
theorem dX7_remaining_5 : decode cX7_remaining 5 = .ok (.ifCond .eq 19, 3) := by decide +kernel
theorem dX7_remaining_8 : decode cX7_remaining 8 = .ok (.aload_n 0, 1) := by decide +kernel
theorem dX7_remaining_9 : decode cX7_remaining 9 = .ok (.getfield 17, 3) := by decide +kernel
theorem dX7_remaining_12 : decode cX7_remaining 12 = .ok (.iload_n 1, 1) := by decide +kernel
theorem dX7_remaining_13 : decode cX7_remaining 13 = .ok (.iaload, 1) := by decide +kernel
theorem dX7_remaining_14 : decode cX7_remaining 14 = .ok (.aload_n 0, 1) := by decide +kernel
theorem dX7_remaining_15 : decode cX7_remaining 15 = .ok (.getfield 53, 3) := by decide +kernel
theorem dX7_remaining_18 : decode cX7_remaining 18 = .ok (.iload_n 1, 1) := by decide +kernel
theorem dX7_remaining_19 : decode cX7_remaining 19 = .ok (.iaload, 1) := by decide +kernel
theorem dX7_remaining_20 : decode cX7_remaining 20 = .ok (.isub, 1) := by decide +kernel
theorem dX7_remaining_21 : decode cX7_remaining 21 = .ok (.goto 4, 3) := by decide +kernel
theorem dX7_remaining_24 : decode cX7_remaining 24 = .ok (.iconst 0, 1) := by decide +kernel
theorem dX7_remaining_25 : decode cX7_remaining 25 = .ok (.ireturn, 1) := by decide +kernel
theorem dX7_deadlineOf_0 : decode cX7_deadlineOf 0 = .ok (.aload_n 0, 1) := by decide +kernel
theorem dX7_deadlineOf_1 : decode cX7_deadlineOf 1 = .ok (.iload_n 1, 1) := by decide +kernel
theorem dX7_deadlineOf_2 : decode cX7_deadlineOf 2 = .ok (.invokevirtual 113, 3) := by decide +kernel
theorem dX7_deadlineOf_5 : decode cX7_deadlineOf 5 = .ok (.ifCond .eq 12, 3) := by decide +kernel
theorem dX7_deadlineOf_8 : decode cX7_deadlineOf 8 = .ok (.aload_n 0, 1) := by decide +kernel
theorem dX7_deadlineOf_9 : decode cX7_deadlineOf 9 = .ok (.getfield 50, 3) := by decide +kernel
theorem dX7_deadlineOf_12 : decode cX7_deadlineOf 12 = .ok (.iload_n 1, 1) := by decide +kernel
theorem dX7_deadlineOf_13 : decode cX7_deadlineOf 13 = .ok (.iaload, 1) := by decide +kernel
theorem dX7_deadlineOf_14 : decode cX7_deadlineOf 14 = .ok (.goto 4, 3) := by decide +kernel
theorem dX7_deadlineOf_17 : decode cX7_deadlineOf 17 = .ok (.iconst (-1), 1) := by decide +kernel
theorem dX7_deadlineOf_18 : decode cX7_deadlineOf 18 = .ok (.ireturn, 1) := by decide +kernel
theorem dX7_effective_0 : decode cX7_effective 0 = .ok (.aload_n 0, 1) := by decide +kernel
theorem dX7_effective_1 : decode cX7_effective 1 = .ok (.iload_n 1, 1) := by decide +kernel
theorem dX7_effective_2 : decode cX7_effective 2 = .ok (.invokevirtual 113, 3) := by decide +kernel
theorem dX7_effective_5 : decode cX7_effective 5 = .ok (.ifCond .ne 5, 3) := by decide +kernel
theorem dX7_effective_8 : decode cX7_effective 8 = .ok (.iconst (-1), 1) := by decide +kernel
theorem dX7_effective_9 : decode cX7_effective 9 = .ok (.ireturn, 1) := by decide +kernel
theorem dX7_effective_10 : decode cX7_effective 10 = .ok (.aload_n 0, 1) := by decide +kernel
theorem dX7_effective_11 : decode cX7_effective 11 = .ok (.invokevirtual 116, 3) := by decide +kernel
theorem dX7_effective_14 : decode cX7_effective 14 = .ok (.aload_n 0, 1) := by decide +kernel
theorem dX7_effective_15 : decode cX7_effective 15 = .ok (.getfield 77, 3) := by decide +kernel
theorem dX7_effective_18 : decode cX7_effective 18 = .ok (.iload_n 1, 1) := by decide +kernel
theorem dX7_effective_19 : decode cX7_effective 19 = .ok (.iaload, 1) := by decide +kernel
theorem dX7_effective_20 : decode cX7_effective 20 = .ok (.ireturn, 1) := by decide +kernel
theorem dX7_waitsFor_0 : decode cX7_waitsFor 0 = .ok (.aload_n 0, 1) := by decide +kernel
theorem dX7_waitsFor_1 : decode cX7_waitsFor 1 = .ok (.iload_n 1, 1) := by decide +kernel
theorem dX7_waitsFor_2 : decode cX7_waitsFor 2 = .ok (.invokevirtual 113, 3) := by decide +kernel
theorem dX7_waitsFor_5 : decode cX7_waitsFor 5 = .ok (.ifCond .eq 12, 3) := by decide +kernel
theorem dX7_waitsFor_8 : decode cX7_waitsFor 8 = .ok (.aload_n 0, 1) := by decide +kernel
theorem dX7_waitsFor_9 : decode cX7_waitsFor 9 = .ok (.getfield 56, 3) := by decide +kernel
theorem dX7_waitsFor_12 : decode cX7_waitsFor 12 = .ok (.iload_n 1, 1) := by decide +kernel
theorem dX7_waitsFor_13 : decode cX7_waitsFor 13 = .ok (.iaload, 1) := by decide +kernel
theorem dX7_waitsFor_14 : decode cX7_waitsFor 14 = .ok (.goto 4, 3) := by decide +kernel
theorem dX7_waitsFor_17 : decode cX7_waitsFor 17 = .ok (.iconst (-1), 1) := by decide +kernel
theorem dX7_waitsFor_18 : decode cX7_waitsFor 18 = .ok (.ireturn, 1) := by decide +kernel
theorem dX7_owner_0 : decode cX7_owner 0 = .ok (.aload_n 0, 1) := by decide +kernel
theorem dX7_owner_1 : decode cX7_owner 1 = .ok (.iload_n 1, 1) := by decide +kernel
theorem dX7_owner_2 : decode cX7_owner 2 = .ok (.invokevirtual 130, 3) := by decide +kernel
theorem dX7_owner_5 : decode cX7_owner 5 = .ok (.ifCond .eq 12, 3) := by decide +kernel
theorem dX7_owner_8 : decode cX7_owner 8 = .ok (.aload_n 0, 1) := by decide +kernel
theorem dX7_owner_9 : decode cX7_owner 9 = .ok (.getfield 62, 3) := by decide +kernel
theorem dX7_owner_12 : decode cX7_owner 12 = .ok (.iload_n 1, 1) := by decide +kernel
theorem dX7_owner_13 : decode cX7_owner 13 = .ok (.iaload, 1) := by decide +kernel
theorem dX7_owner_14 : decode cX7_owner 14 = .ok (.goto 4, 3) := by decide +kernel
theorem dX7_owner_17 : decode cX7_owner 17 = .ok (.iconst (-1), 1) := by decide +kernel
theorem dX7_owner_18 : decode cX7_owner 18 = .ok (.ireturn, 1) := by decide +kernel
theorem dX7_waiters_0 : decode cX7_waiters 0 = .ok (.iconst 0, 1) := by decide +kernel
theorem dX7_waiters_1 : decode cX7_waiters 1 = .ok (.istore_n 2, 1) := by decide +kernel
theorem dX7_waiters_2 : decode cX7_waiters 2 = .ok (.iconst 0, 1) := by decide +kernel
theorem dX7_waiters_3 : decode cX7_waiters 3 = .ok (.istore_n 3, 1) := by decide +kernel
theorem dX7_waiters_4 : decode cX7_waiters 4 = .ok (.iload_n 3, 1) := by decide +kernel
theorem dX7_waiters_5 : decode cX7_waiters 5 = .ok (.aload_n 0, 1) := by decide +kernel
theorem dX7_waiters_6 : decode cX7_waiters 6 = .ok (.getfield 93, 3) := by decide +kernel
theorem dX7_waiters_9 : decode cX7_waiters 9 = .ok (.if_icmp .ge 43, 3) := by decide +kernel
theorem dX7_waiters_12 : decode cX7_waiters 12 = .ok (.aload_n 0, 1) := by decide +kernel
theorem dX7_waiters_13 : decode cX7_waiters 13 = .ok (.iload_n 1, 1) := by decide +kernel
theorem dX7_waiters_14 : decode cX7_waiters 14 = .ok (.invokevirtual 130, 3) := by decide +kernel
theorem dX7_waiters_17 : decode cX7_waiters 17 = .ok (.ifCond .eq 35, 3) := by decide +kernel
theorem dX7_waiters_20 : decode cX7_waiters 20 = .ok (.iload_n 2, 1) := by decide +kernel
theorem dX7_waiters_21 : decode cX7_waiters 21 = .ok (.aload_n 0, 1) := by decide +kernel
theorem dX7_waiters_22 : decode cX7_waiters 22 = .ok (.iload_n 3, 1) := by decide +kernel
theorem dX7_waiters_23 : decode cX7_waiters 23 = .ok (.invokevirtual 113, 3) := by decide +kernel
theorem dX7_waiters_26 : decode cX7_waiters 26 = .ok (.ifCond .eq 17, 3) := by decide +kernel
theorem dX7_waiters_29 : decode cX7_waiters 29 = .ok (.aload_n 0, 1) := by decide +kernel
theorem dX7_waiters_30 : decode cX7_waiters 30 = .ok (.getfield 56, 3) := by decide +kernel
theorem dX7_waiters_33 : decode cX7_waiters 33 = .ok (.iload_n 3, 1) := by decide +kernel
theorem dX7_waiters_34 : decode cX7_waiters 34 = .ok (.iaload, 1) := by decide +kernel
theorem dX7_waiters_35 : decode cX7_waiters 35 = .ok (.iload_n 1, 1) := by decide +kernel
theorem dX7_waiters_36 : decode cX7_waiters 36 = .ok (.if_icmp .ne 7, 3) := by decide +kernel
theorem dX7_waiters_39 : decode cX7_waiters 39 = .ok (.iconst 1, 1) := by decide +kernel
theorem dX7_waiters_40 : decode cX7_waiters 40 = .ok (.goto 4, 3) := by decide +kernel
theorem dX7_waiters_43 : decode cX7_waiters 43 = .ok (.iconst 0, 1) := by decide +kernel
theorem dX7_waiters_44 : decode cX7_waiters 44 = .ok (.iadd, 1) := by decide +kernel
theorem dX7_waiters_45 : decode cX7_waiters 45 = .ok (.istore_n 2, 1) := by decide +kernel
theorem dX7_waiters_46 : decode cX7_waiters 46 = .ok (.iinc 3 1, 3) := by decide +kernel
theorem dX7_waiters_49 : decode cX7_waiters 49 = .ok (.goto (-45), 3) := by decide +kernel
theorem dX7_waiters_52 : decode cX7_waiters 52 = .ok (.iload_n 2, 1) := by decide +kernel
theorem dX7_waiters_53 : decode cX7_waiters 53 = .ok (.ireturn, 1) := by decide +kernel
theorem dX7_missCount_0 : decode cX7_missCount 0 = .ok (.aload_n 0, 1) := by decide +kernel
theorem dX7_missCount_1 : decode cX7_missCount 1 = .ok (.getfield 143, 3) := by decide +kernel
theorem dX7_missCount_4 : decode cX7_missCount 4 = .ok (.ireturn, 1) := by decide +kernel
theorem dX7_miss_0 : decode cX7_miss 0 = .ok (.iload_n 1, 1) := by decide +kernel
theorem dX7_miss_1 : decode cX7_miss 1 = .ok (.ifCond .lt 19, 3) := by decide +kernel
theorem dX7_miss_4 : decode cX7_miss 4 = .ok (.iload_n 1, 1) := by decide +kernel
theorem dX7_miss_5 : decode cX7_miss 5 = .ok (.aload_n 0, 1) := by decide +kernel
theorem dX7_miss_6 : decode cX7_miss 6 = .ok (.getfield 103, 3) := by decide +kernel
theorem dX7_miss_9 : decode cX7_miss 9 = .ok (.if_icmp .ge 11, 3) := by decide +kernel
theorem dX7_miss_12 : decode cX7_miss 12 = .ok (.iload_n 1, 1) := by decide +kernel
theorem dX7_miss_13 : decode cX7_miss 13 = .ok (.aload_n 0, 1) := by decide +kernel
theorem dX7_miss_14 : decode cX7_miss 14 = .ok (.getfield 143, 3) := by decide +kernel
theorem dX7_miss_17 : decode cX7_miss 17 = .ok (.if_icmp .lt 5, 3) := by decide +kernel
theorem dX7_miss_20 : decode cX7_miss 20 = .ok (.iconst (-1), 1) := by decide +kernel
theorem dX7_miss_21 : decode cX7_miss 21 = .ok (.ireturn, 1) := by decide +kernel
theorem dX7_miss_22 : decode cX7_miss 22 = .ok (.iload_n 2, 1) := by decide +kernel
theorem dX7_miss_23 : decode cX7_miss 23 = .ok (.ifCond .ne 12, 3) := by decide +kernel
theorem dX7_miss_26 : decode cX7_miss 26 = .ok (.aload_n 0, 1) := by decide +kernel
theorem dX7_miss_27 : decode cX7_miss 27 = .ok (.getfield 80, 3) := by decide +kernel
theorem dX7_miss_30 : decode cX7_miss 30 = .ok (.iload_n 1, 1) := by decide +kernel
theorem dX7_miss_31 : decode cX7_miss 31 = .ok (.iaload, 1) := by decide +kernel
theorem dX7_miss_32 : decode cX7_miss 32 = .ok (.goto 18, 3) := by decide +kernel
theorem dX7_miss_35 : decode cX7_miss 35 = .ok (.iload_n 2, 1) := by decide +kernel
theorem dX7_miss_36 : decode cX7_miss 36 = .ok (.iconst 1, 1) := by decide +kernel
theorem dX7_miss_37 : decode cX7_miss 37 = .ok (.if_icmp .ne 12, 3) := by decide +kernel
theorem dX7_miss_40 : decode cX7_miss 40 = .ok (.aload_n 0, 1) := by decide +kernel
theorem dX7_miss_41 : decode cX7_miss 41 = .ok (.getfield 83, 3) := by decide +kernel
theorem dX7_miss_44 : decode cX7_miss 44 = .ok (.iload_n 1, 1) := by decide +kernel
theorem dX7_miss_45 : decode cX7_miss 45 = .ok (.iaload, 1) := by decide +kernel
theorem dX7_miss_46 : decode cX7_miss 46 = .ok (.goto 4, 3) := by decide +kernel
theorem dX7_miss_49 : decode cX7_miss 49 = .ok (.iconst (-1), 1) := by decide +kernel
theorem dX7_miss_50 : decode cX7_miss 50 = .ok (.ireturn, 1) := by decide +kernel
theorem dX7_sectionsOf_0 : decode cX7_sectionsOf 0 = .ok (.iconst 0, 1) := by decide +kernel
theorem dX7_sectionsOf_1 : decode cX7_sectionsOf 1 = .ok (.istore_n 2, 1) := by decide +kernel
theorem dX7_sectionsOf_2 : decode cX7_sectionsOf 2 = .ok (.iconst 0, 1) := by decide +kernel
theorem dX7_sectionsOf_3 : decode cX7_sectionsOf 3 = .ok (.istore_n 3, 1) := by decide +kernel
theorem dX7_sectionsOf_4 : decode cX7_sectionsOf 4 = .ok (.iload_n 3, 1) := by decide +kernel
theorem dX7_sectionsOf_5 : decode cX7_sectionsOf 5 = .ok (.aload_n 0, 1) := by decide +kernel
theorem dX7_sectionsOf_6 : decode cX7_sectionsOf 6 = .ok (.getfield 133, 3) := by decide +kernel
theorem dX7_sectionsOf_9 : decode cX7_sectionsOf 9 = .ok (.if_icmp .ge 27, 3) := by decide +kernel
theorem dX7_sectionsOf_12 : decode cX7_sectionsOf 12 = .ok (.iload_n 2, 1) := by decide +kernel
theorem dX7_sectionsOf_13 : decode cX7_sectionsOf 13 = .ok (.aload_n 0, 1) := by decide +kernel
theorem dX7_sectionsOf_14 : decode cX7_sectionsOf 14 = .ok (.getfield 65, 3) := by decide +kernel
theorem dX7_sectionsOf_17 : decode cX7_sectionsOf 17 = .ok (.iload_n 3, 1) := by decide +kernel
theorem dX7_sectionsOf_18 : decode cX7_sectionsOf 18 = .ok (.iaload, 1) := by decide +kernel
theorem dX7_sectionsOf_19 : decode cX7_sectionsOf 19 = .ok (.iload_n 1, 1) := by decide +kernel
theorem dX7_sectionsOf_20 : decode cX7_sectionsOf 20 = .ok (.if_icmp .ne 7, 3) := by decide +kernel
theorem dX7_sectionsOf_23 : decode cX7_sectionsOf 23 = .ok (.iconst 1, 1) := by decide +kernel
theorem dX7_sectionsOf_24 : decode cX7_sectionsOf 24 = .ok (.goto 4, 3) := by decide +kernel
theorem dX7_sectionsOf_27 : decode cX7_sectionsOf 27 = .ok (.iconst 0, 1) := by decide +kernel
theorem dX7_sectionsOf_28 : decode cX7_sectionsOf 28 = .ok (.iadd, 1) := by decide +kernel
theorem dX7_sectionsOf_29 : decode cX7_sectionsOf 29 = .ok (.istore_n 2, 1) := by decide +kernel
theorem dX7_sectionsOf_30 : decode cX7_sectionsOf 30 = .ok (.iinc 3 1, 3) := by decide +kernel
theorem dX7_sectionsOf_33 : decode cX7_sectionsOf 33 = .ok (.goto (-29), 3) := by decide +kernel
theorem dX7_sectionsOf_36 : decode cX7_sectionsOf 36 = .ok (.iload_n 2, 1) := by decide +kernel
theorem dX7_sectionsOf_37 : decode cX7_sectionsOf 37 = .ok (.ireturn, 1) := by decide +kernel
theorem dX7_task_0 : decode cX7_task 0 = .ok (.aload_n 0, 1) := by decide +kernel
theorem dX7_task_1 : decode cX7_task 1 = .ok (.iload_n 1, 1) := by decide +kernel
theorem dX7_task_2 : decode cX7_task 2 = .ok (.invokevirtual 109, 3) := by decide +kernel
theorem dX7_task_5 : decode cX7_task 5 = .ok (.ifCond .ne 5, 3) := by decide +kernel
theorem dX7_task_8 : decode cX7_task 8 = .ok (.iconst (-1), 1) := by decide +kernel
theorem dX7_task_9 : decode cX7_task 9 = .ok (.ireturn, 1) := by decide +kernel
theorem dX7_task_10 : decode cX7_task 10 = .ok (.iload_n 2, 1) := by decide +kernel
theorem dX7_task_11 : decode cX7_task 11 = .ok (.tableswitch 133 0 10 #[57, 64, 71, 78, 85, 91, 98, 105, 112, 119, 126], 57) := by decide +kernel
theorem dX7_task_68 : decode cX7_task 68 = .ok (.aload_n 0, 1) := by decide +kernel
theorem dX7_task_69 : decode cX7_task 69 = .ok (.getfield 13, 3) := by decide +kernel
theorem dX7_task_72 : decode cX7_task 72 = .ok (.iload_n 1, 1) := by decide +kernel
theorem dX7_task_73 : decode cX7_task 73 = .ok (.iaload, 1) := by decide +kernel
theorem dX7_task_74 : decode cX7_task 74 = .ok (.ireturn, 1) := by decide +kernel
theorem dX7_task_75 : decode cX7_task 75 = .ok (.aload_n 0, 1) := by decide +kernel
theorem dX7_task_76 : decode cX7_task 76 = .ok (.getfield 17, 3) := by decide +kernel
theorem dX7_task_79 : decode cX7_task 79 = .ok (.iload_n 1, 1) := by decide +kernel
theorem dX7_task_80 : decode cX7_task 80 = .ok (.iaload, 1) := by decide +kernel
theorem dX7_task_81 : decode cX7_task 81 = .ok (.ireturn, 1) := by decide +kernel
theorem dX7_task_82 : decode cX7_task 82 = .ok (.aload_n 0, 1) := by decide +kernel
theorem dX7_task_83 : decode cX7_task 83 = .ok (.getfield 20, 3) := by decide +kernel
theorem dX7_task_86 : decode cX7_task 86 = .ok (.iload_n 1, 1) := by decide +kernel
theorem dX7_task_87 : decode cX7_task 87 = .ok (.iaload, 1) := by decide +kernel
theorem dX7_task_88 : decode cX7_task 88 = .ok (.ireturn, 1) := by decide +kernel
theorem dX7_task_89 : decode cX7_task 89 = .ok (.aload_n 0, 1) := by decide +kernel
theorem dX7_task_90 : decode cX7_task 90 = .ok (.getfield 23, 3) := by decide +kernel
theorem dX7_task_93 : decode cX7_task 93 = .ok (.iload_n 1, 1) := by decide +kernel
theorem dX7_task_94 : decode cX7_task 94 = .ok (.iaload, 1) := by decide +kernel
theorem dX7_task_95 : decode cX7_task 95 = .ok (.ireturn, 1) := by decide +kernel
theorem dX7_task_96 : decode cX7_task 96 = .ok (.aload_n 0, 1) := by decide +kernel
theorem dX7_task_97 : decode cX7_task 97 = .ok (.iload_n 1, 1) := by decide +kernel
theorem dX7_task_98 : decode cX7_task 98 = .ok (.invokevirtual 177, 3) := by decide +kernel
theorem dX7_task_101 : decode cX7_task 101 = .ok (.ireturn, 1) := by decide +kernel
theorem dX7_task_102 : decode cX7_task 102 = .ok (.aload_n 0, 1) := by decide +kernel
theorem dX7_task_103 : decode cX7_task 103 = .ok (.getfield 26, 3) := by decide +kernel
theorem dX7_task_106 : decode cX7_task 106 = .ok (.iload_n 1, 1) := by decide +kernel
theorem dX7_task_107 : decode cX7_task 107 = .ok (.iaload, 1) := by decide +kernel
theorem dX7_task_108 : decode cX7_task 108 = .ok (.ireturn, 1) := by decide +kernel
theorem dX7_task_109 : decode cX7_task 109 = .ok (.aload_n 0, 1) := by decide +kernel
theorem dX7_task_110 : decode cX7_task 110 = .ok (.getfield 29, 3) := by decide +kernel
theorem dX7_task_113 : decode cX7_task 113 = .ok (.iload_n 1, 1) := by decide +kernel
theorem dX7_task_114 : decode cX7_task 114 = .ok (.iaload, 1) := by decide +kernel
theorem dX7_task_115 : decode cX7_task 115 = .ok (.ireturn, 1) := by decide +kernel
theorem dX7_task_116 : decode cX7_task 116 = .ok (.aload_n 0, 1) := by decide +kernel
theorem dX7_task_117 : decode cX7_task 117 = .ok (.getfield 32, 3) := by decide +kernel
theorem dX7_task_120 : decode cX7_task 120 = .ok (.iload_n 1, 1) := by decide +kernel
theorem dX7_task_121 : decode cX7_task 121 = .ok (.iaload, 1) := by decide +kernel
theorem dX7_task_122 : decode cX7_task 122 = .ok (.ireturn, 1) := by decide +kernel
theorem dX7_task_123 : decode cX7_task 123 = .ok (.aload_n 0, 1) := by decide +kernel
theorem dX7_task_124 : decode cX7_task 124 = .ok (.getfield 35, 3) := by decide +kernel
theorem dX7_task_127 : decode cX7_task 127 = .ok (.iload_n 1, 1) := by decide +kernel
theorem dX7_task_128 : decode cX7_task 128 = .ok (.iaload, 1) := by decide +kernel
theorem dX7_task_129 : decode cX7_task 129 = .ok (.ireturn, 1) := by decide +kernel
theorem dX7_task_130 : decode cX7_task 130 = .ok (.aload_n 0, 1) := by decide +kernel
theorem dX7_task_131 : decode cX7_task 131 = .ok (.getfield 38, 3) := by decide +kernel
theorem dX7_task_134 : decode cX7_task 134 = .ok (.iload_n 1, 1) := by decide +kernel
theorem dX7_task_135 : decode cX7_task 135 = .ok (.iaload, 1) := by decide +kernel
theorem dX7_task_136 : decode cX7_task 136 = .ok (.ireturn, 1) := by decide +kernel
theorem dX7_task_137 : decode cX7_task 137 = .ok (.aload_n 0, 1) := by decide +kernel
theorem dX7_task_138 : decode cX7_task 138 = .ok (.getfield 41, 3) := by decide +kernel
theorem dX7_task_141 : decode cX7_task 141 = .ok (.iload_n 1, 1) := by decide +kernel
theorem dX7_task_142 : decode cX7_task 142 = .ok (.iaload, 1) := by decide +kernel
theorem dX7_task_143 : decode cX7_task 143 = .ok (.ireturn, 1) := by decide +kernel
theorem dX7_task_144 : decode cX7_task 144 = .ok (.iconst (-1), 1) := by decide +kernel
theorem dX7_task_145 : decode cX7_task 145 = .ok (.ireturn, 1) := by decide +kernel
theorem dX7_count_0 : decode cX7_count 0 = .ok (.iconst 0, 1) := by decide +kernel
theorem dX7_count_1 : decode cX7_count 1 = .ok (.istore_n 2, 1) := by decide +kernel
theorem dX7_count_2 : decode cX7_count 2 = .ok (.iload_n 1, 1) := by decide +kernel
theorem dX7_count_3 : decode cX7_count 3 = .ok (.tableswitch 166 0 6 #[41, 46, 81, 115, 120, 156, 161], 41) := by decide +kernel
theorem dX7_count_44 : decode cX7_count 44 = .ok (.aload_n 0, 1) := by decide +kernel
theorem dX7_count_45 : decode cX7_count 45 = .ok (.getfield 127, 3) := by decide +kernel
theorem dX7_count_48 : decode cX7_count 48 = .ok (.ireturn, 1) := by decide +kernel
theorem dX7_count_49 : decode cX7_count 49 = .ok (.iconst 0, 1) := by decide +kernel
theorem dX7_count_50 : decode cX7_count 50 = .ok (.istore_n 3, 1) := by decide +kernel
theorem dX7_count_51 : decode cX7_count 51 = .ok (.iload_n 3, 1) := by decide +kernel
theorem dX7_count_52 : decode cX7_count 52 = .ok (.aload_n 0, 1) := by decide +kernel
theorem dX7_count_53 : decode cX7_count 53 = .ok (.getfield 93, 3) := by decide +kernel
theorem dX7_count_56 : decode cX7_count 56 = .ok (.if_icmp .ge 26, 3) := by decide +kernel
theorem dX7_count_59 : decode cX7_count 59 = .ok (.iload_n 2, 1) := by decide +kernel
theorem dX7_count_60 : decode cX7_count 60 = .ok (.aload_n 0, 1) := by decide +kernel
theorem dX7_count_61 : decode cX7_count 61 = .ok (.getfield 9, 3) := by decide +kernel
theorem dX7_count_64 : decode cX7_count 64 = .ok (.iload_n 3, 1) := by decide +kernel
theorem dX7_count_65 : decode cX7_count 65 = .ok (.baload, 1) := by decide +kernel
theorem dX7_count_66 : decode cX7_count 66 = .ok (.ifCond .eq 7, 3) := by decide +kernel
theorem dX7_count_69 : decode cX7_count 69 = .ok (.iconst 1, 1) := by decide +kernel
theorem dX7_count_70 : decode cX7_count 70 = .ok (.goto 4, 3) := by decide +kernel
theorem dX7_count_73 : decode cX7_count 73 = .ok (.iconst 0, 1) := by decide +kernel
theorem dX7_count_74 : decode cX7_count 74 = .ok (.iadd, 1) := by decide +kernel
theorem dX7_count_75 : decode cX7_count 75 = .ok (.istore_n 2, 1) := by decide +kernel
theorem dX7_count_76 : decode cX7_count 76 = .ok (.iinc 3 1, 3) := by decide +kernel
theorem dX7_count_79 : decode cX7_count 79 = .ok (.goto (-28), 3) := by decide +kernel
theorem dX7_count_82 : decode cX7_count 82 = .ok (.iload_n 2, 1) := by decide +kernel
theorem dX7_count_83 : decode cX7_count 83 = .ok (.ireturn, 1) := by decide +kernel
theorem dX7_count_84 : decode cX7_count 84 = .ok (.iconst 0, 1) := by decide +kernel
theorem dX7_count_85 : decode cX7_count 85 = .ok (.istore_n 3, 1) := by decide +kernel
theorem dX7_count_86 : decode cX7_count 86 = .ok (.iload_n 3, 1) := by decide +kernel
theorem dX7_count_87 : decode cX7_count 87 = .ok (.aload_n 0, 1) := by decide +kernel
theorem dX7_count_88 : decode cX7_count 88 = .ok (.getfield 93, 3) := by decide +kernel
theorem dX7_count_91 : decode cX7_count 91 = .ok (.if_icmp .ge 25, 3) := by decide +kernel
theorem dX7_count_94 : decode cX7_count 94 = .ok (.iload_n 2, 1) := by decide +kernel
theorem dX7_count_95 : decode cX7_count 95 = .ok (.aload_n 0, 1) := by decide +kernel
theorem dX7_count_96 : decode cX7_count 96 = .ok (.iload_n 3, 1) := by decide +kernel
theorem dX7_count_97 : decode cX7_count 97 = .ok (.invokevirtual 113, 3) := by decide +kernel
theorem dX7_count_100 : decode cX7_count 100 = .ok (.ifCond .eq 7, 3) := by decide +kernel
theorem dX7_count_103 : decode cX7_count 103 = .ok (.iconst 1, 1) := by decide +kernel
theorem dX7_count_104 : decode cX7_count 104 = .ok (.goto 4, 3) := by decide +kernel
theorem dX7_count_107 : decode cX7_count 107 = .ok (.iconst 0, 1) := by decide +kernel
theorem dX7_count_108 : decode cX7_count 108 = .ok (.iadd, 1) := by decide +kernel
theorem dX7_count_109 : decode cX7_count 109 = .ok (.istore_n 2, 1) := by decide +kernel
theorem dX7_count_110 : decode cX7_count 110 = .ok (.iinc 3 1, 3) := by decide +kernel
theorem dX7_count_113 : decode cX7_count 113 = .ok (.goto (-27), 3) := by decide +kernel
theorem dX7_count_116 : decode cX7_count 116 = .ok (.iload_n 2, 1) := by decide +kernel
theorem dX7_count_117 : decode cX7_count 117 = .ok (.ireturn, 1) := by decide +kernel
theorem dX7_count_118 : decode cX7_count 118 = .ok (.aload_n 0, 1) := by decide +kernel
theorem dX7_count_119 : decode cX7_count 119 = .ok (.getfield 133, 3) := by decide +kernel
theorem dX7_count_122 : decode cX7_count 122 = .ok (.ireturn, 1) := by decide +kernel
theorem dX7_count_123 : decode cX7_count 123 = .ok (.iconst 0, 1) := by decide +kernel
theorem dX7_count_124 : decode cX7_count 124 = .ok (.istore_n 3, 1) := by decide +kernel
theorem dX7_count_125 : decode cX7_count 125 = .ok (.iload_n 3, 1) := by decide +kernel
theorem dX7_count_126 : decode cX7_count 126 = .ok (.aload_n 0, 1) := by decide +kernel
theorem dX7_count_127 : decode cX7_count 127 = .ok (.getfield 97, 3) := by decide +kernel
theorem dX7_count_130 : decode cX7_count 130 = .ok (.if_icmp .ge 27, 3) := by decide +kernel
theorem dX7_count_133 : decode cX7_count 133 = .ok (.iload_n 2, 1) := by decide +kernel
theorem dX7_count_134 : decode cX7_count 134 = .ok (.aload_n 0, 1) := by decide +kernel
theorem dX7_count_135 : decode cX7_count 135 = .ok (.getfield 62, 3) := by decide +kernel
theorem dX7_count_138 : decode cX7_count 138 = .ok (.iload_n 3, 1) := by decide +kernel
theorem dX7_count_139 : decode cX7_count 139 = .ok (.iaload, 1) := by decide +kernel
theorem dX7_count_140 : decode cX7_count 140 = .ok (.iconst (-1), 1) := by decide +kernel
theorem dX7_count_141 : decode cX7_count 141 = .ok (.if_icmp .eq 7, 3) := by decide +kernel
theorem dX7_count_144 : decode cX7_count 144 = .ok (.iconst 1, 1) := by decide +kernel
theorem dX7_count_145 : decode cX7_count 145 = .ok (.goto 4, 3) := by decide +kernel
theorem dX7_count_148 : decode cX7_count 148 = .ok (.iconst 0, 1) := by decide +kernel
theorem dX7_count_149 : decode cX7_count 149 = .ok (.iadd, 1) := by decide +kernel
theorem dX7_count_150 : decode cX7_count 150 = .ok (.istore_n 2, 1) := by decide +kernel
theorem dX7_count_151 : decode cX7_count 151 = .ok (.iinc 3 1, 3) := by decide +kernel
theorem dX7_count_154 : decode cX7_count 154 = .ok (.goto (-29), 3) := by decide +kernel
theorem dX7_count_157 : decode cX7_count 157 = .ok (.iload_n 2, 1) := by decide +kernel
theorem dX7_count_158 : decode cX7_count 158 = .ok (.ireturn, 1) := by decide +kernel
theorem dX7_count_159 : decode cX7_count 159 = .ok (.aload_n 0, 1) := by decide +kernel
theorem dX7_count_160 : decode cX7_count 160 = .ok (.getfield 162, 3) := by decide +kernel
theorem dX7_count_163 : decode cX7_count 163 = .ok (.ireturn, 1) := by decide +kernel
theorem dX7_count_164 : decode cX7_count 164 = .ok (.aload_n 0, 1) := by decide +kernel
theorem dX7_count_165 : decode cX7_count 165 = .ok (.getfield 106, 3) := by decide +kernel
theorem dX7_count_168 : decode cX7_count 168 = .ok (.ireturn, 1) := by decide +kernel
theorem dX7_count_169 : decode cX7_count 169 = .ok (.iconst (-1), 1) := by decide +kernel
theorem dX7_count_170 : decode cX7_count 170 = .ok (.ireturn, 1) := by decide +kernel
end
section
def db_gw : List Cond := lw_tbl.filter goodWord
def db_isN : Cond → Bool := fun w => match w with | .fieldLinkNest .. => true | .methodLinkNest .. => true | _ => false
theorem ws_0 : Cond.selects "DeadlineBench$Task" (⟨"DeadlineBench$Task", "enter", "(IIII)V"⟩ : MethodName) ⟨"DeadlineBench$Task", "enter", "(IIII)V"⟩ ∈ db_gw := List.mem_filter.mpr ⟨List.mem_of_getElem? (i := 0) (by decide +kernel), by decide +kernel⟩
theorem ws_1 : Cond.selects "DeadlineBench" (⟨"DeadlineBench", "isLive", "(I)Z"⟩ : MethodName) ⟨"DeadlineBench", "isLive", "(I)Z"⟩ ∈ db_gw := List.mem_filter.mpr ⟨List.mem_of_getElem? (i := 1) (by decide +kernel), by decide +kernel⟩
theorem ws_2 : Cond.selects "DeadlineBench" (⟨"DeadlineBench", "isLock", "(I)Z"⟩ : MethodName) ⟨"DeadlineBench", "isLock", "(I)Z"⟩ ∈ db_gw := List.mem_filter.mpr ⟨List.mem_of_getElem? (i := 2) (by decide +kernel), by decide +kernel⟩
theorem ws_3 : Cond.selects "DeadlineBench$SectionList" (⟨"DeadlineBench$SectionList", "insert", "(LDeadlineBench$Section;)Z"⟩ : MethodName) ⟨"DeadlineBench$SectionList", "insert", "(LDeadlineBench$Section;)Z"⟩ ∈ db_gw := List.mem_filter.mpr ⟨List.mem_of_getElem? (i := 3) (by decide +kernel), by decide +kernel⟩
theorem ws_4 : Cond.selects "DeadlineBench$SectionList" (⟨"DeadlineBench$SectionList", "clashes", "(LDeadlineBench$Section;)Z"⟩ : MethodName) ⟨"DeadlineBench$SectionList", "clashes", "(LDeadlineBench$Section;)Z"⟩ ∈ db_gw := List.mem_filter.mpr ⟨List.mem_of_getElem? (i := 4) (by decide +kernel), by decide +kernel⟩
theorem ws_5 : Cond.selects "DeadlineBench$Section" (⟨"DeadlineBench$Section", "clashesWith", "(LDeadlineBench$Section;)Z"⟩ : MethodName) ⟨"DeadlineBench$Section", "clashesWith", "(LDeadlineBench$Section;)Z"⟩ ∈ db_gw := List.mem_filter.mpr ⟨List.mem_of_getElem? (i := 5) (by decide +kernel), by decide +kernel⟩
theorem ws_6 : Cond.selects "DeadlineBench$Section" (⟨"DeadlineBench$Section", "covers", "(LDeadlineBench$Section;)Z"⟩ : MethodName) ⟨"DeadlineBench$Section", "covers", "(LDeadlineBench$Section;)Z"⟩ ∈ db_gw := List.mem_filter.mpr ⟨List.mem_of_getElem? (i := 6) (by decide +kernel), by decide +kernel⟩
theorem ws_7 : Cond.selects "DeadlineBench$Section" (⟨"DeadlineBench$Section", "goesBefore", "(LDeadlineBench$Section;)Z"⟩ : MethodName) ⟨"DeadlineBench$Section", "goesBefore", "(LDeadlineBench$Section;)Z"⟩ ∈ db_gw := List.mem_filter.mpr ⟨List.mem_of_getElem? (i := 7) (by decide +kernel), by decide +kernel⟩
theorem ws_8 : Cond.selects "DeadlineBench" (⟨"DeadlineBench", "dropJob", "(I)V"⟩ : MethodName) ⟨"DeadlineBench", "dropJob", "(I)V"⟩ ∈ db_gw := List.mem_filter.mpr ⟨List.mem_of_getElem? (i := 8) (by decide +kernel), by decide +kernel⟩
theorem ws_9 : Cond.selects "DeadlineBench" (⟨"DeadlineBench", "letGo", "(I)V"⟩ : MethodName) ⟨"DeadlineBench", "letGo", "(I)V"⟩ ∈ db_gw := List.mem_filter.mpr ⟨List.mem_of_getElem? (i := 9) (by decide +kernel), by decide +kernel⟩
theorem ws_10 : Cond.selects "DeadlineBench" (⟨"DeadlineBench", "inheritDeadlines", "()V"⟩ : MethodName) ⟨"DeadlineBench", "inheritDeadlines", "()V"⟩ ∈ db_gw := List.mem_filter.mpr ⟨List.mem_of_getElem? (i := 10) (by decide +kernel), by decide +kernel⟩
theorem ws_11 : Cond.selects "DeadlineBench" (⟨"DeadlineBench", "holderAwaitedBy", "(I)I"⟩ : MethodName) ⟨"DeadlineBench", "holderAwaitedBy", "(I)I"⟩ ∈ db_gw := List.mem_filter.mpr ⟨List.mem_of_getElem? (i := 11) (by decide +kernel), by decide +kernel⟩
theorem ws_12 : Cond.selects "DeadlineBench" (⟨"DeadlineBench", "aheadOfAll", "(I)I"⟩ : MethodName) ⟨"DeadlineBench", "aheadOfAll", "(I)I"⟩ ∈ db_gw := List.mem_filter.mpr ⟨List.mem_of_getElem? (i := 12) (by decide +kernel), by decide +kernel⟩
theorem ws_13 : Cond.selects "DeadlineBench$SectionList" (⟨"DeadlineBench$SectionList", "removeAllOf", "(I)V"⟩ : MethodName) ⟨"DeadlineBench$SectionList", "removeAllOf", "(I)V"⟩ ∈ db_gw := List.mem_filter.mpr ⟨List.mem_of_getElem? (i := 13) (by decide +kernel), by decide +kernel⟩
theorem ws_14 : Cond.selects "DeadlineBench" (⟨"DeadlineBench", "demandAt", "(I)J"⟩ : MethodName) ⟨"DeadlineBench", "demandAt", "(I)J"⟩ ∈ db_gw := List.mem_filter.mpr ⟨List.mem_of_getElem? (i := 14) (by decide +kernel), by decide +kernel⟩
theorem ws_15 : Cond.selects "DeadlineBench" (⟨"DeadlineBench", "passTick", "()I"⟩ : MethodName) ⟨"DeadlineBench", "passTick", "()I"⟩ ∈ db_gw := List.mem_filter.mpr ⟨List.mem_of_getElem? (i := 15) (by decide +kernel), by decide +kernel⟩
theorem ws_16 : Cond.selects "DeadlineBench" (⟨"DeadlineBench", "dropLateJobs", "()V"⟩ : MethodName) ⟨"DeadlineBench", "dropLateJobs", "()V"⟩ ∈ db_gw := List.mem_filter.mpr ⟨List.mem_of_getElem? (i := 16) (by decide +kernel), by decide +kernel⟩
theorem ws_17 : Cond.selects "DeadlineBench$MissLog" (⟨"DeadlineBench$MissLog", "note", "(II)V"⟩ : MethodName) ⟨"DeadlineBench$MissLog", "note", "(II)V"⟩ ∈ db_gw := List.mem_filter.mpr ⟨List.mem_of_getElem? (i := 17) (by decide +kernel), by decide +kernel⟩
theorem ws_18 : Cond.selects "DeadlineBench" (⟨"DeadlineBench", "releaseJobs", "()V"⟩ : MethodName) ⟨"DeadlineBench", "releaseJobs", "()V"⟩ ∈ db_gw := List.mem_filter.mpr ⟨List.mem_of_getElem? (i := 18) (by decide +kernel), by decide +kernel⟩
theorem ws_19 : Cond.selects "DeadlineBench$Task" (⟨"DeadlineBench$Task", "releaseJob", "()V"⟩ : MethodName) ⟨"DeadlineBench$Task", "releaseJob", "()V"⟩ ∈ db_gw := List.mem_filter.mpr ⟨List.mem_of_getElem? (i := 19) (by decide +kernel), by decide +kernel⟩
theorem ws_20 : Cond.selects "DeadlineBench$Job" (⟨"DeadlineBench$Job", "begin", "(II)V"⟩ : MethodName) ⟨"DeadlineBench$Job", "begin", "(II)V"⟩ ∈ db_gw := List.mem_filter.mpr ⟨List.mem_of_getElem? (i := 20) (by decide +kernel), by decide +kernel⟩
theorem ws_21 : Cond.selects "DeadlineBench" (⟨"DeadlineBench", "runOneJob", "()I"⟩ : MethodName) ⟨"DeadlineBench", "runOneJob", "()I"⟩ ∈ db_gw := List.mem_filter.mpr ⟨List.mem_of_getElem? (i := 21) (by decide +kernel), by decide +kernel⟩
theorem ws_22 : Cond.selects "DeadlineBench" (⟨"DeadlineBench", "takeLocks", "(I)Z"⟩ : MethodName) ⟨"DeadlineBench", "takeLocks", "(I)Z"⟩ ∈ db_gw := List.mem_filter.mpr ⟨List.mem_of_getElem? (i := 22) (by decide +kernel), by decide +kernel⟩
theorem ws_23 : Cond.selects "DeadlineBench" (⟨"DeadlineBench", "workOneUnit", "(I)V"⟩ : MethodName) ⟨"DeadlineBench", "workOneUnit", "(I)V"⟩ ∈ db_gw := List.mem_filter.mpr ⟨List.mem_of_getElem? (i := 23) (by decide +kernel), by decide +kernel⟩
theorem ws_24 : Cond.selects "DeadlineBench$Task" (⟨"DeadlineBench$Task", "endJob", "(I)V"⟩ : MethodName) ⟨"DeadlineBench$Task", "endJob", "(I)V"⟩ ∈ db_gw := List.mem_filter.mpr ⟨List.mem_of_getElem? (i := 24) (by decide +kernel), by decide +kernel⟩
theorem ws_25 : Cond.selects "DeadlineBench" (⟨"DeadlineBench", "countWaitsAndPutBys", "(I)V"⟩ : MethodName) ⟨"DeadlineBench", "countWaitsAndPutBys", "(I)V"⟩ ∈ db_gw := List.mem_filter.mpr ⟨List.mem_of_getElem? (i := 25) (by decide +kernel), by decide +kernel⟩
theorem ws_26 : Cond.selects "DeadlineBench$RunHistory" (⟨"DeadlineBench$RunHistory", "note", "(I)V"⟩ : MethodName) ⟨"DeadlineBench$RunHistory", "note", "(I)V"⟩ ∈ db_gw := List.mem_filter.mpr ⟨List.mem_of_getElem? (i := 26) (by decide +kernel), by decide +kernel⟩
theorem ws_27 : Cond.selects "DeadlineBench$RunHistory" (⟨"DeadlineBench$RunHistory", "runnerBack", "(I)I"⟩ : MethodName) ⟨"DeadlineBench$RunHistory", "runnerBack", "(I)I"⟩ ∈ db_gw := List.mem_filter.mpr ⟨List.mem_of_getElem? (i := 27) (by decide +kernel), by decide +kernel⟩
theorem ws_28 : Cond.selects "DeadlineBench" (⟨"DeadlineBench", "hasJob", "(I)Z"⟩ : MethodName) ⟨"DeadlineBench", "hasJob", "(I)Z"⟩ ∈ db_gw := List.mem_filter.mpr ⟨List.mem_of_getElem? (i := 28) (by decide +kernel), by decide +kernel⟩
theorem ws_29 : Cond.selects "DeadlineBench$MissLog" (⟨"DeadlineBench$MissLog", "keeps", "(I)Z"⟩ : MethodName) ⟨"DeadlineBench$MissLog", "keeps", "(I)Z"⟩ ∈ db_gw := List.mem_filter.mpr ⟨List.mem_of_getElem? (i := 29) (by decide +kernel), by decide +kernel⟩
theorem ws_30 : Cond.selects "DeadlineBench$SectionList" (⟨"DeadlineBench$SectionList", "sizeOf", "(I)I"⟩ : MethodName) ⟨"DeadlineBench$SectionList", "sizeOf", "(I)I"⟩ ∈ db_gw := List.mem_filter.mpr ⟨List.mem_of_getElem? (i := 30) (by decide +kernel), by decide +kernel⟩
theorem ws_31 : Cond.selects "DeadlineBench" (⟨"DeadlineBench", "liveTasks", "()I"⟩ : MethodName) ⟨"DeadlineBench", "liveTasks", "()I"⟩ ∈ db_gw := List.mem_filter.mpr ⟨List.mem_of_getElem? (i := 31) (by decide +kernel), by decide +kernel⟩
theorem ws_32 : Cond.selects "DeadlineBench" (⟨"DeadlineBench", "pendingJobs", "()I"⟩ : MethodName) ⟨"DeadlineBench", "pendingJobs", "()I"⟩ ∈ db_gw := List.mem_filter.mpr ⟨List.mem_of_getElem? (i := 32) (by decide +kernel), by decide +kernel⟩
theorem ws_33 : Cond.selects "DeadlineBench" (⟨"DeadlineBench", "heldLocks", "()I"⟩ : MethodName) ⟨"DeadlineBench", "heldLocks", "()I"⟩ ∈ db_gw := List.mem_filter.mpr ⟨List.mem_of_getElem? (i := 33) (by decide +kernel), by decide +kernel⟩
theorem ws_34 : Cond.selects "DeadlineBenchModel" (⟨"DeadlineBenchModel", "isLive", "(I)Z"⟩ : MethodName) ⟨"DeadlineBenchModel", "isLive", "(I)Z"⟩ ∈ db_gw := List.mem_filter.mpr ⟨List.mem_of_getElem? (i := 34) (by decide +kernel), by decide +kernel⟩
theorem ws_35 : Cond.selects "DeadlineBenchModel" (⟨"DeadlineBenchModel", "isLock", "(I)Z"⟩ : MethodName) ⟨"DeadlineBenchModel", "isLock", "(I)Z"⟩ ∈ db_gw := List.mem_filter.mpr ⟨List.mem_of_getElem? (i := 35) (by decide +kernel), by decide +kernel⟩
theorem ws_36 : Cond.selects "DeadlineBenchModel" (⟨"DeadlineBenchModel", "mayStand", "(IIII)Z"⟩ : MethodName) ⟨"DeadlineBenchModel", "mayStand", "(IIII)Z"⟩ ∈ db_gw := List.mem_filter.mpr ⟨List.mem_of_getElem? (i := 36) (by decide +kernel), by decide +kernel⟩
theorem ws_37 : Cond.selects "DeadlineBenchModel" (⟨"DeadlineBenchModel", "drops", "(I)V"⟩ : MethodName) ⟨"DeadlineBenchModel", "drops", "(I)V"⟩ ∈ db_gw := List.mem_filter.mpr ⟨List.mem_of_getElem? (i := 37) (by decide +kernel), by decide +kernel⟩
theorem ws_38 : Cond.selects "DeadlineBenchModel" (⟨"DeadlineBenchModel", "letsGo", "(I)V"⟩ : MethodName) ⟨"DeadlineBenchModel", "letsGo", "(I)V"⟩ ∈ db_gw := List.mem_filter.mpr ⟨List.mem_of_getElem? (i := 38) (by decide +kernel), by decide +kernel⟩
theorem ws_39 : Cond.selects "DeadlineBenchModel" (⟨"DeadlineBenchModel", "ahead", "(I)I"⟩ : MethodName) ⟨"DeadlineBenchModel", "ahead", "(I)I"⟩ ∈ db_gw := List.mem_filter.mpr ⟨List.mem_of_getElem? (i := 39) (by decide +kernel), by decide +kernel⟩
theorem ws_40 : Cond.selects "DeadlineBenchModel" (⟨"DeadlineBenchModel", "reckons", "()V"⟩ : MethodName) ⟨"DeadlineBenchModel", "reckons", "()V"⟩ ∈ db_gw := List.mem_filter.mpr ⟨List.mem_of_getElem? (i := 40) (by decide +kernel), by decide +kernel⟩
theorem ws_41 : Cond.selects "DeadlineBenchModel" (⟨"DeadlineBenchModel", "isPending", "(I)Z"⟩ : MethodName) ⟨"DeadlineBenchModel", "isPending", "(I)Z"⟩ ∈ db_gw := List.mem_filter.mpr ⟨List.mem_of_getElem? (i := 41) (by decide +kernel), by decide +kernel⟩
theorem ws_42 : Cond.selects "DeadlineBenchModel" (⟨"DeadlineBenchModel", "turns", "()Z"⟩ : MethodName) ⟨"DeadlineBenchModel", "turns", "()Z"⟩ ∈ db_gw := List.mem_filter.mpr ⟨List.mem_of_getElem? (i := 42) (by decide +kernel), by decide +kernel⟩
theorem ws_43 : Cond.selects "DeadlineBenchModel" (⟨"DeadlineBenchModel", "misses", "()Z"⟩ : MethodName) ⟨"DeadlineBenchModel", "misses", "()Z"⟩ ∈ db_gw := List.mem_filter.mpr ⟨List.mem_of_getElem? (i := 43) (by decide +kernel), by decide +kernel⟩
theorem ws_44 : Cond.selects "DeadlineBenchModel" (⟨"DeadlineBenchModel", "releases", "()V"⟩ : MethodName) ⟨"DeadlineBenchModel", "releases", "()V"⟩ ∈ db_gw := List.mem_filter.mpr ⟨List.mem_of_getElem? (i := 44) (by decide +kernel), by decide +kernel⟩
theorem ws_45 : Cond.selects "DeadlineBenchModel" (⟨"DeadlineBenchModel", "taken", "()I"⟩ : MethodName) ⟨"DeadlineBenchModel", "taken", "()I"⟩ ∈ db_gw := List.mem_filter.mpr ⟨List.mem_of_getElem? (i := 45) (by decide +kernel), by decide +kernel⟩
theorem ws_46 : Cond.selects "DeadlineBenchModel" (⟨"DeadlineBenchModel", "wanted", "(I)I"⟩ : MethodName) ⟨"DeadlineBenchModel", "wanted", "(I)I"⟩ ∈ db_gw := List.mem_filter.mpr ⟨List.mem_of_getElem? (i := 46) (by decide +kernel), by decide +kernel⟩
theorem ws_47 : Cond.selects "DeadlineBenchModel" (⟨"DeadlineBenchModel", "works", "(I)V"⟩ : MethodName) ⟨"DeadlineBenchModel", "works", "(I)V"⟩ ∈ db_gw := List.mem_filter.mpr ⟨List.mem_of_getElem? (i := 47) (by decide +kernel), by decide +kernel⟩
theorem ws_48 : Cond.selects "DeadlineBenchModel" (⟨"DeadlineBenchModel", "ending", "(I)I"⟩ : MethodName) ⟨"DeadlineBenchModel", "ending", "(I)I"⟩ ∈ db_gw := List.mem_filter.mpr ⟨List.mem_of_getElem? (i := 48) (by decide +kernel), by decide +kernel⟩
theorem ws_49 : Cond.selects "DeadlineBenchModel" (⟨"DeadlineBenchModel", "counts", "(I)V"⟩ : MethodName) ⟨"DeadlineBenchModel", "counts", "(I)V"⟩ ∈ db_gw := List.mem_filter.mpr ⟨List.mem_of_getElem? (i := 49) (by decide +kernel), by decide +kernel⟩
theorem ws_50 : Cond.selects "DeadlineBenchModel" (⟨"DeadlineBenchModel", "sectionsOf", "(I)I"⟩ : MethodName) ⟨"DeadlineBenchModel", "sectionsOf", "(I)I"⟩ ∈ db_gw := List.mem_filter.mpr ⟨List.mem_of_getElem? (i := 50) (by decide +kernel), by decide +kernel⟩
theorem wd_0 : (Jvm.Cond.initialized "DeadlineBenchLaw") ∈ db_gw := List.mem_filter.mpr ⟨List.mem_of_getElem? (i := 51) (by decide +kernel), by decide +kernel⟩
theorem wd_1 : (Jvm.Cond.initialized "DeadlineBench") ∈ db_gw := List.mem_filter.mpr ⟨List.mem_of_getElem? (i := 52) (by decide +kernel), by decide +kernel⟩
theorem wd_2 : (Jvm.Cond.initialized "java/lang/Math") ∈ db_gw := List.mem_filter.mpr ⟨List.mem_of_getElem? (i := 53) (by decide +kernel), by decide +kernel⟩
theorem wd_3 : (Jvm.Cond.initialized "DeadlineBench$Task") ∈ db_gw := List.mem_filter.mpr ⟨List.mem_of_getElem? (i := 54) (by decide +kernel), by decide +kernel⟩
theorem wd_4 : (Jvm.Cond.initialized "DeadlineBench$Job") ∈ db_gw := List.mem_filter.mpr ⟨List.mem_of_getElem? (i := 55) (by decide +kernel), by decide +kernel⟩
theorem wd_5 : (Jvm.Cond.initialized "java/util/Arrays") ∈ db_gw := List.mem_filter.mpr ⟨List.mem_of_getElem? (i := 56) (by decide +kernel), by decide +kernel⟩
theorem wd_6 : (Jvm.Cond.initialized "DeadlineBench$SectionList") ∈ db_gw := List.mem_filter.mpr ⟨List.mem_of_getElem? (i := 57) (by decide +kernel), by decide +kernel⟩
theorem wd_7 : (Jvm.Cond.initialized "DeadlineBench$MissLog") ∈ db_gw := List.mem_filter.mpr ⟨List.mem_of_getElem? (i := 58) (by decide +kernel), by decide +kernel⟩
theorem wd_8 : (Jvm.Cond.initialized "DeadlineBench$RunHistory") ∈ db_gw := List.mem_filter.mpr ⟨List.mem_of_getElem? (i := 59) (by decide +kernel), by decide +kernel⟩
theorem wd_9 : (Jvm.Cond.initialized "DeadlineBenchModel") ∈ db_gw := List.mem_filter.mpr ⟨List.mem_of_getElem? (i := 60) (by decide +kernel), by decide +kernel⟩
theorem wd_10 : (Jvm.Cond.initialized "DeadlineBench$Section") ∈ db_gw := List.mem_filter.mpr ⟨List.mem_of_getElem? (i := 61) (by decide +kernel), by decide +kernel⟩
theorem wd_11 : (Jvm.Cond.classLink "DeadlineBenchLaw" (7 : Nat) "DeadlineBench") ∈ db_gw := List.mem_filter.mpr ⟨List.mem_of_getElem? (i := 62) (by decide +kernel), by decide +kernel⟩
theorem wd_12 : (Jvm.Cond.instantiable "DeadlineBench" (8 : Nat)) ∈ db_gw := List.mem_filter.mpr ⟨List.mem_of_getElem? (i := 63) (by decide +kernel), by decide +kernel⟩
theorem wd_13 : (Jvm.Cond.methodLink "DeadlineBenchLaw" (15 : Nat) ({ cls := "DeadlineBench", name := "<init>", desc := "(IIIII)V" } : Jvm.MethodName)) ∈ db_gw := List.mem_filter.mpr ⟨List.mem_of_getElem? (i := 64) (by decide +kernel), by decide +kernel⟩
theorem wd_14 : (Jvm.Cond.instanceMethod ({ cls := "DeadlineBench", name := "<init>", desc := "(IIIII)V" } : Jvm.MethodName)) ∈ db_gw := List.mem_filter.mpr ⟨List.mem_of_getElem? (i := 65) (by decide +kernel), by decide +kernel⟩
theorem wd_15 : (Jvm.Cond.code ({ cls := "DeadlineBench", name := "<init>", desc := "(IIIII)V" } : Jvm.MethodName) prog_1_method_1_code (7 : Nat) (Option.none : Option Jvm.ClassFile.FieldType)) ∈ db_gw := List.mem_filter.mpr ⟨List.mem_of_getElem? (i := 66) (by decide +kernel), by decide +kernel⟩
theorem wd_16 : (Jvm.Cond.methodLink "DeadlineBench" (1 : Nat) ({ cls := "java/lang/Object", name := "<init>", desc := "()V" } : Jvm.MethodName)) ∈ db_gw := List.mem_filter.mpr ⟨List.mem_of_getElem? (i := 67) (by decide +kernel), by decide +kernel⟩
theorem wd_17 : (Jvm.Cond.instanceMethod ({ cls := "java/lang/Object", name := "<init>", desc := "()V" } : Jvm.MethodName)) ∈ db_gw := List.mem_filter.mpr ⟨List.mem_of_getElem? (i := 68) (by decide +kernel), by decide +kernel⟩
theorem wd_18 : (Jvm.Cond.code ({ cls := "java/lang/Object", name := "<init>", desc := "()V" } : Jvm.MethodName) object_method_1_code (1 : Nat) (Option.none : Option Jvm.ClassFile.FieldType)) ∈ db_gw := List.mem_filter.mpr ⟨List.mem_of_getElem? (i := 69) (by decide +kernel), by decide +kernel⟩
theorem wd_19 : (Jvm.Cond.methodLink "DeadlineBench" (9 : Nat) ({ cls := "DeadlineBench", name := "nearest", desc := "(III)I" } : Jvm.MethodName)) ∈ db_gw := List.mem_filter.mpr ⟨List.mem_of_getElem? (i := 70) (by decide +kernel), by decide +kernel⟩
theorem wd_20 : (Jvm.Cond.static ({ cls := "DeadlineBench", name := "nearest", desc := "(III)I" } : Jvm.MethodName)) ∈ db_gw := List.mem_filter.mpr ⟨List.mem_of_getElem? (i := 71) (by decide +kernel), by decide +kernel⟩
theorem wd_21 : (Jvm.Cond.code ({ cls := "DeadlineBench", name := "nearest", desc := "(III)I" } : Jvm.MethodName) prog_1_method_19_code (3 : Nat) (Option.some Jvm.ClassFile.FieldType.int)) ∈ db_gw := List.mem_filter.mpr ⟨List.mem_of_getElem? (i := 72) (by decide +kernel), by decide +kernel⟩
theorem wd_22 : (Jvm.Cond.methodLink "DeadlineBench" (188 : Nat) ({ cls := "java/lang/Math", name := "min", desc := "(II)I" } : Jvm.MethodName)) ∈ db_gw := List.mem_filter.mpr ⟨List.mem_of_getElem? (i := 73) (by decide +kernel), by decide +kernel⟩
theorem wd_23 : (Jvm.Cond.static ({ cls := "java/lang/Math", name := "min", desc := "(II)I" } : Jvm.MethodName)) ∈ db_gw := List.mem_filter.mpr ⟨List.mem_of_getElem? (i := 74) (by decide +kernel), by decide +kernel⟩
theorem wd_24 : (Jvm.Cond.code ({ cls := "java/lang/Math", name := "min", desc := "(II)I" } : Jvm.MethodName) prog_10_method_69_code (2 : Nat) (Option.some Jvm.ClassFile.FieldType.int)) ∈ db_gw := List.mem_filter.mpr ⟨List.mem_of_getElem? (i := 75) (by decide +kernel), by decide +kernel⟩
theorem wd_25 : (Jvm.Cond.methodLink "DeadlineBench" (194 : Nat) ({ cls := "java/lang/Math", name := "max", desc := "(II)I" } : Jvm.MethodName)) ∈ db_gw := List.mem_filter.mpr ⟨List.mem_of_getElem? (i := 76) (by decide +kernel), by decide +kernel⟩
theorem wd_26 : (Jvm.Cond.static ({ cls := "java/lang/Math", name := "max", desc := "(II)I" } : Jvm.MethodName)) ∈ db_gw := List.mem_filter.mpr ⟨List.mem_of_getElem? (i := 77) (by decide +kernel), by decide +kernel⟩
theorem wd_27 : (Jvm.Cond.code ({ cls := "java/lang/Math", name := "max", desc := "(II)I" } : Jvm.MethodName) prog_10_method_65_code (2 : Nat) (Option.some Jvm.ClassFile.FieldType.int)) ∈ db_gw := List.mem_filter.mpr ⟨List.mem_of_getElem? (i := 78) (by decide +kernel), by decide +kernel⟩
theorem wd_28 : (Jvm.Cond.classLink "DeadlineBench" (13 : Nat) "DeadlineBench$Task") ∈ db_gw := List.mem_filter.mpr ⟨List.mem_of_getElem? (i := 79) (by decide +kernel), by decide +kernel⟩
theorem wn_29 : (Jvm.Cond.arrayOver (Jvm.ClassFile.FieldType.object "DeadlineBench$Task")) ∈ lw_tbl := List.mem_of_getElem? (i := 80) (by decide +kernel)
theorem wd_30 : (Jvm.Cond.instantiable "DeadlineBench$Task" (12 : Nat)) ∈ db_gw := List.mem_filter.mpr ⟨List.mem_of_getElem? (i := 81) (by decide +kernel), by decide +kernel⟩
theorem wn_31 : (Jvm.Cond.methodLinkNest "DeadlineBench" (19 : Nat) ({ cls := "DeadlineBench$Task", name := "<init>", desc := "()V" } : Jvm.MethodName) "DeadlineBench") ∈ lw_tbl := List.mem_of_getElem? (i := 82) (by decide +kernel)
theorem wd_32 : (Jvm.Cond.instanceMethod ({ cls := "DeadlineBench$Task", name := "<init>", desc := "()V" } : Jvm.MethodName)) ∈ db_gw := List.mem_filter.mpr ⟨List.mem_of_getElem? (i := 83) (by decide +kernel), by decide +kernel⟩
theorem wd_33 : (Jvm.Cond.code ({ cls := "DeadlineBench$Task", name := "<init>", desc := "()V" } : Jvm.MethodName) prog_7_method_1_code (1 : Nat) (Option.none : Option Jvm.ClassFile.FieldType)) ∈ db_gw := List.mem_filter.mpr ⟨List.mem_of_getElem? (i := 84) (by decide +kernel), by decide +kernel⟩
theorem wd_34 : (Jvm.Cond.methodLink "DeadlineBench$Task" (1 : Nat) ({ cls := "java/lang/Object", name := "<init>", desc := "()V" } : Jvm.MethodName)) ∈ db_gw := List.mem_filter.mpr ⟨List.mem_of_getElem? (i := 85) (by decide +kernel), by decide +kernel⟩
theorem wd_35 : (Jvm.Cond.classLink "DeadlineBench$Task" (7 : Nat) "DeadlineBench$Job") ∈ db_gw := List.mem_filter.mpr ⟨List.mem_of_getElem? (i := 86) (by decide +kernel), by decide +kernel⟩
theorem wd_36 : (Jvm.Cond.instantiable "DeadlineBench$Job" (7 : Nat)) ∈ db_gw := List.mem_filter.mpr ⟨List.mem_of_getElem? (i := 87) (by decide +kernel), by decide +kernel⟩
theorem wn_37 : (Jvm.Cond.methodLinkNest "DeadlineBench$Task" (9 : Nat) ({ cls := "DeadlineBench$Job", name := "<init>", desc := "()V" } : Jvm.MethodName) "DeadlineBench") ∈ lw_tbl := List.mem_of_getElem? (i := 88) (by decide +kernel)
theorem wd_38 : (Jvm.Cond.instanceMethod ({ cls := "DeadlineBench$Job", name := "<init>", desc := "()V" } : Jvm.MethodName)) ∈ db_gw := List.mem_filter.mpr ⟨List.mem_of_getElem? (i := 89) (by decide +kernel), by decide +kernel⟩
theorem wd_39 : (Jvm.Cond.code ({ cls := "DeadlineBench$Job", name := "<init>", desc := "()V" } : Jvm.MethodName) prog_2_method_1_code (1 : Nat) (Option.none : Option Jvm.ClassFile.FieldType)) ∈ db_gw := List.mem_filter.mpr ⟨List.mem_of_getElem? (i := 90) (by decide +kernel), by decide +kernel⟩
theorem wd_40 : (Jvm.Cond.methodLink "DeadlineBench$Job" (3 : Nat) ({ cls := "java/lang/Object", name := "<init>", desc := "()V" } : Jvm.MethodName)) ∈ db_gw := List.mem_filter.mpr ⟨List.mem_of_getElem? (i := 91) (by decide +kernel), by decide +kernel⟩
theorem wd_41 : (Jvm.Cond.fieldLink "DeadlineBench$Job" (15 : Nat) "DeadlineBench$Job" "pending" "Z") ∈ db_gw := List.mem_filter.mpr ⟨List.mem_of_getElem? (i := 92) (by decide +kernel), by decide +kernel⟩
theorem wn_42 : (Jvm.Cond.fieldLinkNest "DeadlineBench" (79 : Nat) "DeadlineBench$Job" "pending" "Z" "DeadlineBench") ∈ lw_tbl := List.mem_of_getElem? (i := 93) (by decide +kernel)
theorem wn_43 : (Jvm.Cond.fieldLinkNest "DeadlineBench$Task" (55 : Nat) "DeadlineBench$Job" "pending" "Z" "DeadlineBench") ∈ lw_tbl := List.mem_of_getElem? (i := 94) (by decide +kernel)
theorem wd_44 : (Jvm.Cond.fieldLink "DeadlineBench$Job" (19 : Nat) "DeadlineBench$Job" "release" "I") ∈ db_gw := List.mem_filter.mpr ⟨List.mem_of_getElem? (i := 95) (by decide +kernel), by decide +kernel⟩
theorem wn_45 : (Jvm.Cond.fieldLinkNest "DeadlineBench$Task" (58 : Nat) "DeadlineBench$Job" "release" "I" "DeadlineBench") ∈ lw_tbl := List.mem_of_getElem? (i := 96) (by decide +kernel)
theorem wd_46 : (Jvm.Cond.fieldLink "DeadlineBench$Job" (22 : Nat) "DeadlineBench$Job" "due" "I") ∈ db_gw := List.mem_filter.mpr ⟨List.mem_of_getElem? (i := 97) (by decide +kernel), by decide +kernel⟩
theorem wn_47 : (Jvm.Cond.fieldLinkNest "DeadlineBench" (122 : Nat) "DeadlineBench$Job" "due" "I" "DeadlineBench") ∈ lw_tbl := List.mem_of_getElem? (i := 98) (by decide +kernel)
theorem wd_48 : (Jvm.Cond.fieldLink "DeadlineBench$Job" (25 : Nat) "DeadlineBench$Job" "unitsDone" "I") ∈ db_gw := List.mem_filter.mpr ⟨List.mem_of_getElem? (i := 99) (by decide +kernel), by decide +kernel⟩
theorem wn_49 : (Jvm.Cond.fieldLinkNest "DeadlineBench" (119 : Nat) "DeadlineBench$Job" "unitsDone" "I" "DeadlineBench") ∈ lw_tbl := List.mem_of_getElem? (i := 100) (by decide +kernel)
theorem wd_50 : (Jvm.Cond.fieldLink "DeadlineBench$Job" (9 : Nat) "DeadlineBench$Job" "awaitedLock" "I") ∈ db_gw := List.mem_filter.mpr ⟨List.mem_of_getElem? (i := 101) (by decide +kernel), by decide +kernel⟩
theorem wn_51 : (Jvm.Cond.fieldLinkNest "DeadlineBench" (131 : Nat) "DeadlineBench$Job" "awaitedLock" "I" "DeadlineBench") ∈ lw_tbl := List.mem_of_getElem? (i := 102) (by decide +kernel)
theorem wn_52 : (Jvm.Cond.fieldLinkNest "DeadlineBench" (128 : Nat) "DeadlineBench$Job" "effectiveDue" "I" "DeadlineBench") ∈ lw_tbl := List.mem_of_getElem? (i := 103) (by decide +kernel)
theorem wd_53 : (Jvm.Cond.fieldLink "DeadlineBench$Job" (28 : Nat) "DeadlineBench$Job" "ranInTickBefore" "Z") ∈ db_gw := List.mem_filter.mpr ⟨List.mem_of_getElem? (i := 104) (by decide +kernel), by decide +kernel⟩
theorem wn_54 : (Jvm.Cond.fieldLinkNest "DeadlineBench" (252 : Nat) "DeadlineBench$Job" "ranInTickBefore" "Z" "DeadlineBench") ∈ lw_tbl := List.mem_of_getElem? (i := 105) (by decide +kernel)
theorem wd_55 : (Jvm.Cond.lays "DeadlineBench$Job" "DeadlineBench$Job" "pending" "Z") ∈ db_gw := List.mem_filter.mpr ⟨List.mem_of_getElem? (i := 106) (by decide +kernel), by decide +kernel⟩
theorem wd_57 : (Jvm.Cond.lays "DeadlineBench$Job" "DeadlineBench$Job" "release" "I") ∈ db_gw := List.mem_filter.mpr ⟨List.mem_of_getElem? (i := 108) (by decide +kernel), by decide +kernel⟩
theorem wd_59 : (Jvm.Cond.lays "DeadlineBench$Job" "DeadlineBench$Job" "due" "I") ∈ db_gw := List.mem_filter.mpr ⟨List.mem_of_getElem? (i := 110) (by decide +kernel), by decide +kernel⟩
theorem wd_61 : (Jvm.Cond.lays "DeadlineBench$Job" "DeadlineBench$Job" "unitsDone" "I") ∈ db_gw := List.mem_filter.mpr ⟨List.mem_of_getElem? (i := 112) (by decide +kernel), by decide +kernel⟩
theorem wd_63 : (Jvm.Cond.lays "DeadlineBench$Job" "DeadlineBench$Job" "awaitedLock" "I") ∈ db_gw := List.mem_filter.mpr ⟨List.mem_of_getElem? (i := 114) (by decide +kernel), by decide +kernel⟩
theorem wd_65 : (Jvm.Cond.lays "DeadlineBench$Job" "DeadlineBench$Job" "effectiveDue" "I") ∈ db_gw := List.mem_filter.mpr ⟨List.mem_of_getElem? (i := 116) (by decide +kernel), by decide +kernel⟩
theorem wd_67 : (Jvm.Cond.lays "DeadlineBench$Job" "DeadlineBench$Job" "ranInTickBefore" "Z") ∈ db_gw := List.mem_filter.mpr ⟨List.mem_of_getElem? (i := 118) (by decide +kernel), by decide +kernel⟩
theorem wd_70 : (Jvm.Cond.fieldLink "DeadlineBench$Task" (10 : Nat) "DeadlineBench$Task" "job" "LDeadlineBench$Job;") ∈ db_gw := List.mem_filter.mpr ⟨List.mem_of_getElem? (i := 121) (by decide +kernel), by decide +kernel⟩
theorem wn_71 : (Jvm.Cond.fieldLinkNest "DeadlineBench" (75 : Nat) "DeadlineBench$Task" "job" "LDeadlineBench$Job;" "DeadlineBench") ∈ lw_tbl := List.mem_of_getElem? (i := 122) (by decide +kernel)
theorem wd_72 : (Jvm.Cond.fieldLink "DeadlineBench$Task" (16 : Nat) "DeadlineBench$Task" "live" "Z") ∈ db_gw := List.mem_filter.mpr ⟨List.mem_of_getElem? (i := 123) (by decide +kernel), by decide +kernel⟩
theorem wn_73 : (Jvm.Cond.fieldLinkNest "DeadlineBench" (57 : Nat) "DeadlineBench$Task" "live" "Z" "DeadlineBench") ∈ lw_tbl := List.mem_of_getElem? (i := 124) (by decide +kernel)
theorem wd_74 : (Jvm.Cond.fieldLink "DeadlineBench$Task" (20 : Nat) "DeadlineBench$Task" "period" "I") ∈ db_gw := List.mem_filter.mpr ⟨List.mem_of_getElem? (i := 125) (by decide +kernel), by decide +kernel⟩
theorem wn_75 : (Jvm.Cond.fieldLinkNest "DeadlineBench" (143 : Nat) "DeadlineBench$Task" "period" "I" "DeadlineBench") ∈ lw_tbl := List.mem_of_getElem? (i := 126) (by decide +kernel)
theorem wd_76 : (Jvm.Cond.fieldLink "DeadlineBench$Task" (24 : Nat) "DeadlineBench$Task" "work" "I") ∈ db_gw := List.mem_filter.mpr ⟨List.mem_of_getElem? (i := 127) (by decide +kernel), by decide +kernel⟩
theorem wn_77 : (Jvm.Cond.fieldLinkNest "DeadlineBench" (84 : Nat) "DeadlineBench$Task" "work" "I" "DeadlineBench") ∈ lw_tbl := List.mem_of_getElem? (i := 128) (by decide +kernel)
theorem wd_78 : (Jvm.Cond.fieldLink "DeadlineBench$Task" (27 : Nat) "DeadlineBench$Task" "deadline" "I") ∈ db_gw := List.mem_filter.mpr ⟨List.mem_of_getElem? (i := 129) (by decide +kernel), by decide +kernel⟩
theorem wn_79 : (Jvm.Cond.fieldLinkNest "DeadlineBench" (146 : Nat) "DeadlineBench$Task" "deadline" "I" "DeadlineBench") ∈ lw_tbl := List.mem_of_getElem? (i := 130) (by decide +kernel)
theorem wd_80 : (Jvm.Cond.fieldLink "DeadlineBench$Task" (30 : Nat) "DeadlineBench$Task" "nextRelease" "I") ∈ db_gw := List.mem_filter.mpr ⟨List.mem_of_getElem? (i := 131) (by decide +kernel), by decide +kernel⟩
theorem wn_81 : (Jvm.Cond.fieldLinkNest "DeadlineBench" (149 : Nat) "DeadlineBench$Task" "nextRelease" "I" "DeadlineBench") ∈ lw_tbl := List.mem_of_getElem? (i := 132) (by decide +kernel)
theorem wd_82 : (Jvm.Cond.fieldLink "DeadlineBench$Task" (33 : Nat) "DeadlineBench$Task" "jobsReleased" "I") ∈ db_gw := List.mem_filter.mpr ⟨List.mem_of_getElem? (i := 133) (by decide +kernel), by decide +kernel⟩
theorem wn_83 : (Jvm.Cond.fieldLinkNest "DeadlineBench" (155 : Nat) "DeadlineBench$Task" "jobsReleased" "I" "DeadlineBench") ∈ lw_tbl := List.mem_of_getElem? (i := 134) (by decide +kernel)
theorem wd_84 : (Jvm.Cond.fieldLink "DeadlineBench$Task" (36 : Nat) "DeadlineBench$Task" "jobsDone" "I") ∈ db_gw := List.mem_filter.mpr ⟨List.mem_of_getElem? (i := 135) (by decide +kernel), by decide +kernel⟩
theorem wn_85 : (Jvm.Cond.fieldLinkNest "DeadlineBench" (158 : Nat) "DeadlineBench$Task" "jobsDone" "I" "DeadlineBench") ∈ lw_tbl := List.mem_of_getElem? (i := 136) (by decide +kernel)
theorem wd_86 : (Jvm.Cond.fieldLink "DeadlineBench$Task" (39 : Nat) "DeadlineBench$Task" "jobsMissed" "I") ∈ db_gw := List.mem_filter.mpr ⟨List.mem_of_getElem? (i := 137) (by decide +kernel), by decide +kernel⟩
theorem wn_87 : (Jvm.Cond.fieldLinkNest "DeadlineBench" (161 : Nat) "DeadlineBench$Task" "jobsMissed" "I" "DeadlineBench") ∈ lw_tbl := List.mem_of_getElem? (i := 138) (by decide +kernel)
theorem wd_88 : (Jvm.Cond.fieldLink "DeadlineBench$Task" (42 : Nat) "DeadlineBench$Task" "ticksWaited" "I") ∈ db_gw := List.mem_filter.mpr ⟨List.mem_of_getElem? (i := 139) (by decide +kernel), by decide +kernel⟩
theorem wn_89 : (Jvm.Cond.fieldLinkNest "DeadlineBench" (164 : Nat) "DeadlineBench$Task" "ticksWaited" "I" "DeadlineBench") ∈ lw_tbl := List.mem_of_getElem? (i := 140) (by decide +kernel)
theorem wd_90 : (Jvm.Cond.fieldLink "DeadlineBench$Task" (45 : Nat) "DeadlineBench$Task" "timesPutBy" "I") ∈ db_gw := List.mem_filter.mpr ⟨List.mem_of_getElem? (i := 141) (by decide +kernel), by decide +kernel⟩
theorem wn_91 : (Jvm.Cond.fieldLinkNest "DeadlineBench" (167 : Nat) "DeadlineBench$Task" "timesPutBy" "I" "DeadlineBench") ∈ lw_tbl := List.mem_of_getElem? (i := 142) (by decide +kernel)
theorem wd_92 : (Jvm.Cond.fieldLink "DeadlineBench$Task" (48 : Nat) "DeadlineBench$Task" "greatestAnswer" "I") ∈ db_gw := List.mem_filter.mpr ⟨List.mem_of_getElem? (i := 143) (by decide +kernel), by decide +kernel⟩
theorem wn_93 : (Jvm.Cond.fieldLinkNest "DeadlineBench" (170 : Nat) "DeadlineBench$Task" "greatestAnswer" "I" "DeadlineBench") ∈ lw_tbl := List.mem_of_getElem? (i := 144) (by decide +kernel)
theorem wd_94 : (Jvm.Cond.laysFinal "DeadlineBench$Task" "DeadlineBench$Task" "job" "LDeadlineBench$Job;") ∈ db_gw := List.mem_filter.mpr ⟨List.mem_of_getElem? (i := 145) (by decide +kernel), by decide +kernel⟩
theorem wd_96 : (Jvm.Cond.lays "DeadlineBench$Task" "DeadlineBench$Task" "live" "Z") ∈ db_gw := List.mem_filter.mpr ⟨List.mem_of_getElem? (i := 147) (by decide +kernel), by decide +kernel⟩
theorem wd_98 : (Jvm.Cond.lays "DeadlineBench$Task" "DeadlineBench$Task" "period" "I") ∈ db_gw := List.mem_filter.mpr ⟨List.mem_of_getElem? (i := 149) (by decide +kernel), by decide +kernel⟩
theorem wd_100 : (Jvm.Cond.lays "DeadlineBench$Task" "DeadlineBench$Task" "work" "I") ∈ db_gw := List.mem_filter.mpr ⟨List.mem_of_getElem? (i := 151) (by decide +kernel), by decide +kernel⟩
theorem wd_102 : (Jvm.Cond.lays "DeadlineBench$Task" "DeadlineBench$Task" "deadline" "I") ∈ db_gw := List.mem_filter.mpr ⟨List.mem_of_getElem? (i := 153) (by decide +kernel), by decide +kernel⟩
theorem wd_104 : (Jvm.Cond.lays "DeadlineBench$Task" "DeadlineBench$Task" "nextRelease" "I") ∈ db_gw := List.mem_filter.mpr ⟨List.mem_of_getElem? (i := 155) (by decide +kernel), by decide +kernel⟩
theorem wd_106 : (Jvm.Cond.lays "DeadlineBench$Task" "DeadlineBench$Task" "jobsReleased" "I") ∈ db_gw := List.mem_filter.mpr ⟨List.mem_of_getElem? (i := 157) (by decide +kernel), by decide +kernel⟩
theorem wd_108 : (Jvm.Cond.lays "DeadlineBench$Task" "DeadlineBench$Task" "jobsDone" "I") ∈ db_gw := List.mem_filter.mpr ⟨List.mem_of_getElem? (i := 159) (by decide +kernel), by decide +kernel⟩
theorem wd_110 : (Jvm.Cond.lays "DeadlineBench$Task" "DeadlineBench$Task" "jobsMissed" "I") ∈ db_gw := List.mem_filter.mpr ⟨List.mem_of_getElem? (i := 161) (by decide +kernel), by decide +kernel⟩
theorem wd_112 : (Jvm.Cond.lays "DeadlineBench$Task" "DeadlineBench$Task" "ticksWaited" "I") ∈ db_gw := List.mem_filter.mpr ⟨List.mem_of_getElem? (i := 163) (by decide +kernel), by decide +kernel⟩
theorem wd_114 : (Jvm.Cond.lays "DeadlineBench$Task" "DeadlineBench$Task" "timesPutBy" "I") ∈ db_gw := List.mem_filter.mpr ⟨List.mem_of_getElem? (i := 165) (by decide +kernel), by decide +kernel⟩
theorem wd_116 : (Jvm.Cond.lays "DeadlineBench$Task" "DeadlineBench$Task" "greatestAnswer" "I") ∈ db_gw := List.mem_filter.mpr ⟨List.mem_of_getElem? (i := 167) (by decide +kernel), by decide +kernel⟩
theorem wd_119 : (Jvm.Cond.methodLink "DeadlineBench" (24 : Nat) ({ cls := "java/util/Arrays", name := "fill", desc := "([II)V" } : Jvm.MethodName)) ∈ db_gw := List.mem_filter.mpr ⟨List.mem_of_getElem? (i := 170) (by decide +kernel), by decide +kernel⟩
theorem wd_120 : (Jvm.Cond.static ({ cls := "java/util/Arrays", name := "fill", desc := "([II)V" } : Jvm.MethodName)) ∈ db_gw := List.mem_filter.mpr ⟨List.mem_of_getElem? (i := 171) (by decide +kernel), by decide +kernel⟩
theorem wd_121 : (Jvm.Cond.code ({ cls := "java/util/Arrays", name := "fill", desc := "([II)V" } : Jvm.MethodName) prog_11_method_103_code (4 : Nat) (Option.none : Option Jvm.ClassFile.FieldType)) ∈ db_gw := List.mem_filter.mpr ⟨List.mem_of_getElem? (i := 172) (by decide +kernel), by decide +kernel⟩
theorem wd_122 : (Jvm.Cond.classLink "DeadlineBench" (30 : Nat) "DeadlineBench$SectionList") ∈ db_gw := List.mem_filter.mpr ⟨List.mem_of_getElem? (i := 173) (by decide +kernel), by decide +kernel⟩
theorem wd_123 : (Jvm.Cond.instantiable "DeadlineBench$SectionList" (2 : Nat)) ∈ db_gw := List.mem_filter.mpr ⟨List.mem_of_getElem? (i := 174) (by decide +kernel), by decide +kernel⟩
theorem wn_124 : (Jvm.Cond.methodLinkNest "DeadlineBench" (32 : Nat) ({ cls := "DeadlineBench$SectionList", name := "<init>", desc := "(I)V" } : Jvm.MethodName) "DeadlineBench") ∈ lw_tbl := List.mem_of_getElem? (i := 175) (by decide +kernel)
theorem wd_125 : (Jvm.Cond.instanceMethod ({ cls := "DeadlineBench$SectionList", name := "<init>", desc := "(I)V" } : Jvm.MethodName)) ∈ db_gw := List.mem_filter.mpr ⟨List.mem_of_getElem? (i := 176) (by decide +kernel), by decide +kernel⟩
theorem wd_126 : (Jvm.Cond.code ({ cls := "DeadlineBench$SectionList", name := "<init>", desc := "(I)V" } : Jvm.MethodName) prog_6_method_1_code (2 : Nat) (Option.none : Option Jvm.ClassFile.FieldType)) ∈ db_gw := List.mem_filter.mpr ⟨List.mem_of_getElem? (i := 177) (by decide +kernel), by decide +kernel⟩
theorem wd_127 : (Jvm.Cond.methodLink "DeadlineBench$SectionList" (1 : Nat) ({ cls := "java/lang/Object", name := "<init>", desc := "()V" } : Jvm.MethodName)) ∈ db_gw := List.mem_filter.mpr ⟨List.mem_of_getElem? (i := 178) (by decide +kernel), by decide +kernel⟩
theorem wd_128 : (Jvm.Cond.classLink "DeadlineBench$SectionList" (7 : Nat) "DeadlineBench$Section") ∈ db_gw := List.mem_filter.mpr ⟨List.mem_of_getElem? (i := 179) (by decide +kernel), by decide +kernel⟩
theorem wn_129 : (Jvm.Cond.arrayOver (Jvm.ClassFile.FieldType.object "DeadlineBench$Section")) ∈ lw_tbl := List.mem_of_getElem? (i := 180) (by decide +kernel)
theorem wd_130 : (Jvm.Cond.fieldLink "DeadlineBench$SectionList" (9 : Nat) "DeadlineBench$SectionList" "rows" "[LDeadlineBench$Section;") ∈ db_gw := List.mem_filter.mpr ⟨List.mem_of_getElem? (i := 181) (by decide +kernel), by decide +kernel⟩
theorem wn_131 : (Jvm.Cond.fieldLinkNest "DeadlineBench" (227 : Nat) "DeadlineBench$SectionList" "rows" "[LDeadlineBench$Section;" "DeadlineBench") ∈ lw_tbl := List.mem_of_getElem? (i := 182) (by decide +kernel)
theorem wd_132 : (Jvm.Cond.fieldLink "DeadlineBench$SectionList" (15 : Nat) "DeadlineBench$SectionList" "size" "I") ∈ db_gw := List.mem_filter.mpr ⟨List.mem_of_getElem? (i := 183) (by decide +kernel), by decide +kernel⟩
theorem wn_133 : (Jvm.Cond.fieldLinkNest "DeadlineBench" (179 : Nat) "DeadlineBench$SectionList" "size" "I" "DeadlineBench") ∈ lw_tbl := List.mem_of_getElem? (i := 184) (by decide +kernel)
theorem wd_134 : (Jvm.Cond.laysFinal "DeadlineBench$SectionList" "DeadlineBench$SectionList" "rows" "[LDeadlineBench$Section;") ∈ db_gw := List.mem_filter.mpr ⟨List.mem_of_getElem? (i := 185) (by decide +kernel), by decide +kernel⟩
theorem wd_136 : (Jvm.Cond.lays "DeadlineBench$SectionList" "DeadlineBench$SectionList" "size" "I") ∈ db_gw := List.mem_filter.mpr ⟨List.mem_of_getElem? (i := 187) (by decide +kernel), by decide +kernel⟩
theorem wd_139 : (Jvm.Cond.arrayClass Jvm.ClassFile.FieldType.int) ∈ db_gw := List.mem_filter.mpr ⟨List.mem_of_getElem? (i := 190) (by decide +kernel), by decide +kernel⟩
theorem wd_140 : (Jvm.Cond.classLink "DeadlineBench" (39 : Nat) "DeadlineBench$MissLog") ∈ db_gw := List.mem_filter.mpr ⟨List.mem_of_getElem? (i := 191) (by decide +kernel), by decide +kernel⟩
theorem wd_141 : (Jvm.Cond.instantiable "DeadlineBench$MissLog" (3 : Nat)) ∈ db_gw := List.mem_filter.mpr ⟨List.mem_of_getElem? (i := 192) (by decide +kernel), by decide +kernel⟩
theorem wn_142 : (Jvm.Cond.methodLinkNest "DeadlineBench" (41 : Nat) ({ cls := "DeadlineBench$MissLog", name := "<init>", desc := "(I)V" } : Jvm.MethodName) "DeadlineBench") ∈ lw_tbl := List.mem_of_getElem? (i := 193) (by decide +kernel)
theorem wd_143 : (Jvm.Cond.instanceMethod ({ cls := "DeadlineBench$MissLog", name := "<init>", desc := "(I)V" } : Jvm.MethodName)) ∈ db_gw := List.mem_filter.mpr ⟨List.mem_of_getElem? (i := 194) (by decide +kernel), by decide +kernel⟩
theorem wd_144 : (Jvm.Cond.code ({ cls := "DeadlineBench$MissLog", name := "<init>", desc := "(I)V" } : Jvm.MethodName) prog_3_method_1_code (2 : Nat) (Option.none : Option Jvm.ClassFile.FieldType)) ∈ db_gw := List.mem_filter.mpr ⟨List.mem_of_getElem? (i := 195) (by decide +kernel), by decide +kernel⟩
theorem wd_145 : (Jvm.Cond.methodLink "DeadlineBench$MissLog" (1 : Nat) ({ cls := "java/lang/Object", name := "<init>", desc := "()V" } : Jvm.MethodName)) ∈ db_gw := List.mem_filter.mpr ⟨List.mem_of_getElem? (i := 196) (by decide +kernel), by decide +kernel⟩
theorem wd_146 : (Jvm.Cond.fieldLink "DeadlineBench$MissLog" (7 : Nat) "DeadlineBench$MissLog" "numbers" "[I") ∈ db_gw := List.mem_filter.mpr ⟨List.mem_of_getElem? (i := 197) (by decide +kernel), by decide +kernel⟩
theorem wn_147 : (Jvm.Cond.fieldLinkNest "DeadlineBench" (137 : Nat) "DeadlineBench$MissLog" "numbers" "[I" "DeadlineBench") ∈ lw_tbl := List.mem_of_getElem? (i := 198) (by decide +kernel)
theorem wd_148 : (Jvm.Cond.fieldLink "DeadlineBench$MissLog" (13 : Nat) "DeadlineBench$MissLog" "times" "[I") ∈ db_gw := List.mem_filter.mpr ⟨List.mem_of_getElem? (i := 199) (by decide +kernel), by decide +kernel⟩
theorem wn_149 : (Jvm.Cond.fieldLinkNest "DeadlineBench" (140 : Nat) "DeadlineBench$MissLog" "times" "[I" "DeadlineBench") ∈ lw_tbl := List.mem_of_getElem? (i := 200) (by decide +kernel)
theorem wd_150 : (Jvm.Cond.fieldLink "DeadlineBench$MissLog" (16 : Nat) "DeadlineBench$MissLog" "total" "I") ∈ db_gw := List.mem_filter.mpr ⟨List.mem_of_getElem? (i := 201) (by decide +kernel), by decide +kernel⟩
theorem wn_151 : (Jvm.Cond.fieldLinkNest "DeadlineBench" (109 : Nat) "DeadlineBench$MissLog" "total" "I" "DeadlineBench") ∈ lw_tbl := List.mem_of_getElem? (i := 202) (by decide +kernel)
theorem wd_152 : (Jvm.Cond.laysFinal "DeadlineBench$MissLog" "DeadlineBench$MissLog" "numbers" "[I") ∈ db_gw := List.mem_filter.mpr ⟨List.mem_of_getElem? (i := 203) (by decide +kernel), by decide +kernel⟩
theorem wd_154 : (Jvm.Cond.laysFinal "DeadlineBench$MissLog" "DeadlineBench$MissLog" "times" "[I") ∈ db_gw := List.mem_filter.mpr ⟨List.mem_of_getElem? (i := 205) (by decide +kernel), by decide +kernel⟩
theorem wd_156 : (Jvm.Cond.lays "DeadlineBench$MissLog" "DeadlineBench$MissLog" "total" "I") ∈ db_gw := List.mem_filter.mpr ⟨List.mem_of_getElem? (i := 207) (by decide +kernel), by decide +kernel⟩
theorem wd_159 : (Jvm.Cond.classLink "DeadlineBench" (46 : Nat) "DeadlineBench$RunHistory") ∈ db_gw := List.mem_filter.mpr ⟨List.mem_of_getElem? (i := 210) (by decide +kernel), by decide +kernel⟩
theorem wd_160 : (Jvm.Cond.instantiable "DeadlineBench$RunHistory" (2 : Nat)) ∈ db_gw := List.mem_filter.mpr ⟨List.mem_of_getElem? (i := 211) (by decide +kernel), by decide +kernel⟩
theorem wn_161 : (Jvm.Cond.methodLinkNest "DeadlineBench" (48 : Nat) ({ cls := "DeadlineBench$RunHistory", name := "<init>", desc := "()V" } : Jvm.MethodName) "DeadlineBench") ∈ lw_tbl := List.mem_of_getElem? (i := 212) (by decide +kernel)
theorem wd_162 : (Jvm.Cond.instanceMethod ({ cls := "DeadlineBench$RunHistory", name := "<init>", desc := "()V" } : Jvm.MethodName)) ∈ db_gw := List.mem_filter.mpr ⟨List.mem_of_getElem? (i := 213) (by decide +kernel), by decide +kernel⟩
theorem wd_163 : (Jvm.Cond.code ({ cls := "DeadlineBench$RunHistory", name := "<init>", desc := "()V" } : Jvm.MethodName) prog_4_method_1_code (1 : Nat) (Option.none : Option Jvm.ClassFile.FieldType)) ∈ db_gw := List.mem_filter.mpr ⟨List.mem_of_getElem? (i := 214) (by decide +kernel), by decide +kernel⟩
theorem wd_164 : (Jvm.Cond.methodLink "DeadlineBench$RunHistory" (3 : Nat) ({ cls := "java/lang/Object", name := "<init>", desc := "()V" } : Jvm.MethodName)) ∈ db_gw := List.mem_filter.mpr ⟨List.mem_of_getElem? (i := 215) (by decide +kernel), by decide +kernel⟩
theorem wd_165 : (Jvm.Cond.fieldLink "DeadlineBench$RunHistory" (9 : Nat) "DeadlineBench$RunHistory" "runners" "[I") ∈ db_gw := List.mem_filter.mpr ⟨List.mem_of_getElem? (i := 216) (by decide +kernel), by decide +kernel⟩
theorem wd_166 : (Jvm.Cond.fieldLink "DeadlineBench$RunHistory" (15 : Nat) "DeadlineBench$RunHistory" "total" "I") ∈ db_gw := List.mem_filter.mpr ⟨List.mem_of_getElem? (i := 217) (by decide +kernel), by decide +kernel⟩
theorem wd_167 : (Jvm.Cond.laysFinal "DeadlineBench$RunHistory" "DeadlineBench$RunHistory" "runners" "[I") ∈ db_gw := List.mem_filter.mpr ⟨List.mem_of_getElem? (i := 218) (by decide +kernel), by decide +kernel⟩
theorem wd_169 : (Jvm.Cond.lays "DeadlineBench$RunHistory" "DeadlineBench$RunHistory" "total" "I") ∈ db_gw := List.mem_filter.mpr ⟨List.mem_of_getElem? (i := 220) (by decide +kernel), by decide +kernel⟩
theorem wd_172 : (Jvm.Cond.fieldLink "DeadlineBench" (15 : Nat) "DeadlineBench" "tasks" "[LDeadlineBench$Task;") ∈ db_gw := List.mem_filter.mpr ⟨List.mem_of_getElem? (i := 223) (by decide +kernel), by decide +kernel⟩
theorem wd_173 : (Jvm.Cond.fieldLink "DeadlineBench" (20 : Nat) "DeadlineBench" "holders" "[I") ∈ db_gw := List.mem_filter.mpr ⟨List.mem_of_getElem? (i := 224) (by decide +kernel), by decide +kernel⟩
theorem wd_174 : (Jvm.Cond.fieldLink "DeadlineBench" (35 : Nat) "DeadlineBench" "sections" "LDeadlineBench$SectionList;") ∈ db_gw := List.mem_filter.mpr ⟨List.mem_of_getElem? (i := 225) (by decide +kernel), by decide +kernel⟩
theorem wd_175 : (Jvm.Cond.fieldLink "DeadlineBench" (42 : Nat) "DeadlineBench" "misses" "LDeadlineBench$MissLog;") ∈ db_gw := List.mem_filter.mpr ⟨List.mem_of_getElem? (i := 226) (by decide +kernel), by decide +kernel⟩
theorem wd_176 : (Jvm.Cond.fieldLink "DeadlineBench" (49 : Nat) "DeadlineBench" "history" "LDeadlineBench$RunHistory;") ∈ db_gw := List.mem_filter.mpr ⟨List.mem_of_getElem? (i := 227) (by decide +kernel), by decide +kernel⟩
theorem wd_177 : (Jvm.Cond.fieldLink "DeadlineBench" (53 : Nat) "DeadlineBench" "last" "I") ∈ db_gw := List.mem_filter.mpr ⟨List.mem_of_getElem? (i := 228) (by decide +kernel), by decide +kernel⟩
theorem wd_178 : (Jvm.Cond.fieldLink "DeadlineBench" (61 : Nat) "DeadlineBench" "now" "I") ∈ db_gw := List.mem_filter.mpr ⟨List.mem_of_getElem? (i := 229) (by decide +kernel), by decide +kernel⟩
theorem wd_179 : (Jvm.Cond.fieldLink "DeadlineBench" (185 : Nat) "DeadlineBench" "idleTicks" "I") ∈ db_gw := List.mem_filter.mpr ⟨List.mem_of_getElem? (i := 230) (by decide +kernel), by decide +kernel⟩
theorem wd_180 : (Jvm.Cond.laysFinal "DeadlineBench" "DeadlineBench" "tasks" "[LDeadlineBench$Task;") ∈ db_gw := List.mem_filter.mpr ⟨List.mem_of_getElem? (i := 231) (by decide +kernel), by decide +kernel⟩
theorem wd_182 : (Jvm.Cond.laysFinal "DeadlineBench" "DeadlineBench" "holders" "[I") ∈ db_gw := List.mem_filter.mpr ⟨List.mem_of_getElem? (i := 233) (by decide +kernel), by decide +kernel⟩
theorem wd_184 : (Jvm.Cond.laysFinal "DeadlineBench" "DeadlineBench" "sections" "LDeadlineBench$SectionList;") ∈ db_gw := List.mem_filter.mpr ⟨List.mem_of_getElem? (i := 235) (by decide +kernel), by decide +kernel⟩
theorem wd_186 : (Jvm.Cond.laysFinal "DeadlineBench" "DeadlineBench" "misses" "LDeadlineBench$MissLog;") ∈ db_gw := List.mem_filter.mpr ⟨List.mem_of_getElem? (i := 237) (by decide +kernel), by decide +kernel⟩
theorem wd_188 : (Jvm.Cond.laysFinal "DeadlineBench" "DeadlineBench" "history" "LDeadlineBench$RunHistory;") ∈ db_gw := List.mem_filter.mpr ⟨List.mem_of_getElem? (i := 239) (by decide +kernel), by decide +kernel⟩
theorem wd_190 : (Jvm.Cond.laysFinal "DeadlineBench" "DeadlineBench" "last" "I") ∈ db_gw := List.mem_filter.mpr ⟨List.mem_of_getElem? (i := 241) (by decide +kernel), by decide +kernel⟩
theorem wd_192 : (Jvm.Cond.lays "DeadlineBench" "DeadlineBench" "now" "I") ∈ db_gw := List.mem_filter.mpr ⟨List.mem_of_getElem? (i := 243) (by decide +kernel), by decide +kernel⟩
theorem wd_194 : (Jvm.Cond.lays "DeadlineBench" "DeadlineBench" "idleTicks" "I") ∈ db_gw := List.mem_filter.mpr ⟨List.mem_of_getElem? (i := 245) (by decide +kernel), by decide +kernel⟩
theorem wd_197 : (Jvm.Cond.methodLink "DeadlineBenchLaw" (21 : Nat) ({ cls := "DeadlineBench", name := "addTask", desc := "(III)I" } : Jvm.MethodName)) ∈ db_gw := List.mem_filter.mpr ⟨List.mem_of_getElem? (i := 248) (by decide +kernel), by decide +kernel⟩
theorem wd_198 : (Jvm.Cond.instanceMethod ({ cls := "DeadlineBench", name := "addTask", desc := "(III)I" } : Jvm.MethodName)) ∈ db_gw := List.mem_filter.mpr ⟨List.mem_of_getElem? (i := 249) (by decide +kernel), by decide +kernel⟩
theorem wd_199 : (Jvm.Cond.selects "DeadlineBench" ({ cls := "DeadlineBench", name := "addTask", desc := "(III)I" } : Jvm.MethodName) ({ cls := "DeadlineBench", name := "addTask", desc := "(III)I" } : Jvm.MethodName)) ∈ db_gw := List.mem_filter.mpr ⟨List.mem_of_getElem? (i := 250) (by decide +kernel), by decide +kernel⟩
theorem wd_200 : (Jvm.Cond.code ({ cls := "DeadlineBench", name := "addTask", desc := "(III)I" } : Jvm.MethodName) prog_1_method_2_code (6 : Nat) (Option.some Jvm.ClassFile.FieldType.int)) ∈ db_gw := List.mem_filter.mpr ⟨List.mem_of_getElem? (i := 251) (by decide +kernel), by decide +kernel⟩
theorem wn_201 : (Jvm.Cond.methodLinkNest "DeadlineBench" (64 : Nat) ({ cls := "DeadlineBench$Task", name := "enter", desc := "(IIII)V" } : Jvm.MethodName) "DeadlineBench") ∈ lw_tbl := List.mem_of_getElem? (i := 252) (by decide +kernel)
theorem wd_203 : (Jvm.Cond.instanceMethod ({ cls := "DeadlineBench$Task", name := "enter", desc := "(IIII)V" } : Jvm.MethodName)) ∈ db_gw := List.mem_filter.mpr ⟨List.mem_of_getElem? (i := 254) (by decide +kernel), by decide +kernel⟩
theorem wd_204 : (Jvm.Cond.code ({ cls := "DeadlineBench$Task", name := "enter", desc := "(IIII)V" } : Jvm.MethodName) prog_7_method_2_code (5 : Nat) (Option.none : Option Jvm.ClassFile.FieldType)) ∈ db_gw := List.mem_filter.mpr ⟨List.mem_of_getElem? (i := 255) (by decide +kernel), by decide +kernel⟩
theorem wd_205 : (Jvm.Cond.methodLink "DeadlineBenchLaw" (26 : Nat) ({ cls := "DeadlineBench", name := "addSection", desc := "(IIII)Z" } : Jvm.MethodName)) ∈ db_gw := List.mem_filter.mpr ⟨List.mem_of_getElem? (i := 256) (by decide +kernel), by decide +kernel⟩
theorem wd_206 : (Jvm.Cond.instanceMethod ({ cls := "DeadlineBench", name := "addSection", desc := "(IIII)Z" } : Jvm.MethodName)) ∈ db_gw := List.mem_filter.mpr ⟨List.mem_of_getElem? (i := 257) (by decide +kernel), by decide +kernel⟩
theorem wd_207 : (Jvm.Cond.selects "DeadlineBench" ({ cls := "DeadlineBench", name := "addSection", desc := "(IIII)Z" } : Jvm.MethodName) ({ cls := "DeadlineBench", name := "addSection", desc := "(IIII)Z" } : Jvm.MethodName)) ∈ db_gw := List.mem_filter.mpr ⟨List.mem_of_getElem? (i := 258) (by decide +kernel), by decide +kernel⟩
theorem wd_208 : (Jvm.Cond.code ({ cls := "DeadlineBench", name := "addSection", desc := "(IIII)Z" } : Jvm.MethodName) prog_1_method_3_code (5 : Nat) (Option.some Jvm.ClassFile.FieldType.boolean)) ∈ db_gw := List.mem_filter.mpr ⟨List.mem_of_getElem? (i := 259) (by decide +kernel), by decide +kernel⟩
theorem wd_209 : (Jvm.Cond.methodLink "DeadlineBench" (68 : Nat) ({ cls := "DeadlineBench", name := "isLive", desc := "(I)Z" } : Jvm.MethodName)) ∈ db_gw := List.mem_filter.mpr ⟨List.mem_of_getElem? (i := 260) (by decide +kernel), by decide +kernel⟩
theorem wd_211 : (Jvm.Cond.instanceMethod ({ cls := "DeadlineBench", name := "isLive", desc := "(I)Z" } : Jvm.MethodName)) ∈ db_gw := List.mem_filter.mpr ⟨List.mem_of_getElem? (i := 262) (by decide +kernel), by decide +kernel⟩
theorem wd_212 : (Jvm.Cond.code ({ cls := "DeadlineBench", name := "isLive", desc := "(I)Z" } : Jvm.MethodName) prog_1_method_20_code (2 : Nat) (Option.some Jvm.ClassFile.FieldType.boolean)) ∈ db_gw := List.mem_filter.mpr ⟨List.mem_of_getElem? (i := 263) (by decide +kernel), by decide +kernel⟩
theorem wd_213 : (Jvm.Cond.methodLink "DeadlineBench" (72 : Nat) ({ cls := "DeadlineBench", name := "isLock", desc := "(I)Z" } : Jvm.MethodName)) ∈ db_gw := List.mem_filter.mpr ⟨List.mem_of_getElem? (i := 264) (by decide +kernel), by decide +kernel⟩
theorem wd_215 : (Jvm.Cond.instanceMethod ({ cls := "DeadlineBench", name := "isLock", desc := "(I)Z" } : Jvm.MethodName)) ∈ db_gw := List.mem_filter.mpr ⟨List.mem_of_getElem? (i := 266) (by decide +kernel), by decide +kernel⟩
theorem wd_216 : (Jvm.Cond.code ({ cls := "DeadlineBench", name := "isLock", desc := "(I)Z" } : Jvm.MethodName) prog_1_method_22_code (2 : Nat) (Option.some Jvm.ClassFile.FieldType.boolean)) ∈ db_gw := List.mem_filter.mpr ⟨List.mem_of_getElem? (i := 267) (by decide +kernel), by decide +kernel⟩
theorem wd_217 : (Jvm.Cond.classLink "DeadlineBench" (87 : Nat) "DeadlineBench$Section") ∈ db_gw := List.mem_filter.mpr ⟨List.mem_of_getElem? (i := 268) (by decide +kernel), by decide +kernel⟩
theorem wd_218 : (Jvm.Cond.instantiable "DeadlineBench$Section" (5 : Nat)) ∈ db_gw := List.mem_filter.mpr ⟨List.mem_of_getElem? (i := 269) (by decide +kernel), by decide +kernel⟩
theorem wn_219 : (Jvm.Cond.methodLinkNest "DeadlineBench" (89 : Nat) ({ cls := "DeadlineBench$Section", name := "<init>", desc := "(IIII)V" } : Jvm.MethodName) "DeadlineBench") ∈ lw_tbl := List.mem_of_getElem? (i := 270) (by decide +kernel)
theorem wd_220 : (Jvm.Cond.instanceMethod ({ cls := "DeadlineBench$Section", name := "<init>", desc := "(IIII)V" } : Jvm.MethodName)) ∈ db_gw := List.mem_filter.mpr ⟨List.mem_of_getElem? (i := 271) (by decide +kernel), by decide +kernel⟩
theorem wd_221 : (Jvm.Cond.code ({ cls := "DeadlineBench$Section", name := "<init>", desc := "(IIII)V" } : Jvm.MethodName) prog_5_method_1_code (5 : Nat) (Option.none : Option Jvm.ClassFile.FieldType)) ∈ db_gw := List.mem_filter.mpr ⟨List.mem_of_getElem? (i := 272) (by decide +kernel), by decide +kernel⟩
theorem wd_222 : (Jvm.Cond.methodLink "DeadlineBench$Section" (1 : Nat) ({ cls := "java/lang/Object", name := "<init>", desc := "()V" } : Jvm.MethodName)) ∈ db_gw := List.mem_filter.mpr ⟨List.mem_of_getElem? (i := 273) (by decide +kernel), by decide +kernel⟩
theorem wd_223 : (Jvm.Cond.fieldLink "DeadlineBench$Section" (7 : Nat) "DeadlineBench$Section" "task" "I") ∈ db_gw := List.mem_filter.mpr ⟨List.mem_of_getElem? (i := 274) (by decide +kernel), by decide +kernel⟩
theorem wn_224 : (Jvm.Cond.fieldLinkNest "DeadlineBench$SectionList" (29 : Nat) "DeadlineBench$Section" "task" "I" "DeadlineBench") ∈ lw_tbl := List.mem_of_getElem? (i := 275) (by decide +kernel)
theorem wn_225 : (Jvm.Cond.fieldLinkNest "DeadlineBench" (231 : Nat) "DeadlineBench$Section" "task" "I" "DeadlineBench") ∈ lw_tbl := List.mem_of_getElem? (i := 276) (by decide +kernel)
theorem wd_226 : (Jvm.Cond.fieldLink "DeadlineBench$Section" (13 : Nat) "DeadlineBench$Section" "begin" "I") ∈ db_gw := List.mem_filter.mpr ⟨List.mem_of_getElem? (i := 277) (by decide +kernel), by decide +kernel⟩
theorem wn_227 : (Jvm.Cond.fieldLinkNest "DeadlineBench" (234 : Nat) "DeadlineBench$Section" "begin" "I" "DeadlineBench") ∈ lw_tbl := List.mem_of_getElem? (i := 278) (by decide +kernel)
theorem wd_228 : (Jvm.Cond.fieldLink "DeadlineBench$Section" (16 : Nat) "DeadlineBench$Section" "lock" "I") ∈ db_gw := List.mem_filter.mpr ⟨List.mem_of_getElem? (i := 279) (by decide +kernel), by decide +kernel⟩
theorem wn_229 : (Jvm.Cond.fieldLinkNest "DeadlineBench" (237 : Nat) "DeadlineBench$Section" "lock" "I" "DeadlineBench") ∈ lw_tbl := List.mem_of_getElem? (i := 280) (by decide +kernel)
theorem wd_230 : (Jvm.Cond.fieldLink "DeadlineBench$Section" (19 : Nat) "DeadlineBench$Section" "length" "I") ∈ db_gw := List.mem_filter.mpr ⟨List.mem_of_getElem? (i := 281) (by decide +kernel), by decide +kernel⟩
theorem wd_231 : (Jvm.Cond.fieldLink "DeadlineBench$Section" (22 : Nat) "DeadlineBench$Section" "end" "I") ∈ db_gw := List.mem_filter.mpr ⟨List.mem_of_getElem? (i := 282) (by decide +kernel), by decide +kernel⟩
theorem wn_232 : (Jvm.Cond.fieldLinkNest "DeadlineBench" (240 : Nat) "DeadlineBench$Section" "end" "I" "DeadlineBench") ∈ lw_tbl := List.mem_of_getElem? (i := 283) (by decide +kernel)
theorem wd_233 : (Jvm.Cond.laysFinal "DeadlineBench$Section" "DeadlineBench$Section" "task" "I") ∈ db_gw := List.mem_filter.mpr ⟨List.mem_of_getElem? (i := 284) (by decide +kernel), by decide +kernel⟩
theorem wd_235 : (Jvm.Cond.laysFinal "DeadlineBench$Section" "DeadlineBench$Section" "begin" "I") ∈ db_gw := List.mem_filter.mpr ⟨List.mem_of_getElem? (i := 286) (by decide +kernel), by decide +kernel⟩
theorem wd_237 : (Jvm.Cond.laysFinal "DeadlineBench$Section" "DeadlineBench$Section" "lock" "I") ∈ db_gw := List.mem_filter.mpr ⟨List.mem_of_getElem? (i := 288) (by decide +kernel), by decide +kernel⟩
theorem wd_239 : (Jvm.Cond.laysFinal "DeadlineBench$Section" "DeadlineBench$Section" "length" "I") ∈ db_gw := List.mem_filter.mpr ⟨List.mem_of_getElem? (i := 290) (by decide +kernel), by decide +kernel⟩
theorem wd_241 : (Jvm.Cond.laysFinal "DeadlineBench$Section" "DeadlineBench$Section" "end" "I") ∈ db_gw := List.mem_filter.mpr ⟨List.mem_of_getElem? (i := 292) (by decide +kernel), by decide +kernel⟩
theorem wn_244 : (Jvm.Cond.methodLinkNest "DeadlineBench" (91 : Nat) ({ cls := "DeadlineBench$SectionList", name := "insert", desc := "(LDeadlineBench$Section;)Z" } : Jvm.MethodName) "DeadlineBench") ∈ lw_tbl := List.mem_of_getElem? (i := 295) (by decide +kernel)
theorem wd_246 : (Jvm.Cond.instanceMethod ({ cls := "DeadlineBench$SectionList", name := "insert", desc := "(LDeadlineBench$Section;)Z" } : Jvm.MethodName)) ∈ db_gw := List.mem_filter.mpr ⟨List.mem_of_getElem? (i := 297) (by decide +kernel), by decide +kernel⟩
theorem wd_247 : (Jvm.Cond.code ({ cls := "DeadlineBench$SectionList", name := "insert", desc := "(LDeadlineBench$Section;)Z" } : Jvm.MethodName) prog_6_method_2_code (3 : Nat) (Option.some Jvm.ClassFile.FieldType.boolean)) ∈ db_gw := List.mem_filter.mpr ⟨List.mem_of_getElem? (i := 298) (by decide +kernel), by decide +kernel⟩
theorem wd_248 : (Jvm.Cond.methodLink "DeadlineBench$SectionList" (19 : Nat) ({ cls := "DeadlineBench$SectionList", name := "clashes", desc := "(LDeadlineBench$Section;)Z" } : Jvm.MethodName)) ∈ db_gw := List.mem_filter.mpr ⟨List.mem_of_getElem? (i := 299) (by decide +kernel), by decide +kernel⟩
theorem wd_250 : (Jvm.Cond.instanceMethod ({ cls := "DeadlineBench$SectionList", name := "clashes", desc := "(LDeadlineBench$Section;)Z" } : Jvm.MethodName)) ∈ db_gw := List.mem_filter.mpr ⟨List.mem_of_getElem? (i := 301) (by decide +kernel), by decide +kernel⟩
theorem wd_251 : (Jvm.Cond.code ({ cls := "DeadlineBench$SectionList", name := "clashes", desc := "(LDeadlineBench$Section;)Z" } : Jvm.MethodName) prog_6_method_3_code (3 : Nat) (Option.some Jvm.ClassFile.FieldType.boolean)) ∈ db_gw := List.mem_filter.mpr ⟨List.mem_of_getElem? (i := 302) (by decide +kernel), by decide +kernel⟩
theorem wn_252 : (Jvm.Cond.methodLinkNest "DeadlineBench$SectionList" (26 : Nat) ({ cls := "DeadlineBench$Section", name := "clashesWith", desc := "(LDeadlineBench$Section;)Z" } : Jvm.MethodName) "DeadlineBench") ∈ lw_tbl := List.mem_of_getElem? (i := 303) (by decide +kernel)
theorem wd_254 : (Jvm.Cond.instanceMethod ({ cls := "DeadlineBench$Section", name := "clashesWith", desc := "(LDeadlineBench$Section;)Z" } : Jvm.MethodName)) ∈ db_gw := List.mem_filter.mpr ⟨List.mem_of_getElem? (i := 305) (by decide +kernel), by decide +kernel⟩
theorem wd_255 : (Jvm.Cond.code ({ cls := "DeadlineBench$Section", name := "clashesWith", desc := "(LDeadlineBench$Section;)Z" } : Jvm.MethodName) prog_5_method_3_code (4 : Nat) (Option.some Jvm.ClassFile.FieldType.boolean)) ∈ db_gw := List.mem_filter.mpr ⟨List.mem_of_getElem? (i := 306) (by decide +kernel), by decide +kernel⟩
theorem wd_256 : (Jvm.Cond.methodLink "DeadlineBench$Section" (25 : Nat) ({ cls := "DeadlineBench$Section", name := "covers", desc := "(LDeadlineBench$Section;)Z" } : Jvm.MethodName)) ∈ db_gw := List.mem_filter.mpr ⟨List.mem_of_getElem? (i := 307) (by decide +kernel), by decide +kernel⟩
theorem wd_258 : (Jvm.Cond.instanceMethod ({ cls := "DeadlineBench$Section", name := "covers", desc := "(LDeadlineBench$Section;)Z" } : Jvm.MethodName)) ∈ db_gw := List.mem_filter.mpr ⟨List.mem_of_getElem? (i := 309) (by decide +kernel), by decide +kernel⟩
theorem wd_259 : (Jvm.Cond.code ({ cls := "DeadlineBench$Section", name := "covers", desc := "(LDeadlineBench$Section;)Z" } : Jvm.MethodName) prog_5_method_2_code (2 : Nat) (Option.some Jvm.ClassFile.FieldType.boolean)) ∈ db_gw := List.mem_filter.mpr ⟨List.mem_of_getElem? (i := 310) (by decide +kernel), by decide +kernel⟩
theorem wn_260 : (Jvm.Cond.methodLinkNest "DeadlineBench$SectionList" (23 : Nat) ({ cls := "DeadlineBench$Section", name := "goesBefore", desc := "(LDeadlineBench$Section;)Z" } : Jvm.MethodName) "DeadlineBench") ∈ lw_tbl := List.mem_of_getElem? (i := 311) (by decide +kernel)
theorem wd_262 : (Jvm.Cond.instanceMethod ({ cls := "DeadlineBench$Section", name := "goesBefore", desc := "(LDeadlineBench$Section;)Z" } : Jvm.MethodName)) ∈ db_gw := List.mem_filter.mpr ⟨List.mem_of_getElem? (i := 313) (by decide +kernel), by decide +kernel⟩
theorem wd_263 : (Jvm.Cond.code ({ cls := "DeadlineBench$Section", name := "goesBefore", desc := "(LDeadlineBench$Section;)Z" } : Jvm.MethodName) prog_5_method_4_code (2 : Nat) (Option.some Jvm.ClassFile.FieldType.boolean)) ∈ db_gw := List.mem_filter.mpr ⟨List.mem_of_getElem? (i := 314) (by decide +kernel), by decide +kernel⟩
theorem wd_264 : (Jvm.Cond.methodLink "DeadlineBenchLaw" (31 : Nat) ({ cls := "DeadlineBench", name := "removeTask", desc := "(I)Z" } : Jvm.MethodName)) ∈ db_gw := List.mem_filter.mpr ⟨List.mem_of_getElem? (i := 315) (by decide +kernel), by decide +kernel⟩
theorem wd_265 : (Jvm.Cond.instanceMethod ({ cls := "DeadlineBench", name := "removeTask", desc := "(I)Z" } : Jvm.MethodName)) ∈ db_gw := List.mem_filter.mpr ⟨List.mem_of_getElem? (i := 316) (by decide +kernel), by decide +kernel⟩
theorem wd_266 : (Jvm.Cond.selects "DeadlineBench" ({ cls := "DeadlineBench", name := "removeTask", desc := "(I)Z" } : Jvm.MethodName) ({ cls := "DeadlineBench", name := "removeTask", desc := "(I)Z" } : Jvm.MethodName)) ∈ db_gw := List.mem_filter.mpr ⟨List.mem_of_getElem? (i := 317) (by decide +kernel), by decide +kernel⟩
theorem wd_267 : (Jvm.Cond.code ({ cls := "DeadlineBench", name := "removeTask", desc := "(I)Z" } : Jvm.MethodName) prog_1_method_4_code (2 : Nat) (Option.some Jvm.ClassFile.FieldType.boolean)) ∈ db_gw := List.mem_filter.mpr ⟨List.mem_of_getElem? (i := 318) (by decide +kernel), by decide +kernel⟩
theorem wd_268 : (Jvm.Cond.methodLink "DeadlineBench" (95 : Nat) ({ cls := "DeadlineBench", name := "dropJob", desc := "(I)V" } : Jvm.MethodName)) ∈ db_gw := List.mem_filter.mpr ⟨List.mem_of_getElem? (i := 319) (by decide +kernel), by decide +kernel⟩
theorem wd_270 : (Jvm.Cond.instanceMethod ({ cls := "DeadlineBench", name := "dropJob", desc := "(I)V" } : Jvm.MethodName)) ∈ db_gw := List.mem_filter.mpr ⟨List.mem_of_getElem? (i := 321) (by decide +kernel), by decide +kernel⟩
theorem wd_271 : (Jvm.Cond.code ({ cls := "DeadlineBench", name := "dropJob", desc := "(I)V" } : Jvm.MethodName) prog_1_method_34_code (3 : Nat) (Option.none : Option Jvm.ClassFile.FieldType)) ∈ db_gw := List.mem_filter.mpr ⟨List.mem_of_getElem? (i := 322) (by decide +kernel), by decide +kernel⟩
theorem wd_272 : (Jvm.Cond.methodLink "DeadlineBench" (243 : Nat) ({ cls := "DeadlineBench", name := "letGo", desc := "(I)V" } : Jvm.MethodName)) ∈ db_gw := List.mem_filter.mpr ⟨List.mem_of_getElem? (i := 323) (by decide +kernel), by decide +kernel⟩
theorem wd_274 : (Jvm.Cond.instanceMethod ({ cls := "DeadlineBench", name := "letGo", desc := "(I)V" } : Jvm.MethodName)) ∈ db_gw := List.mem_filter.mpr ⟨List.mem_of_getElem? (i := 325) (by decide +kernel), by decide +kernel⟩
theorem wd_275 : (Jvm.Cond.code ({ cls := "DeadlineBench", name := "letGo", desc := "(I)V" } : Jvm.MethodName) prog_1_method_33_code (3 : Nat) (Option.none : Option Jvm.ClassFile.FieldType)) ∈ db_gw := List.mem_filter.mpr ⟨List.mem_of_getElem? (i := 326) (by decide +kernel), by decide +kernel⟩
theorem wd_276 : (Jvm.Cond.methodLink "DeadlineBench" (125 : Nat) ({ cls := "DeadlineBench", name := "inheritDeadlines", desc := "()V" } : Jvm.MethodName)) ∈ db_gw := List.mem_filter.mpr ⟨List.mem_of_getElem? (i := 327) (by decide +kernel), by decide +kernel⟩
theorem wd_278 : (Jvm.Cond.instanceMethod ({ cls := "DeadlineBench", name := "inheritDeadlines", desc := "()V" } : Jvm.MethodName)) ∈ db_gw := List.mem_filter.mpr ⟨List.mem_of_getElem? (i := 329) (by decide +kernel), by decide +kernel⟩
theorem wd_279 : (Jvm.Cond.code ({ cls := "DeadlineBench", name := "inheritDeadlines", desc := "()V" } : Jvm.MethodName) prog_1_method_36_code (6 : Nat) (Option.none : Option Jvm.ClassFile.FieldType)) ∈ db_gw := List.mem_filter.mpr ⟨List.mem_of_getElem? (i := 330) (by decide +kernel), by decide +kernel⟩
theorem wd_280 : (Jvm.Cond.methodLink "DeadlineBench" (249 : Nat) ({ cls := "DeadlineBench", name := "holderAwaitedBy", desc := "(I)I" } : Jvm.MethodName)) ∈ db_gw := List.mem_filter.mpr ⟨List.mem_of_getElem? (i := 331) (by decide +kernel), by decide +kernel⟩
theorem wd_282 : (Jvm.Cond.instanceMethod ({ cls := "DeadlineBench", name := "holderAwaitedBy", desc := "(I)I" } : Jvm.MethodName)) ∈ db_gw := List.mem_filter.mpr ⟨List.mem_of_getElem? (i := 333) (by decide +kernel), by decide +kernel⟩
theorem wd_283 : (Jvm.Cond.code ({ cls := "DeadlineBench", name := "holderAwaitedBy", desc := "(I)I" } : Jvm.MethodName) prog_1_method_37_code (3 : Nat) (Option.some Jvm.ClassFile.FieldType.int)) ∈ db_gw := List.mem_filter.mpr ⟨List.mem_of_getElem? (i := 334) (by decide +kernel), by decide +kernel⟩
theorem wd_284 : (Jvm.Cond.methodLink "DeadlineBench" (218 : Nat) ({ cls := "DeadlineBench", name := "aheadOfAll", desc := "(I)I" } : Jvm.MethodName)) ∈ db_gw := List.mem_filter.mpr ⟨List.mem_of_getElem? (i := 335) (by decide +kernel), by decide +kernel⟩
theorem wd_286 : (Jvm.Cond.instanceMethod ({ cls := "DeadlineBench", name := "aheadOfAll", desc := "(I)I" } : Jvm.MethodName)) ∈ db_gw := List.mem_filter.mpr ⟨List.mem_of_getElem? (i := 337) (by decide +kernel), by decide +kernel⟩
theorem wd_287 : (Jvm.Cond.code ({ cls := "DeadlineBench", name := "aheadOfAll", desc := "(I)I" } : Jvm.MethodName) prog_1_method_35_code (5 : Nat) (Option.some Jvm.ClassFile.FieldType.int)) ∈ db_gw := List.mem_filter.mpr ⟨List.mem_of_getElem? (i := 338) (by decide +kernel), by decide +kernel⟩
theorem wn_288 : (Jvm.Cond.methodLinkNest "DeadlineBench" (98 : Nat) ({ cls := "DeadlineBench$SectionList", name := "removeAllOf", desc := "(I)V" } : Jvm.MethodName) "DeadlineBench") ∈ lw_tbl := List.mem_of_getElem? (i := 339) (by decide +kernel)
theorem wd_290 : (Jvm.Cond.instanceMethod ({ cls := "DeadlineBench$SectionList", name := "removeAllOf", desc := "(I)V" } : Jvm.MethodName)) ∈ db_gw := List.mem_filter.mpr ⟨List.mem_of_getElem? (i := 341) (by decide +kernel), by decide +kernel⟩
theorem wd_291 : (Jvm.Cond.code ({ cls := "DeadlineBench$SectionList", name := "removeAllOf", desc := "(I)V" } : Jvm.MethodName) prog_6_method_4_code (4 : Nat) (Option.none : Option Jvm.ClassFile.FieldType)) ∈ db_gw := List.mem_filter.mpr ⟨List.mem_of_getElem? (i := 342) (by decide +kernel), by decide +kernel⟩
theorem wd_292 : (Jvm.Cond.methodLink "DeadlineBenchLaw" (36 : Nat) ({ cls := "DeadlineBench", name := "admissible", desc := "()Z" } : Jvm.MethodName)) ∈ db_gw := List.mem_filter.mpr ⟨List.mem_of_getElem? (i := 343) (by decide +kernel), by decide +kernel⟩
theorem wd_293 : (Jvm.Cond.instanceMethod ({ cls := "DeadlineBench", name := "admissible", desc := "()Z" } : Jvm.MethodName)) ∈ db_gw := List.mem_filter.mpr ⟨List.mem_of_getElem? (i := 344) (by decide +kernel), by decide +kernel⟩
theorem wd_294 : (Jvm.Cond.selects "DeadlineBench" ({ cls := "DeadlineBench", name := "admissible", desc := "()Z" } : Jvm.MethodName) ({ cls := "DeadlineBench", name := "admissible", desc := "()Z" } : Jvm.MethodName)) ∈ db_gw := List.mem_filter.mpr ⟨List.mem_of_getElem? (i := 345) (by decide +kernel), by decide +kernel⟩
theorem wd_295 : (Jvm.Cond.code ({ cls := "DeadlineBench", name := "admissible", desc := "()Z" } : Jvm.MethodName) prog_1_method_5_code (4 : Nat) (Option.some Jvm.ClassFile.FieldType.boolean)) ∈ db_gw := List.mem_filter.mpr ⟨List.mem_of_getElem? (i := 346) (by decide +kernel), by decide +kernel⟩
theorem wd_296 : (Jvm.Cond.methodLink "DeadlineBench" (101 : Nat) ({ cls := "DeadlineBench", name := "demandAt", desc := "(I)J" } : Jvm.MethodName)) ∈ db_gw := List.mem_filter.mpr ⟨List.mem_of_getElem? (i := 347) (by decide +kernel), by decide +kernel⟩
theorem wd_298 : (Jvm.Cond.instanceMethod ({ cls := "DeadlineBench", name := "demandAt", desc := "(I)J" } : Jvm.MethodName)) ∈ db_gw := List.mem_filter.mpr ⟨List.mem_of_getElem? (i := 349) (by decide +kernel), by decide +kernel⟩
theorem wd_299 : (Jvm.Cond.code ({ cls := "DeadlineBench", name := "demandAt", desc := "(I)J" } : Jvm.MethodName) prog_1_method_26_code (10 : Nat) (Option.some Jvm.ClassFile.FieldType.long)) ∈ db_gw := List.mem_filter.mpr ⟨List.mem_of_getElem? (i := 350) (by decide +kernel), by decide +kernel⟩
theorem wd_300 : (Jvm.Cond.methodLink "DeadlineBenchLaw" (41 : Nat) ({ cls := "DeadlineBench", name := "tick", desc := "()I" } : Jvm.MethodName)) ∈ db_gw := List.mem_filter.mpr ⟨List.mem_of_getElem? (i := 351) (by decide +kernel), by decide +kernel⟩
theorem wd_301 : (Jvm.Cond.instanceMethod ({ cls := "DeadlineBench", name := "tick", desc := "()I" } : Jvm.MethodName)) ∈ db_gw := List.mem_filter.mpr ⟨List.mem_of_getElem? (i := 352) (by decide +kernel), by decide +kernel⟩
theorem wd_302 : (Jvm.Cond.selects "DeadlineBench" ({ cls := "DeadlineBench", name := "tick", desc := "()I" } : Jvm.MethodName) ({ cls := "DeadlineBench", name := "tick", desc := "()I" } : Jvm.MethodName)) ∈ db_gw := List.mem_filter.mpr ⟨List.mem_of_getElem? (i := 353) (by decide +kernel), by decide +kernel⟩
theorem wd_303 : (Jvm.Cond.code ({ cls := "DeadlineBench", name := "tick", desc := "()I" } : Jvm.MethodName) prog_1_method_6_code (1 : Nat) (Option.some Jvm.ClassFile.FieldType.int)) ∈ db_gw := List.mem_filter.mpr ⟨List.mem_of_getElem? (i := 354) (by decide +kernel), by decide +kernel⟩
theorem wd_304 : (Jvm.Cond.methodLink "DeadlineBench" (105 : Nat) ({ cls := "DeadlineBench", name := "passTick", desc := "()I" } : Jvm.MethodName)) ∈ db_gw := List.mem_filter.mpr ⟨List.mem_of_getElem? (i := 355) (by decide +kernel), by decide +kernel⟩
theorem wd_306 : (Jvm.Cond.instanceMethod ({ cls := "DeadlineBench", name := "passTick", desc := "()I" } : Jvm.MethodName)) ∈ db_gw := List.mem_filter.mpr ⟨List.mem_of_getElem? (i := 357) (by decide +kernel), by decide +kernel⟩
theorem wd_307 : (Jvm.Cond.code ({ cls := "DeadlineBench", name := "passTick", desc := "()I" } : Jvm.MethodName) prog_1_method_27_code (2 : Nat) (Option.some Jvm.ClassFile.FieldType.int)) ∈ db_gw := List.mem_filter.mpr ⟨List.mem_of_getElem? (i := 358) (by decide +kernel), by decide +kernel⟩
theorem wd_308 : (Jvm.Cond.methodLink "DeadlineBench" (197 : Nat) ({ cls := "DeadlineBench", name := "dropLateJobs", desc := "()V" } : Jvm.MethodName)) ∈ db_gw := List.mem_filter.mpr ⟨List.mem_of_getElem? (i := 359) (by decide +kernel), by decide +kernel⟩
theorem wd_310 : (Jvm.Cond.instanceMethod ({ cls := "DeadlineBench", name := "dropLateJobs", desc := "()V" } : Jvm.MethodName)) ∈ db_gw := List.mem_filter.mpr ⟨List.mem_of_getElem? (i := 361) (by decide +kernel), by decide +kernel⟩
theorem wd_311 : (Jvm.Cond.code ({ cls := "DeadlineBench", name := "dropLateJobs", desc := "()V" } : Jvm.MethodName) prog_1_method_28_code (2 : Nat) (Option.none : Option Jvm.ClassFile.FieldType)) ∈ db_gw := List.mem_filter.mpr ⟨List.mem_of_getElem? (i := 362) (by decide +kernel), by decide +kernel⟩
theorem wn_312 : (Jvm.Cond.methodLinkNest "DeadlineBench" (212 : Nat) ({ cls := "DeadlineBench$MissLog", name := "note", desc := "(II)V" } : Jvm.MethodName) "DeadlineBench") ∈ lw_tbl := List.mem_of_getElem? (i := 363) (by decide +kernel)
end
section
theorem wd_314 : (Jvm.Cond.instanceMethod ({ cls := "DeadlineBench$MissLog", name := "note", desc := "(II)V" } : Jvm.MethodName)) ∈ db_gw := List.mem_filter.mpr ⟨List.mem_of_getElem? (i := 365) (by decide +kernel), by decide +kernel⟩
theorem wd_315 : (Jvm.Cond.code ({ cls := "DeadlineBench$MissLog", name := "note", desc := "(II)V" } : Jvm.MethodName) prog_3_method_2_code (3 : Nat) (Option.none : Option Jvm.ClassFile.FieldType)) ∈ db_gw := List.mem_filter.mpr ⟨List.mem_of_getElem? (i := 366) (by decide +kernel), by decide +kernel⟩
theorem wd_316 : (Jvm.Cond.methodLink "DeadlineBench" (200 : Nat) ({ cls := "DeadlineBench", name := "releaseJobs", desc := "()V" } : Jvm.MethodName)) ∈ db_gw := List.mem_filter.mpr ⟨List.mem_of_getElem? (i := 367) (by decide +kernel), by decide +kernel⟩
theorem wd_318 : (Jvm.Cond.instanceMethod ({ cls := "DeadlineBench", name := "releaseJobs", desc := "()V" } : Jvm.MethodName)) ∈ db_gw := List.mem_filter.mpr ⟨List.mem_of_getElem? (i := 369) (by decide +kernel), by decide +kernel⟩
theorem wd_319 : (Jvm.Cond.code ({ cls := "DeadlineBench", name := "releaseJobs", desc := "()V" } : Jvm.MethodName) prog_1_method_29_code (5 : Nat) (Option.none : Option Jvm.ClassFile.FieldType)) ∈ db_gw := List.mem_filter.mpr ⟨List.mem_of_getElem? (i := 370) (by decide +kernel), by decide +kernel⟩
theorem wn_320 : (Jvm.Cond.methodLinkNest "DeadlineBench" (215 : Nat) ({ cls := "DeadlineBench$Task", name := "releaseJob", desc := "()V" } : Jvm.MethodName) "DeadlineBench") ∈ lw_tbl := List.mem_of_getElem? (i := 371) (by decide +kernel)
theorem wd_322 : (Jvm.Cond.instanceMethod ({ cls := "DeadlineBench$Task", name := "releaseJob", desc := "()V" } : Jvm.MethodName)) ∈ db_gw := List.mem_filter.mpr ⟨List.mem_of_getElem? (i := 373) (by decide +kernel), by decide +kernel⟩
theorem wd_323 : (Jvm.Cond.code ({ cls := "DeadlineBench$Task", name := "releaseJob", desc := "()V" } : Jvm.MethodName) prog_7_method_3_code (1 : Nat) (Option.none : Option Jvm.ClassFile.FieldType)) ∈ db_gw := List.mem_filter.mpr ⟨List.mem_of_getElem? (i := 374) (by decide +kernel), by decide +kernel⟩
theorem wn_324 : (Jvm.Cond.methodLinkNest "DeadlineBench$Task" (51 : Nat) ({ cls := "DeadlineBench$Job", name := "begin", desc := "(II)V" } : Jvm.MethodName) "DeadlineBench") ∈ lw_tbl := List.mem_of_getElem? (i := 375) (by decide +kernel)
theorem wd_326 : (Jvm.Cond.instanceMethod ({ cls := "DeadlineBench$Job", name := "begin", desc := "(II)V" } : Jvm.MethodName)) ∈ db_gw := List.mem_filter.mpr ⟨List.mem_of_getElem? (i := 377) (by decide +kernel), by decide +kernel⟩
theorem wd_327 : (Jvm.Cond.code ({ cls := "DeadlineBench$Job", name := "begin", desc := "(II)V" } : Jvm.MethodName) prog_2_method_2_code (3 : Nat) (Option.none : Option Jvm.ClassFile.FieldType)) ∈ db_gw := List.mem_filter.mpr ⟨List.mem_of_getElem? (i := 378) (by decide +kernel), by decide +kernel⟩
theorem wd_328 : (Jvm.Cond.methodLink "DeadlineBench" (203 : Nat) ({ cls := "DeadlineBench", name := "runOneJob", desc := "()I" } : Jvm.MethodName)) ∈ db_gw := List.mem_filter.mpr ⟨List.mem_of_getElem? (i := 379) (by decide +kernel), by decide +kernel⟩
theorem wd_330 : (Jvm.Cond.instanceMethod ({ cls := "DeadlineBench", name := "runOneJob", desc := "()I" } : Jvm.MethodName)) ∈ db_gw := List.mem_filter.mpr ⟨List.mem_of_getElem? (i := 381) (by decide +kernel), by decide +kernel⟩
theorem wd_331 : (Jvm.Cond.code ({ cls := "DeadlineBench", name := "runOneJob", desc := "()I" } : Jvm.MethodName) prog_1_method_30_code (3 : Nat) (Option.some Jvm.ClassFile.FieldType.int)) ∈ db_gw := List.mem_filter.mpr ⟨List.mem_of_getElem? (i := 382) (by decide +kernel), by decide +kernel⟩
theorem wd_332 : (Jvm.Cond.methodLink "DeadlineBench" (221 : Nat) ({ cls := "DeadlineBench", name := "takeLocks", desc := "(I)Z" } : Jvm.MethodName)) ∈ db_gw := List.mem_filter.mpr ⟨List.mem_of_getElem? (i := 383) (by decide +kernel), by decide +kernel⟩
theorem wd_334 : (Jvm.Cond.instanceMethod ({ cls := "DeadlineBench", name := "takeLocks", desc := "(I)Z" } : Jvm.MethodName)) ∈ db_gw := List.mem_filter.mpr ⟨List.mem_of_getElem? (i := 385) (by decide +kernel), by decide +kernel⟩
theorem wd_335 : (Jvm.Cond.code ({ cls := "DeadlineBench", name := "takeLocks", desc := "(I)Z" } : Jvm.MethodName) prog_1_method_31_code (5 : Nat) (Option.some Jvm.ClassFile.FieldType.boolean)) ∈ db_gw := List.mem_filter.mpr ⟨List.mem_of_getElem? (i := 386) (by decide +kernel), by decide +kernel⟩
theorem wd_336 : (Jvm.Cond.methodLink "DeadlineBench" (224 : Nat) ({ cls := "DeadlineBench", name := "workOneUnit", desc := "(I)V" } : Jvm.MethodName)) ∈ db_gw := List.mem_filter.mpr ⟨List.mem_of_getElem? (i := 387) (by decide +kernel), by decide +kernel⟩
theorem wd_338 : (Jvm.Cond.instanceMethod ({ cls := "DeadlineBench", name := "workOneUnit", desc := "(I)V" } : Jvm.MethodName)) ∈ db_gw := List.mem_filter.mpr ⟨List.mem_of_getElem? (i := 389) (by decide +kernel), by decide +kernel⟩
theorem wd_339 : (Jvm.Cond.code ({ cls := "DeadlineBench", name := "workOneUnit", desc := "(I)V" } : Jvm.MethodName) prog_1_method_32_code (5 : Nat) (Option.none : Option Jvm.ClassFile.FieldType)) ∈ db_gw := List.mem_filter.mpr ⟨List.mem_of_getElem? (i := 390) (by decide +kernel), by decide +kernel⟩
theorem wn_340 : (Jvm.Cond.methodLinkNest "DeadlineBench" (246 : Nat) ({ cls := "DeadlineBench$Task", name := "endJob", desc := "(I)V" } : Jvm.MethodName) "DeadlineBench") ∈ lw_tbl := List.mem_of_getElem? (i := 391) (by decide +kernel)
theorem wd_342 : (Jvm.Cond.instanceMethod ({ cls := "DeadlineBench$Task", name := "endJob", desc := "(I)V" } : Jvm.MethodName)) ∈ db_gw := List.mem_filter.mpr ⟨List.mem_of_getElem? (i := 393) (by decide +kernel), by decide +kernel⟩
theorem wd_343 : (Jvm.Cond.code ({ cls := "DeadlineBench$Task", name := "endJob", desc := "(I)V" } : Jvm.MethodName) prog_7_method_4_code (2 : Nat) (Option.none : Option Jvm.ClassFile.FieldType)) ∈ db_gw := List.mem_filter.mpr ⟨List.mem_of_getElem? (i := 394) (by decide +kernel), by decide +kernel⟩
theorem wd_344 : (Jvm.Cond.methodLink "DeadlineBench$Task" (61 : Nat) ({ cls := "java/lang/Math", name := "max", desc := "(II)I" } : Jvm.MethodName)) ∈ db_gw := List.mem_filter.mpr ⟨List.mem_of_getElem? (i := 395) (by decide +kernel), by decide +kernel⟩
theorem wd_345 : (Jvm.Cond.methodLink "DeadlineBench" (206 : Nat) ({ cls := "DeadlineBench", name := "countWaitsAndPutBys", desc := "(I)V" } : Jvm.MethodName)) ∈ db_gw := List.mem_filter.mpr ⟨List.mem_of_getElem? (i := 396) (by decide +kernel), by decide +kernel⟩
theorem wd_347 : (Jvm.Cond.instanceMethod ({ cls := "DeadlineBench", name := "countWaitsAndPutBys", desc := "(I)V" } : Jvm.MethodName)) ∈ db_gw := List.mem_filter.mpr ⟨List.mem_of_getElem? (i := 398) (by decide +kernel), by decide +kernel⟩
theorem wd_348 : (Jvm.Cond.code ({ cls := "DeadlineBench", name := "countWaitsAndPutBys", desc := "(I)V" } : Jvm.MethodName) prog_1_method_38_code (5 : Nat) (Option.none : Option Jvm.ClassFile.FieldType)) ∈ db_gw := List.mem_filter.mpr ⟨List.mem_of_getElem? (i := 399) (by decide +kernel), by decide +kernel⟩
theorem wn_349 : (Jvm.Cond.methodLinkNest "DeadlineBench" (209 : Nat) ({ cls := "DeadlineBench$RunHistory", name := "note", desc := "(I)V" } : Jvm.MethodName) "DeadlineBench") ∈ lw_tbl := List.mem_of_getElem? (i := 400) (by decide +kernel)
theorem wd_351 : (Jvm.Cond.instanceMethod ({ cls := "DeadlineBench$RunHistory", name := "note", desc := "(I)V" } : Jvm.MethodName)) ∈ db_gw := List.mem_filter.mpr ⟨List.mem_of_getElem? (i := 402) (by decide +kernel), by decide +kernel⟩
theorem wd_352 : (Jvm.Cond.code ({ cls := "DeadlineBench$RunHistory", name := "note", desc := "(I)V" } : Jvm.MethodName) prog_4_method_2_code (2 : Nat) (Option.none : Option Jvm.ClassFile.FieldType)) ∈ db_gw := List.mem_filter.mpr ⟨List.mem_of_getElem? (i := 403) (by decide +kernel), by decide +kernel⟩
theorem wd_353 : (Jvm.Cond.methodLink "DeadlineBenchLaw" (46 : Nat) ({ cls := "DeadlineBench", name := "run", desc := "(I)I" } : Jvm.MethodName)) ∈ db_gw := List.mem_filter.mpr ⟨List.mem_of_getElem? (i := 404) (by decide +kernel), by decide +kernel⟩
theorem wd_354 : (Jvm.Cond.instanceMethod ({ cls := "DeadlineBench", name := "run", desc := "(I)I" } : Jvm.MethodName)) ∈ db_gw := List.mem_filter.mpr ⟨List.mem_of_getElem? (i := 405) (by decide +kernel), by decide +kernel⟩
theorem wd_355 : (Jvm.Cond.selects "DeadlineBench" ({ cls := "DeadlineBench", name := "run", desc := "(I)I" } : Jvm.MethodName) ({ cls := "DeadlineBench", name := "run", desc := "(I)I" } : Jvm.MethodName)) ∈ db_gw := List.mem_filter.mpr ⟨List.mem_of_getElem? (i := 406) (by decide +kernel), by decide +kernel⟩
theorem wd_356 : (Jvm.Cond.code ({ cls := "DeadlineBench", name := "run", desc := "(I)I" } : Jvm.MethodName) prog_1_method_7_code (4 : Nat) (Option.some Jvm.ClassFile.FieldType.int)) ∈ db_gw := List.mem_filter.mpr ⟨List.mem_of_getElem? (i := 407) (by decide +kernel), by decide +kernel⟩
theorem wd_357 : (Jvm.Cond.methodLink "DeadlineBenchLaw" (51 : Nat) ({ cls := "DeadlineBench", name := "ran", desc := "(I)I" } : Jvm.MethodName)) ∈ db_gw := List.mem_filter.mpr ⟨List.mem_of_getElem? (i := 408) (by decide +kernel), by decide +kernel⟩
theorem wd_358 : (Jvm.Cond.instanceMethod ({ cls := "DeadlineBench", name := "ran", desc := "(I)I" } : Jvm.MethodName)) ∈ db_gw := List.mem_filter.mpr ⟨List.mem_of_getElem? (i := 409) (by decide +kernel), by decide +kernel⟩
theorem wd_359 : (Jvm.Cond.selects "DeadlineBench" ({ cls := "DeadlineBench", name := "ran", desc := "(I)I" } : Jvm.MethodName) ({ cls := "DeadlineBench", name := "ran", desc := "(I)I" } : Jvm.MethodName)) ∈ db_gw := List.mem_filter.mpr ⟨List.mem_of_getElem? (i := 410) (by decide +kernel), by decide +kernel⟩
theorem wd_360 : (Jvm.Cond.code ({ cls := "DeadlineBench", name := "ran", desc := "(I)I" } : Jvm.MethodName) prog_1_method_8_code (2 : Nat) (Option.some Jvm.ClassFile.FieldType.int)) ∈ db_gw := List.mem_filter.mpr ⟨List.mem_of_getElem? (i := 411) (by decide +kernel), by decide +kernel⟩
theorem wn_361 : (Jvm.Cond.methodLinkNest "DeadlineBench" (112 : Nat) ({ cls := "DeadlineBench$RunHistory", name := "runnerBack", desc := "(I)I" } : Jvm.MethodName) "DeadlineBench") ∈ lw_tbl := List.mem_of_getElem? (i := 412) (by decide +kernel)
theorem wd_363 : (Jvm.Cond.instanceMethod ({ cls := "DeadlineBench$RunHistory", name := "runnerBack", desc := "(I)I" } : Jvm.MethodName)) ∈ db_gw := List.mem_filter.mpr ⟨List.mem_of_getElem? (i := 414) (by decide +kernel), by decide +kernel⟩
theorem wd_364 : (Jvm.Cond.code ({ cls := "DeadlineBench$RunHistory", name := "runnerBack", desc := "(I)I" } : Jvm.MethodName) prog_4_method_3_code (2 : Nat) (Option.some Jvm.ClassFile.FieldType.int)) ∈ db_gw := List.mem_filter.mpr ⟨List.mem_of_getElem? (i := 415) (by decide +kernel), by decide +kernel⟩
theorem wd_365 : (Jvm.Cond.methodLink "DeadlineBenchLaw" (55 : Nat) ({ cls := "DeadlineBench", name := "remaining", desc := "(I)I" } : Jvm.MethodName)) ∈ db_gw := List.mem_filter.mpr ⟨List.mem_of_getElem? (i := 416) (by decide +kernel), by decide +kernel⟩
theorem wd_366 : (Jvm.Cond.instanceMethod ({ cls := "DeadlineBench", name := "remaining", desc := "(I)I" } : Jvm.MethodName)) ∈ db_gw := List.mem_filter.mpr ⟨List.mem_of_getElem? (i := 417) (by decide +kernel), by decide +kernel⟩
theorem wd_367 : (Jvm.Cond.selects "DeadlineBench" ({ cls := "DeadlineBench", name := "remaining", desc := "(I)I" } : Jvm.MethodName) ({ cls := "DeadlineBench", name := "remaining", desc := "(I)I" } : Jvm.MethodName)) ∈ db_gw := List.mem_filter.mpr ⟨List.mem_of_getElem? (i := 418) (by decide +kernel), by decide +kernel⟩
theorem wd_368 : (Jvm.Cond.code ({ cls := "DeadlineBench", name := "remaining", desc := "(I)I" } : Jvm.MethodName) prog_1_method_9_code (2 : Nat) (Option.some Jvm.ClassFile.FieldType.int)) ∈ db_gw := List.mem_filter.mpr ⟨List.mem_of_getElem? (i := 419) (by decide +kernel), by decide +kernel⟩
theorem wd_369 : (Jvm.Cond.methodLink "DeadlineBench" (116 : Nat) ({ cls := "DeadlineBench", name := "hasJob", desc := "(I)Z" } : Jvm.MethodName)) ∈ db_gw := List.mem_filter.mpr ⟨List.mem_of_getElem? (i := 420) (by decide +kernel), by decide +kernel⟩
theorem wd_371 : (Jvm.Cond.instanceMethod ({ cls := "DeadlineBench", name := "hasJob", desc := "(I)Z" } : Jvm.MethodName)) ∈ db_gw := List.mem_filter.mpr ⟨List.mem_of_getElem? (i := 422) (by decide +kernel), by decide +kernel⟩
theorem wd_372 : (Jvm.Cond.code ({ cls := "DeadlineBench", name := "hasJob", desc := "(I)Z" } : Jvm.MethodName) prog_1_method_21_code (2 : Nat) (Option.some Jvm.ClassFile.FieldType.boolean)) ∈ db_gw := List.mem_filter.mpr ⟨List.mem_of_getElem? (i := 423) (by decide +kernel), by decide +kernel⟩
theorem wd_373 : (Jvm.Cond.methodLink "DeadlineBenchLaw" (59 : Nat) ({ cls := "DeadlineBench", name := "deadlineOf", desc := "(I)I" } : Jvm.MethodName)) ∈ db_gw := List.mem_filter.mpr ⟨List.mem_of_getElem? (i := 424) (by decide +kernel), by decide +kernel⟩
theorem wd_374 : (Jvm.Cond.instanceMethod ({ cls := "DeadlineBench", name := "deadlineOf", desc := "(I)I" } : Jvm.MethodName)) ∈ db_gw := List.mem_filter.mpr ⟨List.mem_of_getElem? (i := 425) (by decide +kernel), by decide +kernel⟩
theorem wd_375 : (Jvm.Cond.selects "DeadlineBench" ({ cls := "DeadlineBench", name := "deadlineOf", desc := "(I)I" } : Jvm.MethodName) ({ cls := "DeadlineBench", name := "deadlineOf", desc := "(I)I" } : Jvm.MethodName)) ∈ db_gw := List.mem_filter.mpr ⟨List.mem_of_getElem? (i := 426) (by decide +kernel), by decide +kernel⟩
theorem wd_376 : (Jvm.Cond.code ({ cls := "DeadlineBench", name := "deadlineOf", desc := "(I)I" } : Jvm.MethodName) prog_1_method_10_code (2 : Nat) (Option.some Jvm.ClassFile.FieldType.int)) ∈ db_gw := List.mem_filter.mpr ⟨List.mem_of_getElem? (i := 427) (by decide +kernel), by decide +kernel⟩
theorem wd_377 : (Jvm.Cond.methodLink "DeadlineBenchLaw" (63 : Nat) ({ cls := "DeadlineBench", name := "effective", desc := "(I)I" } : Jvm.MethodName)) ∈ db_gw := List.mem_filter.mpr ⟨List.mem_of_getElem? (i := 428) (by decide +kernel), by decide +kernel⟩
theorem wd_378 : (Jvm.Cond.instanceMethod ({ cls := "DeadlineBench", name := "effective", desc := "(I)I" } : Jvm.MethodName)) ∈ db_gw := List.mem_filter.mpr ⟨List.mem_of_getElem? (i := 429) (by decide +kernel), by decide +kernel⟩
theorem wd_379 : (Jvm.Cond.selects "DeadlineBench" ({ cls := "DeadlineBench", name := "effective", desc := "(I)I" } : Jvm.MethodName) ({ cls := "DeadlineBench", name := "effective", desc := "(I)I" } : Jvm.MethodName)) ∈ db_gw := List.mem_filter.mpr ⟨List.mem_of_getElem? (i := 430) (by decide +kernel), by decide +kernel⟩
theorem wd_380 : (Jvm.Cond.code ({ cls := "DeadlineBench", name := "effective", desc := "(I)I" } : Jvm.MethodName) prog_1_method_11_code (2 : Nat) (Option.some Jvm.ClassFile.FieldType.int)) ∈ db_gw := List.mem_filter.mpr ⟨List.mem_of_getElem? (i := 431) (by decide +kernel), by decide +kernel⟩
theorem wd_381 : (Jvm.Cond.methodLink "DeadlineBenchLaw" (67 : Nat) ({ cls := "DeadlineBench", name := "waitsFor", desc := "(I)I" } : Jvm.MethodName)) ∈ db_gw := List.mem_filter.mpr ⟨List.mem_of_getElem? (i := 432) (by decide +kernel), by decide +kernel⟩
theorem wd_382 : (Jvm.Cond.instanceMethod ({ cls := "DeadlineBench", name := "waitsFor", desc := "(I)I" } : Jvm.MethodName)) ∈ db_gw := List.mem_filter.mpr ⟨List.mem_of_getElem? (i := 433) (by decide +kernel), by decide +kernel⟩
theorem wd_383 : (Jvm.Cond.selects "DeadlineBench" ({ cls := "DeadlineBench", name := "waitsFor", desc := "(I)I" } : Jvm.MethodName) ({ cls := "DeadlineBench", name := "waitsFor", desc := "(I)I" } : Jvm.MethodName)) ∈ db_gw := List.mem_filter.mpr ⟨List.mem_of_getElem? (i := 434) (by decide +kernel), by decide +kernel⟩
theorem wd_384 : (Jvm.Cond.code ({ cls := "DeadlineBench", name := "waitsFor", desc := "(I)I" } : Jvm.MethodName) prog_1_method_12_code (2 : Nat) (Option.some Jvm.ClassFile.FieldType.int)) ∈ db_gw := List.mem_filter.mpr ⟨List.mem_of_getElem? (i := 435) (by decide +kernel), by decide +kernel⟩
theorem wd_385 : (Jvm.Cond.methodLink "DeadlineBenchLaw" (71 : Nat) ({ cls := "DeadlineBench", name := "owner", desc := "(I)I" } : Jvm.MethodName)) ∈ db_gw := List.mem_filter.mpr ⟨List.mem_of_getElem? (i := 436) (by decide +kernel), by decide +kernel⟩
theorem wd_386 : (Jvm.Cond.instanceMethod ({ cls := "DeadlineBench", name := "owner", desc := "(I)I" } : Jvm.MethodName)) ∈ db_gw := List.mem_filter.mpr ⟨List.mem_of_getElem? (i := 437) (by decide +kernel), by decide +kernel⟩
theorem wd_387 : (Jvm.Cond.selects "DeadlineBench" ({ cls := "DeadlineBench", name := "owner", desc := "(I)I" } : Jvm.MethodName) ({ cls := "DeadlineBench", name := "owner", desc := "(I)I" } : Jvm.MethodName)) ∈ db_gw := List.mem_filter.mpr ⟨List.mem_of_getElem? (i := 438) (by decide +kernel), by decide +kernel⟩
theorem wd_388 : (Jvm.Cond.code ({ cls := "DeadlineBench", name := "owner", desc := "(I)I" } : Jvm.MethodName) prog_1_method_13_code (2 : Nat) (Option.some Jvm.ClassFile.FieldType.int)) ∈ db_gw := List.mem_filter.mpr ⟨List.mem_of_getElem? (i := 439) (by decide +kernel), by decide +kernel⟩
theorem wd_389 : (Jvm.Cond.methodLink "DeadlineBenchLaw" (75 : Nat) ({ cls := "DeadlineBench", name := "waiters", desc := "(I)I" } : Jvm.MethodName)) ∈ db_gw := List.mem_filter.mpr ⟨List.mem_of_getElem? (i := 440) (by decide +kernel), by decide +kernel⟩
theorem wd_390 : (Jvm.Cond.instanceMethod ({ cls := "DeadlineBench", name := "waiters", desc := "(I)I" } : Jvm.MethodName)) ∈ db_gw := List.mem_filter.mpr ⟨List.mem_of_getElem? (i := 441) (by decide +kernel), by decide +kernel⟩
theorem wd_391 : (Jvm.Cond.selects "DeadlineBench" ({ cls := "DeadlineBench", name := "waiters", desc := "(I)I" } : Jvm.MethodName) ({ cls := "DeadlineBench", name := "waiters", desc := "(I)I" } : Jvm.MethodName)) ∈ db_gw := List.mem_filter.mpr ⟨List.mem_of_getElem? (i := 442) (by decide +kernel), by decide +kernel⟩
theorem wd_392 : (Jvm.Cond.code ({ cls := "DeadlineBench", name := "waiters", desc := "(I)I" } : Jvm.MethodName) prog_1_method_14_code (7 : Nat) (Option.some Jvm.ClassFile.FieldType.int)) ∈ db_gw := List.mem_filter.mpr ⟨List.mem_of_getElem? (i := 443) (by decide +kernel), by decide +kernel⟩
theorem wd_393 : (Jvm.Cond.methodLink "DeadlineBenchLaw" (79 : Nat) ({ cls := "DeadlineBench", name := "missCount", desc := "()I" } : Jvm.MethodName)) ∈ db_gw := List.mem_filter.mpr ⟨List.mem_of_getElem? (i := 444) (by decide +kernel), by decide +kernel⟩
theorem wd_394 : (Jvm.Cond.instanceMethod ({ cls := "DeadlineBench", name := "missCount", desc := "()I" } : Jvm.MethodName)) ∈ db_gw := List.mem_filter.mpr ⟨List.mem_of_getElem? (i := 445) (by decide +kernel), by decide +kernel⟩
theorem wd_395 : (Jvm.Cond.selects "DeadlineBench" ({ cls := "DeadlineBench", name := "missCount", desc := "()I" } : Jvm.MethodName) ({ cls := "DeadlineBench", name := "missCount", desc := "()I" } : Jvm.MethodName)) ∈ db_gw := List.mem_filter.mpr ⟨List.mem_of_getElem? (i := 446) (by decide +kernel), by decide +kernel⟩
theorem wd_396 : (Jvm.Cond.code ({ cls := "DeadlineBench", name := "missCount", desc := "()I" } : Jvm.MethodName) prog_1_method_15_code (1 : Nat) (Option.some Jvm.ClassFile.FieldType.int)) ∈ db_gw := List.mem_filter.mpr ⟨List.mem_of_getElem? (i := 447) (by decide +kernel), by decide +kernel⟩
theorem wd_397 : (Jvm.Cond.methodLink "DeadlineBenchLaw" (83 : Nat) ({ cls := "DeadlineBench", name := "miss", desc := "(II)I" } : Jvm.MethodName)) ∈ db_gw := List.mem_filter.mpr ⟨List.mem_of_getElem? (i := 448) (by decide +kernel), by decide +kernel⟩
theorem wd_398 : (Jvm.Cond.instanceMethod ({ cls := "DeadlineBench", name := "miss", desc := "(II)I" } : Jvm.MethodName)) ∈ db_gw := List.mem_filter.mpr ⟨List.mem_of_getElem? (i := 449) (by decide +kernel), by decide +kernel⟩
theorem wd_399 : (Jvm.Cond.selects "DeadlineBench" ({ cls := "DeadlineBench", name := "miss", desc := "(II)I" } : Jvm.MethodName) ({ cls := "DeadlineBench", name := "miss", desc := "(II)I" } : Jvm.MethodName)) ∈ db_gw := List.mem_filter.mpr ⟨List.mem_of_getElem? (i := 450) (by decide +kernel), by decide +kernel⟩
theorem wd_400 : (Jvm.Cond.code ({ cls := "DeadlineBench", name := "miss", desc := "(II)I" } : Jvm.MethodName) prog_1_method_16_code (3 : Nat) (Option.some Jvm.ClassFile.FieldType.int)) ∈ db_gw := List.mem_filter.mpr ⟨List.mem_of_getElem? (i := 451) (by decide +kernel), by decide +kernel⟩
theorem wn_401 : (Jvm.Cond.methodLinkNest "DeadlineBench" (134 : Nat) ({ cls := "DeadlineBench$MissLog", name := "keeps", desc := "(I)Z" } : Jvm.MethodName) "DeadlineBench") ∈ lw_tbl := List.mem_of_getElem? (i := 452) (by decide +kernel)
theorem wd_403 : (Jvm.Cond.instanceMethod ({ cls := "DeadlineBench$MissLog", name := "keeps", desc := "(I)Z" } : Jvm.MethodName)) ∈ db_gw := List.mem_filter.mpr ⟨List.mem_of_getElem? (i := 454) (by decide +kernel), by decide +kernel⟩
theorem wd_404 : (Jvm.Cond.code ({ cls := "DeadlineBench$MissLog", name := "keeps", desc := "(I)Z" } : Jvm.MethodName) prog_3_method_3_code (2 : Nat) (Option.some Jvm.ClassFile.FieldType.boolean)) ∈ db_gw := List.mem_filter.mpr ⟨List.mem_of_getElem? (i := 455) (by decide +kernel), by decide +kernel⟩
theorem wd_405 : (Jvm.Cond.methodLink "DeadlineBenchLaw" (88 : Nat) ({ cls := "DeadlineBench", name := "task", desc := "(II)I" } : Jvm.MethodName)) ∈ db_gw := List.mem_filter.mpr ⟨List.mem_of_getElem? (i := 456) (by decide +kernel), by decide +kernel⟩
theorem wd_406 : (Jvm.Cond.instanceMethod ({ cls := "DeadlineBench", name := "task", desc := "(II)I" } : Jvm.MethodName)) ∈ db_gw := List.mem_filter.mpr ⟨List.mem_of_getElem? (i := 457) (by decide +kernel), by decide +kernel⟩
theorem wd_407 : (Jvm.Cond.selects "DeadlineBench" ({ cls := "DeadlineBench", name := "task", desc := "(II)I" } : Jvm.MethodName) ({ cls := "DeadlineBench", name := "task", desc := "(II)I" } : Jvm.MethodName)) ∈ db_gw := List.mem_filter.mpr ⟨List.mem_of_getElem? (i := 458) (by decide +kernel), by decide +kernel⟩
theorem wd_408 : (Jvm.Cond.code ({ cls := "DeadlineBench", name := "task", desc := "(II)I" } : Jvm.MethodName) prog_1_method_17_code (4 : Nat) (Option.some Jvm.ClassFile.FieldType.int)) ∈ db_gw := List.mem_filter.mpr ⟨List.mem_of_getElem? (i := 459) (by decide +kernel), by decide +kernel⟩
theorem wn_409 : (Jvm.Cond.methodLinkNest "DeadlineBench" (152 : Nat) ({ cls := "DeadlineBench$SectionList", name := "sizeOf", desc := "(I)I" } : Jvm.MethodName) "DeadlineBench") ∈ lw_tbl := List.mem_of_getElem? (i := 460) (by decide +kernel)
theorem wd_411 : (Jvm.Cond.instanceMethod ({ cls := "DeadlineBench$SectionList", name := "sizeOf", desc := "(I)I" } : Jvm.MethodName)) ∈ db_gw := List.mem_filter.mpr ⟨List.mem_of_getElem? (i := 462) (by decide +kernel), by decide +kernel⟩
theorem wd_412 : (Jvm.Cond.code ({ cls := "DeadlineBench$SectionList", name := "sizeOf", desc := "(I)I" } : Jvm.MethodName) prog_6_method_5_code (4 : Nat) (Option.some Jvm.ClassFile.FieldType.int)) ∈ db_gw := List.mem_filter.mpr ⟨List.mem_of_getElem? (i := 463) (by decide +kernel), by decide +kernel⟩
theorem wd_413 : (Jvm.Cond.methodLink "DeadlineBenchLaw" (92 : Nat) ({ cls := "DeadlineBench", name := "count", desc := "(I)I" } : Jvm.MethodName)) ∈ db_gw := List.mem_filter.mpr ⟨List.mem_of_getElem? (i := 464) (by decide +kernel), by decide +kernel⟩
theorem wd_414 : (Jvm.Cond.instanceMethod ({ cls := "DeadlineBench", name := "count", desc := "(I)I" } : Jvm.MethodName)) ∈ db_gw := List.mem_filter.mpr ⟨List.mem_of_getElem? (i := 465) (by decide +kernel), by decide +kernel⟩
theorem wd_415 : (Jvm.Cond.selects "DeadlineBench" ({ cls := "DeadlineBench", name := "count", desc := "(I)I" } : Jvm.MethodName) ({ cls := "DeadlineBench", name := "count", desc := "(I)I" } : Jvm.MethodName)) ∈ db_gw := List.mem_filter.mpr ⟨List.mem_of_getElem? (i := 466) (by decide +kernel), by decide +kernel⟩
theorem wd_416 : (Jvm.Cond.code ({ cls := "DeadlineBench", name := "count", desc := "(I)I" } : Jvm.MethodName) prog_1_method_18_code (2 : Nat) (Option.some Jvm.ClassFile.FieldType.int)) ∈ db_gw := List.mem_filter.mpr ⟨List.mem_of_getElem? (i := 467) (by decide +kernel), by decide +kernel⟩
theorem wd_417 : (Jvm.Cond.methodLink "DeadlineBench" (173 : Nat) ({ cls := "DeadlineBench", name := "liveTasks", desc := "()I" } : Jvm.MethodName)) ∈ db_gw := List.mem_filter.mpr ⟨List.mem_of_getElem? (i := 468) (by decide +kernel), by decide +kernel⟩
theorem wd_419 : (Jvm.Cond.instanceMethod ({ cls := "DeadlineBench", name := "liveTasks", desc := "()I" } : Jvm.MethodName)) ∈ db_gw := List.mem_filter.mpr ⟨List.mem_of_getElem? (i := 470) (by decide +kernel), by decide +kernel⟩
theorem wd_420 : (Jvm.Cond.code ({ cls := "DeadlineBench", name := "liveTasks", desc := "()I" } : Jvm.MethodName) prog_1_method_23_code (6 : Nat) (Option.some Jvm.ClassFile.FieldType.int)) ∈ db_gw := List.mem_filter.mpr ⟨List.mem_of_getElem? (i := 471) (by decide +kernel), by decide +kernel⟩
theorem wd_421 : (Jvm.Cond.methodLink "DeadlineBench" (176 : Nat) ({ cls := "DeadlineBench", name := "pendingJobs", desc := "()I" } : Jvm.MethodName)) ∈ db_gw := List.mem_filter.mpr ⟨List.mem_of_getElem? (i := 472) (by decide +kernel), by decide +kernel⟩
theorem wd_423 : (Jvm.Cond.instanceMethod ({ cls := "DeadlineBench", name := "pendingJobs", desc := "()I" } : Jvm.MethodName)) ∈ db_gw := List.mem_filter.mpr ⟨List.mem_of_getElem? (i := 474) (by decide +kernel), by decide +kernel⟩
theorem wd_424 : (Jvm.Cond.code ({ cls := "DeadlineBench", name := "pendingJobs", desc := "()I" } : Jvm.MethodName) prog_1_method_24_code (6 : Nat) (Option.some Jvm.ClassFile.FieldType.int)) ∈ db_gw := List.mem_filter.mpr ⟨List.mem_of_getElem? (i := 475) (by decide +kernel), by decide +kernel⟩
theorem wd_425 : (Jvm.Cond.methodLink "DeadlineBench" (182 : Nat) ({ cls := "DeadlineBench", name := "heldLocks", desc := "()I" } : Jvm.MethodName)) ∈ db_gw := List.mem_filter.mpr ⟨List.mem_of_getElem? (i := 476) (by decide +kernel), by decide +kernel⟩
theorem wd_427 : (Jvm.Cond.instanceMethod ({ cls := "DeadlineBench", name := "heldLocks", desc := "()I" } : Jvm.MethodName)) ∈ db_gw := List.mem_filter.mpr ⟨List.mem_of_getElem? (i := 478) (by decide +kernel), by decide +kernel⟩
theorem wd_428 : (Jvm.Cond.code ({ cls := "DeadlineBench", name := "heldLocks", desc := "()I" } : Jvm.MethodName) prog_1_method_25_code (6 : Nat) (Option.some Jvm.ClassFile.FieldType.int)) ∈ db_gw := List.mem_filter.mpr ⟨List.mem_of_getElem? (i := 479) (by decide +kernel), by decide +kernel⟩
theorem wd_429 : (Jvm.Cond.methodLink "DeadlineBenchLaw" (9 : Nat) ({ cls := "DeadlineBenchLaw", name := "cell", desc := "([II)I" } : Jvm.MethodName)) ∈ db_gw := List.mem_filter.mpr ⟨List.mem_of_getElem? (i := 480) (by decide +kernel), by decide +kernel⟩
theorem wd_430 : (Jvm.Cond.static ({ cls := "DeadlineBenchLaw", name := "cell", desc := "([II)I" } : Jvm.MethodName)) ∈ db_gw := List.mem_filter.mpr ⟨List.mem_of_getElem? (i := 481) (by decide +kernel), by decide +kernel⟩
theorem wd_431 : (Jvm.Cond.code ({ cls := "DeadlineBenchLaw", name := "cell", desc := "([II)I" } : Jvm.MethodName) method_2_code (2 : Nat) (Option.some Jvm.ClassFile.FieldType.int)) ∈ db_gw := List.mem_filter.mpr ⟨List.mem_of_getElem? (i := 482) (by decide +kernel), by decide +kernel⟩
theorem wd_432 : (Jvm.Cond.classLink "DeadlineBenchLaw" (18 : Nat) "DeadlineBenchModel") ∈ db_gw := List.mem_filter.mpr ⟨List.mem_of_getElem? (i := 483) (by decide +kernel), by decide +kernel⟩
theorem wd_433 : (Jvm.Cond.instantiable "DeadlineBenchModel" (36 : Nat)) ∈ db_gw := List.mem_filter.mpr ⟨List.mem_of_getElem? (i := 484) (by decide +kernel), by decide +kernel⟩
theorem wd_434 : (Jvm.Cond.methodLink "DeadlineBenchLaw" (20 : Nat) ({ cls := "DeadlineBenchModel", name := "<init>", desc := "(IIIII)V" } : Jvm.MethodName)) ∈ db_gw := List.mem_filter.mpr ⟨List.mem_of_getElem? (i := 485) (by decide +kernel), by decide +kernel⟩
theorem wd_435 : (Jvm.Cond.instanceMethod ({ cls := "DeadlineBenchModel", name := "<init>", desc := "(IIIII)V" } : Jvm.MethodName)) ∈ db_gw := List.mem_filter.mpr ⟨List.mem_of_getElem? (i := 486) (by decide +kernel), by decide +kernel⟩
theorem wd_436 : (Jvm.Cond.code ({ cls := "DeadlineBenchModel", name := "<init>", desc := "(IIIII)V" } : Jvm.MethodName) prog_9_method_2_code (7 : Nat) (Option.none : Option Jvm.ClassFile.FieldType)) ∈ db_gw := List.mem_filter.mpr ⟨List.mem_of_getElem? (i := 487) (by decide +kernel), by decide +kernel⟩
theorem wd_437 : (Jvm.Cond.methodLink "DeadlineBenchModel" (1 : Nat) ({ cls := "java/lang/Object", name := "<init>", desc := "()V" } : Jvm.MethodName)) ∈ db_gw := List.mem_filter.mpr ⟨List.mem_of_getElem? (i := 488) (by decide +kernel), by decide +kernel⟩
theorem wd_438 : (Jvm.Cond.methodLink "DeadlineBenchModel" (89 : Nat) ({ cls := "DeadlineBenchModel", name := "within", desc := "(III)I" } : Jvm.MethodName)) ∈ db_gw := List.mem_filter.mpr ⟨List.mem_of_getElem? (i := 489) (by decide +kernel), by decide +kernel⟩
theorem wd_439 : (Jvm.Cond.static ({ cls := "DeadlineBenchModel", name := "within", desc := "(III)I" } : Jvm.MethodName)) ∈ db_gw := List.mem_filter.mpr ⟨List.mem_of_getElem? (i := 490) (by decide +kernel), by decide +kernel⟩
theorem wd_440 : (Jvm.Cond.code ({ cls := "DeadlineBenchModel", name := "within", desc := "(III)I" } : Jvm.MethodName) prog_9_method_1_code (3 : Nat) (Option.some Jvm.ClassFile.FieldType.int)) ∈ db_gw := List.mem_filter.mpr ⟨List.mem_of_getElem? (i := 491) (by decide +kernel), by decide +kernel⟩
theorem wd_441 : (Jvm.Cond.fieldLink "DeadlineBenchModel" (93 : Nat) "DeadlineBenchModel" "taskMost" "I") ∈ db_gw := List.mem_filter.mpr ⟨List.mem_of_getElem? (i := 492) (by decide +kernel), by decide +kernel⟩
theorem wd_442 : (Jvm.Cond.fieldLink "DeadlineBenchModel" (97 : Nat) "DeadlineBenchModel" "lockMost" "I") ∈ db_gw := List.mem_filter.mpr ⟨List.mem_of_getElem? (i := 493) (by decide +kernel), by decide +kernel⟩
theorem wd_443 : (Jvm.Cond.fieldLink "DeadlineBenchModel" (100 : Nat) "DeadlineBenchModel" "sectionMost" "I") ∈ db_gw := List.mem_filter.mpr ⟨List.mem_of_getElem? (i := 494) (by decide +kernel), by decide +kernel⟩
theorem wd_444 : (Jvm.Cond.fieldLink "DeadlineBenchModel" (103 : Nat) "DeadlineBenchModel" "logMost" "I") ∈ db_gw := List.mem_filter.mpr ⟨List.mem_of_getElem? (i := 495) (by decide +kernel), by decide +kernel⟩
theorem wd_445 : (Jvm.Cond.fieldLink "DeadlineBenchModel" (106 : Nat) "DeadlineBenchModel" "last" "I") ∈ db_gw := List.mem_filter.mpr ⟨List.mem_of_getElem? (i := 496) (by decide +kernel), by decide +kernel⟩
theorem wd_446 : (Jvm.Cond.fieldLink "DeadlineBenchModel" (127 : Nat) "DeadlineBenchModel" "now" "I") ∈ db_gw := List.mem_filter.mpr ⟨List.mem_of_getElem? (i := 497) (by decide +kernel), by decide +kernel⟩
theorem wd_447 : (Jvm.Cond.fieldLink "DeadlineBenchModel" (9 : Nat) "DeadlineBenchModel" "live" "[Z") ∈ db_gw := List.mem_filter.mpr ⟨List.mem_of_getElem? (i := 498) (by decide +kernel), by decide +kernel⟩
theorem wd_448 : (Jvm.Cond.fieldLink "DeadlineBenchModel" (13 : Nat) "DeadlineBenchModel" "period" "[I") ∈ db_gw := List.mem_filter.mpr ⟨List.mem_of_getElem? (i := 499) (by decide +kernel), by decide +kernel⟩
theorem wd_449 : (Jvm.Cond.fieldLink "DeadlineBenchModel" (17 : Nat) "DeadlineBenchModel" "work" "[I") ∈ db_gw := List.mem_filter.mpr ⟨List.mem_of_getElem? (i := 500) (by decide +kernel), by decide +kernel⟩
theorem wd_450 : (Jvm.Cond.fieldLink "DeadlineBenchModel" (20 : Nat) "DeadlineBenchModel" "deadline" "[I") ∈ db_gw := List.mem_filter.mpr ⟨List.mem_of_getElem? (i := 501) (by decide +kernel), by decide +kernel⟩
theorem wd_451 : (Jvm.Cond.fieldLink "DeadlineBenchModel" (23 : Nat) "DeadlineBenchModel" "next" "[I") ∈ db_gw := List.mem_filter.mpr ⟨List.mem_of_getElem? (i := 502) (by decide +kernel), by decide +kernel⟩
theorem wd_452 : (Jvm.Cond.fieldLink "DeadlineBenchModel" (26 : Nat) "DeadlineBenchModel" "released" "[I") ∈ db_gw := List.mem_filter.mpr ⟨List.mem_of_getElem? (i := 503) (by decide +kernel), by decide +kernel⟩
theorem wd_453 : (Jvm.Cond.fieldLink "DeadlineBenchModel" (29 : Nat) "DeadlineBenchModel" "finished" "[I") ∈ db_gw := List.mem_filter.mpr ⟨List.mem_of_getElem? (i := 504) (by decide +kernel), by decide +kernel⟩
theorem wd_454 : (Jvm.Cond.fieldLink "DeadlineBenchModel" (32 : Nat) "DeadlineBenchModel" "missed" "[I") ∈ db_gw := List.mem_filter.mpr ⟨List.mem_of_getElem? (i := 505) (by decide +kernel), by decide +kernel⟩
theorem wd_455 : (Jvm.Cond.fieldLink "DeadlineBenchModel" (35 : Nat) "DeadlineBenchModel" "waited" "[I") ∈ db_gw := List.mem_filter.mpr ⟨List.mem_of_getElem? (i := 506) (by decide +kernel), by decide +kernel⟩
theorem wd_456 : (Jvm.Cond.fieldLink "DeadlineBenchModel" (38 : Nat) "DeadlineBenchModel" "putBy" "[I") ∈ db_gw := List.mem_filter.mpr ⟨List.mem_of_getElem? (i := 507) (by decide +kernel), by decide +kernel⟩
theorem wd_457 : (Jvm.Cond.fieldLink "DeadlineBenchModel" (41 : Nat) "DeadlineBenchModel" "answer" "[I") ∈ db_gw := List.mem_filter.mpr ⟨List.mem_of_getElem? (i := 508) (by decide +kernel), by decide +kernel⟩
theorem wd_458 : (Jvm.Cond.fieldLink "DeadlineBenchModel" (44 : Nat) "DeadlineBenchModel" "pending" "[Z") ∈ db_gw := List.mem_filter.mpr ⟨List.mem_of_getElem? (i := 509) (by decide +kernel), by decide +kernel⟩
theorem wd_459 : (Jvm.Cond.fieldLink "DeadlineBenchModel" (47 : Nat) "DeadlineBenchModel" "came" "[I") ∈ db_gw := List.mem_filter.mpr ⟨List.mem_of_getElem? (i := 510) (by decide +kernel), by decide +kernel⟩
theorem wd_460 : (Jvm.Cond.fieldLink "DeadlineBenchModel" (50 : Nat) "DeadlineBenchModel" "due" "[I") ∈ db_gw := List.mem_filter.mpr ⟨List.mem_of_getElem? (i := 511) (by decide +kernel), by decide +kernel⟩
theorem wd_461 : (Jvm.Cond.fieldLink "DeadlineBenchModel" (53 : Nat) "DeadlineBenchModel" "units" "[I") ∈ db_gw := List.mem_filter.mpr ⟨List.mem_of_getElem? (i := 512) (by decide +kernel), by decide +kernel⟩
theorem wd_462 : (Jvm.Cond.fieldLink "DeadlineBenchModel" (56 : Nat) "DeadlineBenchModel" "waits" "[I") ∈ db_gw := List.mem_filter.mpr ⟨List.mem_of_getElem? (i := 513) (by decide +kernel), by decide +kernel⟩
theorem wd_463 : (Jvm.Cond.fieldLink "DeadlineBenchModel" (59 : Nat) "DeadlineBenchModel" "ranBefore" "[Z") ∈ db_gw := List.mem_filter.mpr ⟨List.mem_of_getElem? (i := 514) (by decide +kernel), by decide +kernel⟩
theorem wd_464 : (Jvm.Cond.fieldLink "DeadlineBenchModel" (62 : Nat) "DeadlineBenchModel" "holder" "[I") ∈ db_gw := List.mem_filter.mpr ⟨List.mem_of_getElem? (i := 515) (by decide +kernel), by decide +kernel⟩
theorem wd_465 : (Jvm.Cond.fieldLink "DeadlineBenchModel" (133 : Nat) "DeadlineBenchModel" "sections" "I") ∈ db_gw := List.mem_filter.mpr ⟨List.mem_of_getElem? (i := 516) (by decide +kernel), by decide +kernel⟩
theorem wd_466 : (Jvm.Cond.fieldLink "DeadlineBenchModel" (65 : Nat) "DeadlineBenchModel" "ofTask" "[I") ∈ db_gw := List.mem_filter.mpr ⟨List.mem_of_getElem? (i := 517) (by decide +kernel), by decide +kernel⟩
theorem wd_467 : (Jvm.Cond.fieldLink "DeadlineBenchModel" (68 : Nat) "DeadlineBenchModel" "ofLock" "[I") ∈ db_gw := List.mem_filter.mpr ⟨List.mem_of_getElem? (i := 518) (by decide +kernel), by decide +kernel⟩
theorem wd_468 : (Jvm.Cond.fieldLink "DeadlineBenchModel" (71 : Nat) "DeadlineBenchModel" "begin" "[I") ∈ db_gw := List.mem_filter.mpr ⟨List.mem_of_getElem? (i := 519) (by decide +kernel), by decide +kernel⟩
theorem wd_469 : (Jvm.Cond.fieldLink "DeadlineBenchModel" (74 : Nat) "DeadlineBenchModel" "length" "[I") ∈ db_gw := List.mem_filter.mpr ⟨List.mem_of_getElem? (i := 520) (by decide +kernel), by decide +kernel⟩
theorem wd_470 : (Jvm.Cond.fieldLink "DeadlineBenchModel" (77 : Nat) "DeadlineBenchModel" "first" "[I") ∈ db_gw := List.mem_filter.mpr ⟨List.mem_of_getElem? (i := 521) (by decide +kernel), by decide +kernel⟩
theorem wd_471 : (Jvm.Cond.fieldLink "DeadlineBenchModel" (143 : Nat) "DeadlineBenchModel" "misses" "I") ∈ db_gw := List.mem_filter.mpr ⟨List.mem_of_getElem? (i := 522) (by decide +kernel), by decide +kernel⟩
theorem wd_472 : (Jvm.Cond.fieldLink "DeadlineBenchModel" (80 : Nat) "DeadlineBenchModel" "missTask" "[I") ∈ db_gw := List.mem_filter.mpr ⟨List.mem_of_getElem? (i := 523) (by decide +kernel), by decide +kernel⟩
theorem wd_473 : (Jvm.Cond.fieldLink "DeadlineBenchModel" (83 : Nat) "DeadlineBenchModel" "missTime" "[I") ∈ db_gw := List.mem_filter.mpr ⟨List.mem_of_getElem? (i := 524) (by decide +kernel), by decide +kernel⟩
theorem wd_474 : (Jvm.Cond.fieldLink "DeadlineBenchModel" (86 : Nat) "DeadlineBenchModel" "ranTasks" "[I") ∈ db_gw := List.mem_filter.mpr ⟨List.mem_of_getElem? (i := 525) (by decide +kernel), by decide +kernel⟩
theorem wd_475 : (Jvm.Cond.fieldLink "DeadlineBenchModel" (171 : Nat) "DeadlineBenchModel" "ticks" "I") ∈ db_gw := List.mem_filter.mpr ⟨List.mem_of_getElem? (i := 526) (by decide +kernel), by decide +kernel⟩
theorem wd_476 : (Jvm.Cond.fieldLink "DeadlineBenchModel" (162 : Nat) "DeadlineBenchModel" "idle" "I") ∈ db_gw := List.mem_filter.mpr ⟨List.mem_of_getElem? (i := 527) (by decide +kernel), by decide +kernel⟩
theorem wd_477 : (Jvm.Cond.laysFinal "DeadlineBenchModel" "DeadlineBenchModel" "taskMost" "I") ∈ db_gw := List.mem_filter.mpr ⟨List.mem_of_getElem? (i := 528) (by decide +kernel), by decide +kernel⟩
theorem wd_479 : (Jvm.Cond.laysFinal "DeadlineBenchModel" "DeadlineBenchModel" "lockMost" "I") ∈ db_gw := List.mem_filter.mpr ⟨List.mem_of_getElem? (i := 530) (by decide +kernel), by decide +kernel⟩
theorem wd_481 : (Jvm.Cond.laysFinal "DeadlineBenchModel" "DeadlineBenchModel" "sectionMost" "I") ∈ db_gw := List.mem_filter.mpr ⟨List.mem_of_getElem? (i := 532) (by decide +kernel), by decide +kernel⟩
theorem wd_483 : (Jvm.Cond.laysFinal "DeadlineBenchModel" "DeadlineBenchModel" "logMost" "I") ∈ db_gw := List.mem_filter.mpr ⟨List.mem_of_getElem? (i := 534) (by decide +kernel), by decide +kernel⟩
theorem wd_485 : (Jvm.Cond.laysFinal "DeadlineBenchModel" "DeadlineBenchModel" "last" "I") ∈ db_gw := List.mem_filter.mpr ⟨List.mem_of_getElem? (i := 536) (by decide +kernel), by decide +kernel⟩
theorem wd_487 : (Jvm.Cond.lays "DeadlineBenchModel" "DeadlineBenchModel" "now" "I") ∈ db_gw := List.mem_filter.mpr ⟨List.mem_of_getElem? (i := 538) (by decide +kernel), by decide +kernel⟩
theorem wd_489 : (Jvm.Cond.laysFinal "DeadlineBenchModel" "DeadlineBenchModel" "live" "[Z") ∈ db_gw := List.mem_filter.mpr ⟨List.mem_of_getElem? (i := 540) (by decide +kernel), by decide +kernel⟩
theorem wd_491 : (Jvm.Cond.laysFinal "DeadlineBenchModel" "DeadlineBenchModel" "period" "[I") ∈ db_gw := List.mem_filter.mpr ⟨List.mem_of_getElem? (i := 542) (by decide +kernel), by decide +kernel⟩
theorem wd_493 : (Jvm.Cond.laysFinal "DeadlineBenchModel" "DeadlineBenchModel" "work" "[I") ∈ db_gw := List.mem_filter.mpr ⟨List.mem_of_getElem? (i := 544) (by decide +kernel), by decide +kernel⟩
theorem wd_495 : (Jvm.Cond.laysFinal "DeadlineBenchModel" "DeadlineBenchModel" "deadline" "[I") ∈ db_gw := List.mem_filter.mpr ⟨List.mem_of_getElem? (i := 546) (by decide +kernel), by decide +kernel⟩
theorem wd_497 : (Jvm.Cond.laysFinal "DeadlineBenchModel" "DeadlineBenchModel" "next" "[I") ∈ db_gw := List.mem_filter.mpr ⟨List.mem_of_getElem? (i := 548) (by decide +kernel), by decide +kernel⟩
theorem wd_499 : (Jvm.Cond.laysFinal "DeadlineBenchModel" "DeadlineBenchModel" "released" "[I") ∈ db_gw := List.mem_filter.mpr ⟨List.mem_of_getElem? (i := 550) (by decide +kernel), by decide +kernel⟩
theorem wd_501 : (Jvm.Cond.laysFinal "DeadlineBenchModel" "DeadlineBenchModel" "finished" "[I") ∈ db_gw := List.mem_filter.mpr ⟨List.mem_of_getElem? (i := 552) (by decide +kernel), by decide +kernel⟩
theorem wd_503 : (Jvm.Cond.laysFinal "DeadlineBenchModel" "DeadlineBenchModel" "missed" "[I") ∈ db_gw := List.mem_filter.mpr ⟨List.mem_of_getElem? (i := 554) (by decide +kernel), by decide +kernel⟩
theorem wd_505 : (Jvm.Cond.laysFinal "DeadlineBenchModel" "DeadlineBenchModel" "waited" "[I") ∈ db_gw := List.mem_filter.mpr ⟨List.mem_of_getElem? (i := 556) (by decide +kernel), by decide +kernel⟩
theorem wd_507 : (Jvm.Cond.laysFinal "DeadlineBenchModel" "DeadlineBenchModel" "putBy" "[I") ∈ db_gw := List.mem_filter.mpr ⟨List.mem_of_getElem? (i := 558) (by decide +kernel), by decide +kernel⟩
theorem wd_509 : (Jvm.Cond.laysFinal "DeadlineBenchModel" "DeadlineBenchModel" "answer" "[I") ∈ db_gw := List.mem_filter.mpr ⟨List.mem_of_getElem? (i := 560) (by decide +kernel), by decide +kernel⟩
theorem wd_511 : (Jvm.Cond.laysFinal "DeadlineBenchModel" "DeadlineBenchModel" "pending" "[Z") ∈ db_gw := List.mem_filter.mpr ⟨List.mem_of_getElem? (i := 562) (by decide +kernel), by decide +kernel⟩
theorem wd_513 : (Jvm.Cond.laysFinal "DeadlineBenchModel" "DeadlineBenchModel" "came" "[I") ∈ db_gw := List.mem_filter.mpr ⟨List.mem_of_getElem? (i := 564) (by decide +kernel), by decide +kernel⟩
theorem wd_515 : (Jvm.Cond.laysFinal "DeadlineBenchModel" "DeadlineBenchModel" "due" "[I") ∈ db_gw := List.mem_filter.mpr ⟨List.mem_of_getElem? (i := 566) (by decide +kernel), by decide +kernel⟩
theorem wd_517 : (Jvm.Cond.laysFinal "DeadlineBenchModel" "DeadlineBenchModel" "units" "[I") ∈ db_gw := List.mem_filter.mpr ⟨List.mem_of_getElem? (i := 568) (by decide +kernel), by decide +kernel⟩
theorem wd_519 : (Jvm.Cond.laysFinal "DeadlineBenchModel" "DeadlineBenchModel" "waits" "[I") ∈ db_gw := List.mem_filter.mpr ⟨List.mem_of_getElem? (i := 570) (by decide +kernel), by decide +kernel⟩
theorem wd_521 : (Jvm.Cond.laysFinal "DeadlineBenchModel" "DeadlineBenchModel" "ranBefore" "[Z") ∈ db_gw := List.mem_filter.mpr ⟨List.mem_of_getElem? (i := 572) (by decide +kernel), by decide +kernel⟩
theorem wd_523 : (Jvm.Cond.laysFinal "DeadlineBenchModel" "DeadlineBenchModel" "holder" "[I") ∈ db_gw := List.mem_filter.mpr ⟨List.mem_of_getElem? (i := 574) (by decide +kernel), by decide +kernel⟩
theorem wd_525 : (Jvm.Cond.lays "DeadlineBenchModel" "DeadlineBenchModel" "sections" "I") ∈ db_gw := List.mem_filter.mpr ⟨List.mem_of_getElem? (i := 576) (by decide +kernel), by decide +kernel⟩
theorem wd_527 : (Jvm.Cond.laysFinal "DeadlineBenchModel" "DeadlineBenchModel" "ofTask" "[I") ∈ db_gw := List.mem_filter.mpr ⟨List.mem_of_getElem? (i := 578) (by decide +kernel), by decide +kernel⟩
theorem wd_529 : (Jvm.Cond.laysFinal "DeadlineBenchModel" "DeadlineBenchModel" "ofLock" "[I") ∈ db_gw := List.mem_filter.mpr ⟨List.mem_of_getElem? (i := 580) (by decide +kernel), by decide +kernel⟩
theorem wd_531 : (Jvm.Cond.laysFinal "DeadlineBenchModel" "DeadlineBenchModel" "begin" "[I") ∈ db_gw := List.mem_filter.mpr ⟨List.mem_of_getElem? (i := 582) (by decide +kernel), by decide +kernel⟩
theorem wd_533 : (Jvm.Cond.laysFinal "DeadlineBenchModel" "DeadlineBenchModel" "length" "[I") ∈ db_gw := List.mem_filter.mpr ⟨List.mem_of_getElem? (i := 584) (by decide +kernel), by decide +kernel⟩
theorem wd_535 : (Jvm.Cond.laysFinal "DeadlineBenchModel" "DeadlineBenchModel" "first" "[I") ∈ db_gw := List.mem_filter.mpr ⟨List.mem_of_getElem? (i := 586) (by decide +kernel), by decide +kernel⟩
theorem wd_537 : (Jvm.Cond.lays "DeadlineBenchModel" "DeadlineBenchModel" "misses" "I") ∈ db_gw := List.mem_filter.mpr ⟨List.mem_of_getElem? (i := 588) (by decide +kernel), by decide +kernel⟩
theorem wd_539 : (Jvm.Cond.laysFinal "DeadlineBenchModel" "DeadlineBenchModel" "missTask" "[I") ∈ db_gw := List.mem_filter.mpr ⟨List.mem_of_getElem? (i := 590) (by decide +kernel), by decide +kernel⟩
theorem wd_541 : (Jvm.Cond.laysFinal "DeadlineBenchModel" "DeadlineBenchModel" "missTime" "[I") ∈ db_gw := List.mem_filter.mpr ⟨List.mem_of_getElem? (i := 592) (by decide +kernel), by decide +kernel⟩
theorem wd_543 : (Jvm.Cond.laysFinal "DeadlineBenchModel" "DeadlineBenchModel" "ranTasks" "[I") ∈ db_gw := List.mem_filter.mpr ⟨List.mem_of_getElem? (i := 594) (by decide +kernel), by decide +kernel⟩
theorem wd_545 : (Jvm.Cond.lays "DeadlineBenchModel" "DeadlineBenchModel" "ticks" "I") ∈ db_gw := List.mem_filter.mpr ⟨List.mem_of_getElem? (i := 596) (by decide +kernel), by decide +kernel⟩
theorem wd_547 : (Jvm.Cond.lays "DeadlineBenchModel" "DeadlineBenchModel" "idle" "I") ∈ db_gw := List.mem_filter.mpr ⟨List.mem_of_getElem? (i := 598) (by decide +kernel), by decide +kernel⟩
theorem wd_550 : (Jvm.Cond.arrayClass Jvm.ClassFile.FieldType.boolean) ∈ db_gw := List.mem_filter.mpr ⟨List.mem_of_getElem? (i := 601) (by decide +kernel), by decide +kernel⟩
theorem wd_551 : (Jvm.Cond.methodLink "DeadlineBenchLaw" (25 : Nat) ({ cls := "DeadlineBenchModel", name := "addTask", desc := "(III)I" } : Jvm.MethodName)) ∈ db_gw := List.mem_filter.mpr ⟨List.mem_of_getElem? (i := 602) (by decide +kernel), by decide +kernel⟩
theorem wd_552 : (Jvm.Cond.instanceMethod ({ cls := "DeadlineBenchModel", name := "addTask", desc := "(III)I" } : Jvm.MethodName)) ∈ db_gw := List.mem_filter.mpr ⟨List.mem_of_getElem? (i := 603) (by decide +kernel), by decide +kernel⟩
theorem wd_553 : (Jvm.Cond.selects "DeadlineBenchModel" ({ cls := "DeadlineBenchModel", name := "addTask", desc := "(III)I" } : Jvm.MethodName) ({ cls := "DeadlineBenchModel", name := "addTask", desc := "(III)I" } : Jvm.MethodName)) ∈ db_gw := List.mem_filter.mpr ⟨List.mem_of_getElem? (i := 604) (by decide +kernel), by decide +kernel⟩
theorem wd_554 : (Jvm.Cond.code ({ cls := "DeadlineBenchModel", name := "addTask", desc := "(III)I" } : Jvm.MethodName) prog_9_method_10_code (5 : Nat) (Option.some Jvm.ClassFile.FieldType.int)) ∈ db_gw := List.mem_filter.mpr ⟨List.mem_of_getElem? (i := 605) (by decide +kernel), by decide +kernel⟩
theorem wd_555 : (Jvm.Cond.methodLink "DeadlineBenchLaw" (30 : Nat) ({ cls := "DeadlineBenchModel", name := "addSection", desc := "(IIII)Z" } : Jvm.MethodName)) ∈ db_gw := List.mem_filter.mpr ⟨List.mem_of_getElem? (i := 606) (by decide +kernel), by decide +kernel⟩
theorem wd_556 : (Jvm.Cond.instanceMethod ({ cls := "DeadlineBenchModel", name := "addSection", desc := "(IIII)Z" } : Jvm.MethodName)) ∈ db_gw := List.mem_filter.mpr ⟨List.mem_of_getElem? (i := 607) (by decide +kernel), by decide +kernel⟩
theorem wd_557 : (Jvm.Cond.selects "DeadlineBenchModel" ({ cls := "DeadlineBenchModel", name := "addSection", desc := "(IIII)Z" } : Jvm.MethodName) ({ cls := "DeadlineBenchModel", name := "addSection", desc := "(IIII)Z" } : Jvm.MethodName)) ∈ db_gw := List.mem_filter.mpr ⟨List.mem_of_getElem? (i := 608) (by decide +kernel), by decide +kernel⟩
theorem wd_558 : (Jvm.Cond.code ({ cls := "DeadlineBenchModel", name := "addSection", desc := "(IIII)Z" } : Jvm.MethodName) prog_9_method_12_code (6 : Nat) (Option.some Jvm.ClassFile.FieldType.boolean)) ∈ db_gw := List.mem_filter.mpr ⟨List.mem_of_getElem? (i := 609) (by decide +kernel), by decide +kernel⟩
theorem wd_559 : (Jvm.Cond.methodLink "DeadlineBenchModel" (109 : Nat) ({ cls := "DeadlineBenchModel", name := "isLive", desc := "(I)Z" } : Jvm.MethodName)) ∈ db_gw := List.mem_filter.mpr ⟨List.mem_of_getElem? (i := 610) (by decide +kernel), by decide +kernel⟩
theorem wd_561 : (Jvm.Cond.instanceMethod ({ cls := "DeadlineBenchModel", name := "isLive", desc := "(I)Z" } : Jvm.MethodName)) ∈ db_gw := List.mem_filter.mpr ⟨List.mem_of_getElem? (i := 612) (by decide +kernel), by decide +kernel⟩
theorem wd_562 : (Jvm.Cond.code ({ cls := "DeadlineBenchModel", name := "isLive", desc := "(I)Z" } : Jvm.MethodName) prog_9_method_3_code (2 : Nat) (Option.some Jvm.ClassFile.FieldType.boolean)) ∈ db_gw := List.mem_filter.mpr ⟨List.mem_of_getElem? (i := 613) (by decide +kernel), by decide +kernel⟩
theorem wd_563 : (Jvm.Cond.methodLink "DeadlineBenchModel" (130 : Nat) ({ cls := "DeadlineBenchModel", name := "isLock", desc := "(I)Z" } : Jvm.MethodName)) ∈ db_gw := List.mem_filter.mpr ⟨List.mem_of_getElem? (i := 614) (by decide +kernel), by decide +kernel⟩
theorem wd_565 : (Jvm.Cond.instanceMethod ({ cls := "DeadlineBenchModel", name := "isLock", desc := "(I)Z" } : Jvm.MethodName)) ∈ db_gw := List.mem_filter.mpr ⟨List.mem_of_getElem? (i := 616) (by decide +kernel), by decide +kernel⟩
theorem wd_566 : (Jvm.Cond.code ({ cls := "DeadlineBenchModel", name := "isLock", desc := "(I)Z" } : Jvm.MethodName) prog_9_method_5_code (2 : Nat) (Option.some Jvm.ClassFile.FieldType.boolean)) ∈ db_gw := List.mem_filter.mpr ⟨List.mem_of_getElem? (i := 617) (by decide +kernel), by decide +kernel⟩
theorem wd_567 : (Jvm.Cond.methodLink "DeadlineBenchModel" (136 : Nat) ({ cls := "DeadlineBenchModel", name := "mayStand", desc := "(IIII)Z" } : Jvm.MethodName)) ∈ db_gw := List.mem_filter.mpr ⟨List.mem_of_getElem? (i := 618) (by decide +kernel), by decide +kernel⟩
theorem wd_569 : (Jvm.Cond.instanceMethod ({ cls := "DeadlineBenchModel", name := "mayStand", desc := "(IIII)Z" } : Jvm.MethodName)) ∈ db_gw := List.mem_filter.mpr ⟨List.mem_of_getElem? (i := 620) (by decide +kernel), by decide +kernel⟩
theorem wd_570 : (Jvm.Cond.code ({ cls := "DeadlineBenchModel", name := "mayStand", desc := "(IIII)Z" } : Jvm.MethodName) prog_9_method_11_code (8 : Nat) (Option.some Jvm.ClassFile.FieldType.boolean)) ∈ db_gw := List.mem_filter.mpr ⟨List.mem_of_getElem? (i := 621) (by decide +kernel), by decide +kernel⟩
theorem wd_571 : (Jvm.Cond.methodLink "DeadlineBenchLaw" (35 : Nat) ({ cls := "DeadlineBenchModel", name := "removeTask", desc := "(I)Z" } : Jvm.MethodName)) ∈ db_gw := List.mem_filter.mpr ⟨List.mem_of_getElem? (i := 622) (by decide +kernel), by decide +kernel⟩
theorem wd_572 : (Jvm.Cond.instanceMethod ({ cls := "DeadlineBenchModel", name := "removeTask", desc := "(I)Z" } : Jvm.MethodName)) ∈ db_gw := List.mem_filter.mpr ⟨List.mem_of_getElem? (i := 623) (by decide +kernel), by decide +kernel⟩
theorem wd_573 : (Jvm.Cond.selects "DeadlineBenchModel" ({ cls := "DeadlineBenchModel", name := "removeTask", desc := "(I)Z" } : Jvm.MethodName) ({ cls := "DeadlineBenchModel", name := "removeTask", desc := "(I)Z" } : Jvm.MethodName)) ∈ db_gw := List.mem_filter.mpr ⟨List.mem_of_getElem? (i := 624) (by decide +kernel), by decide +kernel⟩
theorem wd_574 : (Jvm.Cond.code ({ cls := "DeadlineBenchModel", name := "removeTask", desc := "(I)Z" } : Jvm.MethodName) prog_9_method_13_code (4 : Nat) (Option.some Jvm.ClassFile.FieldType.boolean)) ∈ db_gw := List.mem_filter.mpr ⟨List.mem_of_getElem? (i := 625) (by decide +kernel), by decide +kernel⟩
theorem wd_575 : (Jvm.Cond.methodLink "DeadlineBenchModel" (140 : Nat) ({ cls := "DeadlineBenchModel", name := "drops", desc := "(I)V" } : Jvm.MethodName)) ∈ db_gw := List.mem_filter.mpr ⟨List.mem_of_getElem? (i := 626) (by decide +kernel), by decide +kernel⟩
theorem wd_577 : (Jvm.Cond.instanceMethod ({ cls := "DeadlineBenchModel", name := "drops", desc := "(I)V" } : Jvm.MethodName)) ∈ db_gw := List.mem_filter.mpr ⟨List.mem_of_getElem? (i := 628) (by decide +kernel), by decide +kernel⟩
theorem wd_578 : (Jvm.Cond.code ({ cls := "DeadlineBenchModel", name := "drops", desc := "(I)V" } : Jvm.MethodName) prog_9_method_9_code (3 : Nat) (Option.none : Option Jvm.ClassFile.FieldType)) ∈ db_gw := List.mem_filter.mpr ⟨List.mem_of_getElem? (i := 629) (by decide +kernel), by decide +kernel⟩
theorem wd_579 : (Jvm.Cond.methodLink "DeadlineBenchModel" (123 : Nat) ({ cls := "DeadlineBenchModel", name := "letsGo", desc := "(I)V" } : Jvm.MethodName)) ∈ db_gw := List.mem_filter.mpr ⟨List.mem_of_getElem? (i := 630) (by decide +kernel), by decide +kernel⟩
theorem wd_581 : (Jvm.Cond.instanceMethod ({ cls := "DeadlineBenchModel", name := "letsGo", desc := "(I)V" } : Jvm.MethodName)) ∈ db_gw := List.mem_filter.mpr ⟨List.mem_of_getElem? (i := 632) (by decide +kernel), by decide +kernel⟩
theorem wd_582 : (Jvm.Cond.code ({ cls := "DeadlineBenchModel", name := "letsGo", desc := "(I)V" } : Jvm.MethodName) prog_9_method_8_code (3 : Nat) (Option.none : Option Jvm.ClassFile.FieldType)) ∈ db_gw := List.mem_filter.mpr ⟨List.mem_of_getElem? (i := 633) (by decide +kernel), by decide +kernel⟩
theorem wd_583 : (Jvm.Cond.methodLink "DeadlineBenchModel" (119 : Nat) ({ cls := "DeadlineBenchModel", name := "ahead", desc := "(I)I" } : Jvm.MethodName)) ∈ db_gw := List.mem_filter.mpr ⟨List.mem_of_getElem? (i := 634) (by decide +kernel), by decide +kernel⟩
theorem wd_585 : (Jvm.Cond.instanceMethod ({ cls := "DeadlineBenchModel", name := "ahead", desc := "(I)I" } : Jvm.MethodName)) ∈ db_gw := List.mem_filter.mpr ⟨List.mem_of_getElem? (i := 636) (by decide +kernel), by decide +kernel⟩
theorem wd_586 : (Jvm.Cond.code ({ cls := "DeadlineBenchModel", name := "ahead", desc := "(I)I" } : Jvm.MethodName) prog_9_method_7_code (4 : Nat) (Option.some Jvm.ClassFile.FieldType.int)) ∈ db_gw := List.mem_filter.mpr ⟨List.mem_of_getElem? (i := 637) (by decide +kernel), by decide +kernel⟩
theorem wd_587 : (Jvm.Cond.methodLink "DeadlineBenchModel" (116 : Nat) ({ cls := "DeadlineBenchModel", name := "reckons", desc := "()V" } : Jvm.MethodName)) ∈ db_gw := List.mem_filter.mpr ⟨List.mem_of_getElem? (i := 638) (by decide +kernel), by decide +kernel⟩
theorem wd_589 : (Jvm.Cond.instanceMethod ({ cls := "DeadlineBenchModel", name := "reckons", desc := "()V" } : Jvm.MethodName)) ∈ db_gw := List.mem_filter.mpr ⟨List.mem_of_getElem? (i := 640) (by decide +kernel), by decide +kernel⟩
theorem wd_590 : (Jvm.Cond.code ({ cls := "DeadlineBenchModel", name := "reckons", desc := "()V" } : Jvm.MethodName) prog_9_method_6_code (4 : Nat) (Option.none : Option Jvm.ClassFile.FieldType)) ∈ db_gw := List.mem_filter.mpr ⟨List.mem_of_getElem? (i := 641) (by decide +kernel), by decide +kernel⟩
theorem wd_591 : (Jvm.Cond.methodLink "DeadlineBenchModel" (113 : Nat) ({ cls := "DeadlineBenchModel", name := "isPending", desc := "(I)Z" } : Jvm.MethodName)) ∈ db_gw := List.mem_filter.mpr ⟨List.mem_of_getElem? (i := 642) (by decide +kernel), by decide +kernel⟩
theorem wd_593 : (Jvm.Cond.instanceMethod ({ cls := "DeadlineBenchModel", name := "isPending", desc := "(I)Z" } : Jvm.MethodName)) ∈ db_gw := List.mem_filter.mpr ⟨List.mem_of_getElem? (i := 644) (by decide +kernel), by decide +kernel⟩
theorem wd_594 : (Jvm.Cond.code ({ cls := "DeadlineBenchModel", name := "isPending", desc := "(I)Z" } : Jvm.MethodName) prog_9_method_4_code (2 : Nat) (Option.some Jvm.ClassFile.FieldType.boolean)) ∈ db_gw := List.mem_filter.mpr ⟨List.mem_of_getElem? (i := 645) (by decide +kernel), by decide +kernel⟩
theorem wd_595 : (Jvm.Cond.methodLink "DeadlineBenchLaw" (40 : Nat) ({ cls := "DeadlineBenchModel", name := "admissible", desc := "()Z" } : Jvm.MethodName)) ∈ db_gw := List.mem_filter.mpr ⟨List.mem_of_getElem? (i := 646) (by decide +kernel), by decide +kernel⟩
theorem wd_596 : (Jvm.Cond.instanceMethod ({ cls := "DeadlineBenchModel", name := "admissible", desc := "()Z" } : Jvm.MethodName)) ∈ db_gw := List.mem_filter.mpr ⟨List.mem_of_getElem? (i := 647) (by decide +kernel), by decide +kernel⟩
theorem wd_597 : (Jvm.Cond.selects "DeadlineBenchModel" ({ cls := "DeadlineBenchModel", name := "admissible", desc := "()Z" } : Jvm.MethodName) ({ cls := "DeadlineBenchModel", name := "admissible", desc := "()Z" } : Jvm.MethodName)) ∈ db_gw := List.mem_filter.mpr ⟨List.mem_of_getElem? (i := 648) (by decide +kernel), by decide +kernel⟩
theorem wd_598 : (Jvm.Cond.code ({ cls := "DeadlineBenchModel", name := "admissible", desc := "()Z" } : Jvm.MethodName) prog_9_method_14_code (6 : Nat) (Option.some Jvm.ClassFile.FieldType.boolean)) ∈ db_gw := List.mem_filter.mpr ⟨List.mem_of_getElem? (i := 649) (by decide +kernel), by decide +kernel⟩
theorem wd_599 : (Jvm.Cond.methodLink "DeadlineBenchLaw" (45 : Nat) ({ cls := "DeadlineBenchModel", name := "tick", desc := "()I" } : Jvm.MethodName)) ∈ db_gw := List.mem_filter.mpr ⟨List.mem_of_getElem? (i := 650) (by decide +kernel), by decide +kernel⟩
theorem wd_600 : (Jvm.Cond.instanceMethod ({ cls := "DeadlineBenchModel", name := "tick", desc := "()I" } : Jvm.MethodName)) ∈ db_gw := List.mem_filter.mpr ⟨List.mem_of_getElem? (i := 651) (by decide +kernel), by decide +kernel⟩
theorem wd_601 : (Jvm.Cond.selects "DeadlineBenchModel" ({ cls := "DeadlineBenchModel", name := "tick", desc := "()I" } : Jvm.MethodName) ({ cls := "DeadlineBenchModel", name := "tick", desc := "()I" } : Jvm.MethodName)) ∈ db_gw := List.mem_filter.mpr ⟨List.mem_of_getElem? (i := 652) (by decide +kernel), by decide +kernel⟩
theorem wd_602 : (Jvm.Cond.code ({ cls := "DeadlineBenchModel", name := "tick", desc := "()I" } : Jvm.MethodName) prog_9_method_23_code (1 : Nat) (Option.some Jvm.ClassFile.FieldType.int)) ∈ db_gw := List.mem_filter.mpr ⟨List.mem_of_getElem? (i := 653) (by decide +kernel), by decide +kernel⟩
theorem wd_603 : (Jvm.Cond.methodLink "DeadlineBenchModel" (174 : Nat) ({ cls := "DeadlineBenchModel", name := "turns", desc := "()Z" } : Jvm.MethodName)) ∈ db_gw := List.mem_filter.mpr ⟨List.mem_of_getElem? (i := 654) (by decide +kernel), by decide +kernel⟩
theorem wd_605 : (Jvm.Cond.instanceMethod ({ cls := "DeadlineBenchModel", name := "turns", desc := "()Z" } : Jvm.MethodName)) ∈ db_gw := List.mem_filter.mpr ⟨List.mem_of_getElem? (i := 656) (by decide +kernel), by decide +kernel⟩
theorem wd_606 : (Jvm.Cond.code ({ cls := "DeadlineBenchModel", name := "turns", desc := "()Z" } : Jvm.MethodName) prog_9_method_22_code (3 : Nat) (Option.some Jvm.ClassFile.FieldType.boolean)) ∈ db_gw := List.mem_filter.mpr ⟨List.mem_of_getElem? (i := 657) (by decide +kernel), by decide +kernel⟩
theorem wd_607 : (Jvm.Cond.methodLink "DeadlineBenchModel" (152 : Nat) ({ cls := "DeadlineBenchModel", name := "misses", desc := "()Z" } : Jvm.MethodName)) ∈ db_gw := List.mem_filter.mpr ⟨List.mem_of_getElem? (i := 658) (by decide +kernel), by decide +kernel⟩
theorem wd_609 : (Jvm.Cond.instanceMethod ({ cls := "DeadlineBenchModel", name := "misses", desc := "()Z" } : Jvm.MethodName)) ∈ db_gw := List.mem_filter.mpr ⟨List.mem_of_getElem? (i := 660) (by decide +kernel), by decide +kernel⟩
theorem wd_610 : (Jvm.Cond.code ({ cls := "DeadlineBenchModel", name := "misses", desc := "()Z" } : Jvm.MethodName) prog_9_method_15_code (3 : Nat) (Option.some Jvm.ClassFile.FieldType.boolean)) ∈ db_gw := List.mem_filter.mpr ⟨List.mem_of_getElem? (i := 661) (by decide +kernel), by decide +kernel⟩
theorem wd_611 : (Jvm.Cond.methodLink "DeadlineBenchModel" (155 : Nat) ({ cls := "DeadlineBenchModel", name := "releases", desc := "()V" } : Jvm.MethodName)) ∈ db_gw := List.mem_filter.mpr ⟨List.mem_of_getElem? (i := 662) (by decide +kernel), by decide +kernel⟩
theorem wd_613 : (Jvm.Cond.instanceMethod ({ cls := "DeadlineBenchModel", name := "releases", desc := "()V" } : Jvm.MethodName)) ∈ db_gw := List.mem_filter.mpr ⟨List.mem_of_getElem? (i := 664) (by decide +kernel), by decide +kernel⟩
theorem wd_614 : (Jvm.Cond.code ({ cls := "DeadlineBenchModel", name := "releases", desc := "()V" } : Jvm.MethodName) prog_9_method_16_code (2 : Nat) (Option.none : Option Jvm.ClassFile.FieldType)) ∈ db_gw := List.mem_filter.mpr ⟨List.mem_of_getElem? (i := 665) (by decide +kernel), by decide +kernel⟩
theorem wd_615 : (Jvm.Cond.methodLink "DeadlineBenchModel" (158 : Nat) ({ cls := "DeadlineBenchModel", name := "taken", desc := "()I" } : Jvm.MethodName)) ∈ db_gw := List.mem_filter.mpr ⟨List.mem_of_getElem? (i := 666) (by decide +kernel), by decide +kernel⟩
theorem wd_617 : (Jvm.Cond.instanceMethod ({ cls := "DeadlineBenchModel", name := "taken", desc := "()I" } : Jvm.MethodName)) ∈ db_gw := List.mem_filter.mpr ⟨List.mem_of_getElem? (i := 668) (by decide +kernel), by decide +kernel⟩
theorem wd_618 : (Jvm.Cond.code ({ cls := "DeadlineBenchModel", name := "taken", desc := "()I" } : Jvm.MethodName) prog_9_method_18_code (3 : Nat) (Option.some Jvm.ClassFile.FieldType.int)) ∈ db_gw := List.mem_filter.mpr ⟨List.mem_of_getElem? (i := 669) (by decide +kernel), by decide +kernel⟩
theorem wd_619 : (Jvm.Cond.methodLink "DeadlineBenchModel" (146 : Nat) ({ cls := "DeadlineBenchModel", name := "wanted", desc := "(I)I" } : Jvm.MethodName)) ∈ db_gw := List.mem_filter.mpr ⟨List.mem_of_getElem? (i := 670) (by decide +kernel), by decide +kernel⟩
theorem wd_621 : (Jvm.Cond.instanceMethod ({ cls := "DeadlineBenchModel", name := "wanted", desc := "(I)I" } : Jvm.MethodName)) ∈ db_gw := List.mem_filter.mpr ⟨List.mem_of_getElem? (i := 672) (by decide +kernel), by decide +kernel⟩
theorem wd_622 : (Jvm.Cond.code ({ cls := "DeadlineBenchModel", name := "wanted", desc := "(I)I" } : Jvm.MethodName) prog_9_method_17_code (4 : Nat) (Option.some Jvm.ClassFile.FieldType.int)) ∈ db_gw := List.mem_filter.mpr ⟨List.mem_of_getElem? (i := 673) (by decide +kernel), by decide +kernel⟩
theorem wd_623 : (Jvm.Cond.methodLink "DeadlineBenchModel" (165 : Nat) ({ cls := "DeadlineBenchModel", name := "works", desc := "(I)V" } : Jvm.MethodName)) ∈ db_gw := List.mem_filter.mpr ⟨List.mem_of_getElem? (i := 674) (by decide +kernel), by decide +kernel⟩
theorem wd_625 : (Jvm.Cond.instanceMethod ({ cls := "DeadlineBenchModel", name := "works", desc := "(I)V" } : Jvm.MethodName)) ∈ db_gw := List.mem_filter.mpr ⟨List.mem_of_getElem? (i := 676) (by decide +kernel), by decide +kernel⟩
theorem wd_626 : (Jvm.Cond.code ({ cls := "DeadlineBenchModel", name := "works", desc := "(I)V" } : Jvm.MethodName) prog_9_method_20_code (4 : Nat) (Option.none : Option Jvm.ClassFile.FieldType)) ∈ db_gw := List.mem_filter.mpr ⟨List.mem_of_getElem? (i := 677) (by decide +kernel), by decide +kernel⟩
theorem wd_627 : (Jvm.Cond.methodLink "DeadlineBenchModel" (149 : Nat) ({ cls := "DeadlineBenchModel", name := "ending", desc := "(I)I" } : Jvm.MethodName)) ∈ db_gw := List.mem_filter.mpr ⟨List.mem_of_getElem? (i := 678) (by decide +kernel), by decide +kernel⟩
theorem wd_629 : (Jvm.Cond.instanceMethod ({ cls := "DeadlineBenchModel", name := "ending", desc := "(I)I" } : Jvm.MethodName)) ∈ db_gw := List.mem_filter.mpr ⟨List.mem_of_getElem? (i := 680) (by decide +kernel), by decide +kernel⟩
theorem wd_630 : (Jvm.Cond.code ({ cls := "DeadlineBenchModel", name := "ending", desc := "(I)I" } : Jvm.MethodName) prog_9_method_19_code (4 : Nat) (Option.some Jvm.ClassFile.FieldType.int)) ∈ db_gw := List.mem_filter.mpr ⟨List.mem_of_getElem? (i := 681) (by decide +kernel), by decide +kernel⟩
theorem wd_631 : (Jvm.Cond.methodLink "DeadlineBenchModel" (168 : Nat) ({ cls := "DeadlineBenchModel", name := "counts", desc := "(I)V" } : Jvm.MethodName)) ∈ db_gw := List.mem_filter.mpr ⟨List.mem_of_getElem? (i := 682) (by decide +kernel), by decide +kernel⟩
theorem wd_633 : (Jvm.Cond.instanceMethod ({ cls := "DeadlineBenchModel", name := "counts", desc := "(I)V" } : Jvm.MethodName)) ∈ db_gw := List.mem_filter.mpr ⟨List.mem_of_getElem? (i := 684) (by decide +kernel), by decide +kernel⟩
theorem wd_634 : (Jvm.Cond.code ({ cls := "DeadlineBenchModel", name := "counts", desc := "(I)V" } : Jvm.MethodName) prog_9_method_21_code (4 : Nat) (Option.none : Option Jvm.ClassFile.FieldType)) ∈ db_gw := List.mem_filter.mpr ⟨List.mem_of_getElem? (i := 685) (by decide +kernel), by decide +kernel⟩
theorem wd_635 : (Jvm.Cond.methodLink "DeadlineBenchLaw" (50 : Nat) ({ cls := "DeadlineBenchModel", name := "run", desc := "(I)I" } : Jvm.MethodName)) ∈ db_gw := List.mem_filter.mpr ⟨List.mem_of_getElem? (i := 686) (by decide +kernel), by decide +kernel⟩
theorem wd_636 : (Jvm.Cond.instanceMethod ({ cls := "DeadlineBenchModel", name := "run", desc := "(I)I" } : Jvm.MethodName)) ∈ db_gw := List.mem_filter.mpr ⟨List.mem_of_getElem? (i := 687) (by decide +kernel), by decide +kernel⟩
theorem wd_637 : (Jvm.Cond.selects "DeadlineBenchModel" ({ cls := "DeadlineBenchModel", name := "run", desc := "(I)I" } : Jvm.MethodName) ({ cls := "DeadlineBenchModel", name := "run", desc := "(I)I" } : Jvm.MethodName)) ∈ db_gw := List.mem_filter.mpr ⟨List.mem_of_getElem? (i := 688) (by decide +kernel), by decide +kernel⟩
theorem wd_638 : (Jvm.Cond.code ({ cls := "DeadlineBenchModel", name := "run", desc := "(I)I" } : Jvm.MethodName) prog_9_method_24_code (4 : Nat) (Option.some Jvm.ClassFile.FieldType.int)) ∈ db_gw := List.mem_filter.mpr ⟨List.mem_of_getElem? (i := 689) (by decide +kernel), by decide +kernel⟩
theorem wd_639 : (Jvm.Cond.methodLink "DeadlineBenchLaw" (54 : Nat) ({ cls := "DeadlineBenchModel", name := "ran", desc := "(I)I" } : Jvm.MethodName)) ∈ db_gw := List.mem_filter.mpr ⟨List.mem_of_getElem? (i := 690) (by decide +kernel), by decide +kernel⟩
theorem wd_640 : (Jvm.Cond.instanceMethod ({ cls := "DeadlineBenchModel", name := "ran", desc := "(I)I" } : Jvm.MethodName)) ∈ db_gw := List.mem_filter.mpr ⟨List.mem_of_getElem? (i := 691) (by decide +kernel), by decide +kernel⟩
theorem wd_641 : (Jvm.Cond.selects "DeadlineBenchModel" ({ cls := "DeadlineBenchModel", name := "ran", desc := "(I)I" } : Jvm.MethodName) ({ cls := "DeadlineBenchModel", name := "ran", desc := "(I)I" } : Jvm.MethodName)) ∈ db_gw := List.mem_filter.mpr ⟨List.mem_of_getElem? (i := 692) (by decide +kernel), by decide +kernel⟩
theorem wd_642 : (Jvm.Cond.code ({ cls := "DeadlineBenchModel", name := "ran", desc := "(I)I" } : Jvm.MethodName) prog_9_method_25_code (2 : Nat) (Option.some Jvm.ClassFile.FieldType.int)) ∈ db_gw := List.mem_filter.mpr ⟨List.mem_of_getElem? (i := 693) (by decide +kernel), by decide +kernel⟩
theorem wd_643 : (Jvm.Cond.methodLink "DeadlineBenchLaw" (58 : Nat) ({ cls := "DeadlineBenchModel", name := "remaining", desc := "(I)I" } : Jvm.MethodName)) ∈ db_gw := List.mem_filter.mpr ⟨List.mem_of_getElem? (i := 694) (by decide +kernel), by decide +kernel⟩
theorem wd_644 : (Jvm.Cond.instanceMethod ({ cls := "DeadlineBenchModel", name := "remaining", desc := "(I)I" } : Jvm.MethodName)) ∈ db_gw := List.mem_filter.mpr ⟨List.mem_of_getElem? (i := 695) (by decide +kernel), by decide +kernel⟩
theorem wd_645 : (Jvm.Cond.selects "DeadlineBenchModel" ({ cls := "DeadlineBenchModel", name := "remaining", desc := "(I)I" } : Jvm.MethodName) ({ cls := "DeadlineBenchModel", name := "remaining", desc := "(I)I" } : Jvm.MethodName)) ∈ db_gw := List.mem_filter.mpr ⟨List.mem_of_getElem? (i := 696) (by decide +kernel), by decide +kernel⟩
theorem wd_646 : (Jvm.Cond.code ({ cls := "DeadlineBenchModel", name := "remaining", desc := "(I)I" } : Jvm.MethodName) prog_9_method_26_code (2 : Nat) (Option.some Jvm.ClassFile.FieldType.int)) ∈ db_gw := List.mem_filter.mpr ⟨List.mem_of_getElem? (i := 697) (by decide +kernel), by decide +kernel⟩
theorem wd_647 : (Jvm.Cond.methodLink "DeadlineBenchLaw" (62 : Nat) ({ cls := "DeadlineBenchModel", name := "deadlineOf", desc := "(I)I" } : Jvm.MethodName)) ∈ db_gw := List.mem_filter.mpr ⟨List.mem_of_getElem? (i := 698) (by decide +kernel), by decide +kernel⟩
theorem wd_648 : (Jvm.Cond.instanceMethod ({ cls := "DeadlineBenchModel", name := "deadlineOf", desc := "(I)I" } : Jvm.MethodName)) ∈ db_gw := List.mem_filter.mpr ⟨List.mem_of_getElem? (i := 699) (by decide +kernel), by decide +kernel⟩
theorem wd_649 : (Jvm.Cond.selects "DeadlineBenchModel" ({ cls := "DeadlineBenchModel", name := "deadlineOf", desc := "(I)I" } : Jvm.MethodName) ({ cls := "DeadlineBenchModel", name := "deadlineOf", desc := "(I)I" } : Jvm.MethodName)) ∈ db_gw := List.mem_filter.mpr ⟨List.mem_of_getElem? (i := 700) (by decide +kernel), by decide +kernel⟩
theorem wd_650 : (Jvm.Cond.code ({ cls := "DeadlineBenchModel", name := "deadlineOf", desc := "(I)I" } : Jvm.MethodName) prog_9_method_27_code (2 : Nat) (Option.some Jvm.ClassFile.FieldType.int)) ∈ db_gw := List.mem_filter.mpr ⟨List.mem_of_getElem? (i := 701) (by decide +kernel), by decide +kernel⟩
theorem wd_651 : (Jvm.Cond.methodLink "DeadlineBenchLaw" (66 : Nat) ({ cls := "DeadlineBenchModel", name := "effective", desc := "(I)I" } : Jvm.MethodName)) ∈ db_gw := List.mem_filter.mpr ⟨List.mem_of_getElem? (i := 702) (by decide +kernel), by decide +kernel⟩
theorem wd_652 : (Jvm.Cond.instanceMethod ({ cls := "DeadlineBenchModel", name := "effective", desc := "(I)I" } : Jvm.MethodName)) ∈ db_gw := List.mem_filter.mpr ⟨List.mem_of_getElem? (i := 703) (by decide +kernel), by decide +kernel⟩
theorem wd_653 : (Jvm.Cond.selects "DeadlineBenchModel" ({ cls := "DeadlineBenchModel", name := "effective", desc := "(I)I" } : Jvm.MethodName) ({ cls := "DeadlineBenchModel", name := "effective", desc := "(I)I" } : Jvm.MethodName)) ∈ db_gw := List.mem_filter.mpr ⟨List.mem_of_getElem? (i := 704) (by decide +kernel), by decide +kernel⟩
theorem wd_654 : (Jvm.Cond.code ({ cls := "DeadlineBenchModel", name := "effective", desc := "(I)I" } : Jvm.MethodName) prog_9_method_28_code (2 : Nat) (Option.some Jvm.ClassFile.FieldType.int)) ∈ db_gw := List.mem_filter.mpr ⟨List.mem_of_getElem? (i := 705) (by decide +kernel), by decide +kernel⟩
theorem wd_655 : (Jvm.Cond.methodLink "DeadlineBenchLaw" (70 : Nat) ({ cls := "DeadlineBenchModel", name := "waitsFor", desc := "(I)I" } : Jvm.MethodName)) ∈ db_gw := List.mem_filter.mpr ⟨List.mem_of_getElem? (i := 706) (by decide +kernel), by decide +kernel⟩
theorem wd_656 : (Jvm.Cond.instanceMethod ({ cls := "DeadlineBenchModel", name := "waitsFor", desc := "(I)I" } : Jvm.MethodName)) ∈ db_gw := List.mem_filter.mpr ⟨List.mem_of_getElem? (i := 707) (by decide +kernel), by decide +kernel⟩
theorem wd_657 : (Jvm.Cond.selects "DeadlineBenchModel" ({ cls := "DeadlineBenchModel", name := "waitsFor", desc := "(I)I" } : Jvm.MethodName) ({ cls := "DeadlineBenchModel", name := "waitsFor", desc := "(I)I" } : Jvm.MethodName)) ∈ db_gw := List.mem_filter.mpr ⟨List.mem_of_getElem? (i := 708) (by decide +kernel), by decide +kernel⟩
theorem wd_658 : (Jvm.Cond.code ({ cls := "DeadlineBenchModel", name := "waitsFor", desc := "(I)I" } : Jvm.MethodName) prog_9_method_29_code (2 : Nat) (Option.some Jvm.ClassFile.FieldType.int)) ∈ db_gw := List.mem_filter.mpr ⟨List.mem_of_getElem? (i := 709) (by decide +kernel), by decide +kernel⟩
theorem wd_659 : (Jvm.Cond.methodLink "DeadlineBenchLaw" (74 : Nat) ({ cls := "DeadlineBenchModel", name := "owner", desc := "(I)I" } : Jvm.MethodName)) ∈ db_gw := List.mem_filter.mpr ⟨List.mem_of_getElem? (i := 710) (by decide +kernel), by decide +kernel⟩
theorem wd_660 : (Jvm.Cond.instanceMethod ({ cls := "DeadlineBenchModel", name := "owner", desc := "(I)I" } : Jvm.MethodName)) ∈ db_gw := List.mem_filter.mpr ⟨List.mem_of_getElem? (i := 711) (by decide +kernel), by decide +kernel⟩
theorem wd_661 : (Jvm.Cond.selects "DeadlineBenchModel" ({ cls := "DeadlineBenchModel", name := "owner", desc := "(I)I" } : Jvm.MethodName) ({ cls := "DeadlineBenchModel", name := "owner", desc := "(I)I" } : Jvm.MethodName)) ∈ db_gw := List.mem_filter.mpr ⟨List.mem_of_getElem? (i := 712) (by decide +kernel), by decide +kernel⟩
theorem wd_662 : (Jvm.Cond.code ({ cls := "DeadlineBenchModel", name := "owner", desc := "(I)I" } : Jvm.MethodName) prog_9_method_30_code (2 : Nat) (Option.some Jvm.ClassFile.FieldType.int)) ∈ db_gw := List.mem_filter.mpr ⟨List.mem_of_getElem? (i := 713) (by decide +kernel), by decide +kernel⟩
theorem wd_663 : (Jvm.Cond.methodLink "DeadlineBenchLaw" (78 : Nat) ({ cls := "DeadlineBenchModel", name := "waiters", desc := "(I)I" } : Jvm.MethodName)) ∈ db_gw := List.mem_filter.mpr ⟨List.mem_of_getElem? (i := 714) (by decide +kernel), by decide +kernel⟩
theorem wd_664 : (Jvm.Cond.instanceMethod ({ cls := "DeadlineBenchModel", name := "waiters", desc := "(I)I" } : Jvm.MethodName)) ∈ db_gw := List.mem_filter.mpr ⟨List.mem_of_getElem? (i := 715) (by decide +kernel), by decide +kernel⟩
theorem wd_665 : (Jvm.Cond.selects "DeadlineBenchModel" ({ cls := "DeadlineBenchModel", name := "waiters", desc := "(I)I" } : Jvm.MethodName) ({ cls := "DeadlineBenchModel", name := "waiters", desc := "(I)I" } : Jvm.MethodName)) ∈ db_gw := List.mem_filter.mpr ⟨List.mem_of_getElem? (i := 716) (by decide +kernel), by decide +kernel⟩
theorem wd_666 : (Jvm.Cond.code ({ cls := "DeadlineBenchModel", name := "waiters", desc := "(I)I" } : Jvm.MethodName) prog_9_method_31_code (4 : Nat) (Option.some Jvm.ClassFile.FieldType.int)) ∈ db_gw := List.mem_filter.mpr ⟨List.mem_of_getElem? (i := 717) (by decide +kernel), by decide +kernel⟩
theorem wd_667 : (Jvm.Cond.methodLink "DeadlineBenchLaw" (82 : Nat) ({ cls := "DeadlineBenchModel", name := "missCount", desc := "()I" } : Jvm.MethodName)) ∈ db_gw := List.mem_filter.mpr ⟨List.mem_of_getElem? (i := 718) (by decide +kernel), by decide +kernel⟩
theorem wd_668 : (Jvm.Cond.instanceMethod ({ cls := "DeadlineBenchModel", name := "missCount", desc := "()I" } : Jvm.MethodName)) ∈ db_gw := List.mem_filter.mpr ⟨List.mem_of_getElem? (i := 719) (by decide +kernel), by decide +kernel⟩
theorem wd_669 : (Jvm.Cond.selects "DeadlineBenchModel" ({ cls := "DeadlineBenchModel", name := "missCount", desc := "()I" } : Jvm.MethodName) ({ cls := "DeadlineBenchModel", name := "missCount", desc := "()I" } : Jvm.MethodName)) ∈ db_gw := List.mem_filter.mpr ⟨List.mem_of_getElem? (i := 720) (by decide +kernel), by decide +kernel⟩
theorem wd_670 : (Jvm.Cond.code ({ cls := "DeadlineBenchModel", name := "missCount", desc := "()I" } : Jvm.MethodName) prog_9_method_32_code (1 : Nat) (Option.some Jvm.ClassFile.FieldType.int)) ∈ db_gw := List.mem_filter.mpr ⟨List.mem_of_getElem? (i := 721) (by decide +kernel), by decide +kernel⟩
theorem wd_671 : (Jvm.Cond.methodLink "DeadlineBenchLaw" (87 : Nat) ({ cls := "DeadlineBenchModel", name := "miss", desc := "(II)I" } : Jvm.MethodName)) ∈ db_gw := List.mem_filter.mpr ⟨List.mem_of_getElem? (i := 722) (by decide +kernel), by decide +kernel⟩
theorem wd_672 : (Jvm.Cond.instanceMethod ({ cls := "DeadlineBenchModel", name := "miss", desc := "(II)I" } : Jvm.MethodName)) ∈ db_gw := List.mem_filter.mpr ⟨List.mem_of_getElem? (i := 723) (by decide +kernel), by decide +kernel⟩
theorem wd_673 : (Jvm.Cond.selects "DeadlineBenchModel" ({ cls := "DeadlineBenchModel", name := "miss", desc := "(II)I" } : Jvm.MethodName) ({ cls := "DeadlineBenchModel", name := "miss", desc := "(II)I" } : Jvm.MethodName)) ∈ db_gw := List.mem_filter.mpr ⟨List.mem_of_getElem? (i := 724) (by decide +kernel), by decide +kernel⟩
theorem wd_674 : (Jvm.Cond.code ({ cls := "DeadlineBenchModel", name := "miss", desc := "(II)I" } : Jvm.MethodName) prog_9_method_33_code (3 : Nat) (Option.some Jvm.ClassFile.FieldType.int)) ∈ db_gw := List.mem_filter.mpr ⟨List.mem_of_getElem? (i := 725) (by decide +kernel), by decide +kernel⟩
theorem wd_675 : (Jvm.Cond.methodLink "DeadlineBenchLaw" (91 : Nat) ({ cls := "DeadlineBenchModel", name := "task", desc := "(II)I" } : Jvm.MethodName)) ∈ db_gw := List.mem_filter.mpr ⟨List.mem_of_getElem? (i := 726) (by decide +kernel), by decide +kernel⟩
theorem wd_676 : (Jvm.Cond.instanceMethod ({ cls := "DeadlineBenchModel", name := "task", desc := "(II)I" } : Jvm.MethodName)) ∈ db_gw := List.mem_filter.mpr ⟨List.mem_of_getElem? (i := 727) (by decide +kernel), by decide +kernel⟩
theorem wd_677 : (Jvm.Cond.selects "DeadlineBenchModel" ({ cls := "DeadlineBenchModel", name := "task", desc := "(II)I" } : Jvm.MethodName) ({ cls := "DeadlineBenchModel", name := "task", desc := "(II)I" } : Jvm.MethodName)) ∈ db_gw := List.mem_filter.mpr ⟨List.mem_of_getElem? (i := 728) (by decide +kernel), by decide +kernel⟩
theorem wd_678 : (Jvm.Cond.code ({ cls := "DeadlineBenchModel", name := "task", desc := "(II)I" } : Jvm.MethodName) prog_9_method_35_code (3 : Nat) (Option.some Jvm.ClassFile.FieldType.int)) ∈ db_gw := List.mem_filter.mpr ⟨List.mem_of_getElem? (i := 729) (by decide +kernel), by decide +kernel⟩
theorem wd_679 : (Jvm.Cond.methodLink "DeadlineBenchModel" (177 : Nat) ({ cls := "DeadlineBenchModel", name := "sectionsOf", desc := "(I)I" } : Jvm.MethodName)) ∈ db_gw := List.mem_filter.mpr ⟨List.mem_of_getElem? (i := 730) (by decide +kernel), by decide +kernel⟩
theorem wd_681 : (Jvm.Cond.instanceMethod ({ cls := "DeadlineBenchModel", name := "sectionsOf", desc := "(I)I" } : Jvm.MethodName)) ∈ db_gw := List.mem_filter.mpr ⟨List.mem_of_getElem? (i := 732) (by decide +kernel), by decide +kernel⟩
theorem wd_682 : (Jvm.Cond.code ({ cls := "DeadlineBenchModel", name := "sectionsOf", desc := "(I)I" } : Jvm.MethodName) prog_9_method_34_code (4 : Nat) (Option.some Jvm.ClassFile.FieldType.int)) ∈ db_gw := List.mem_filter.mpr ⟨List.mem_of_getElem? (i := 733) (by decide +kernel), by decide +kernel⟩
theorem wd_683 : (Jvm.Cond.methodLink "DeadlineBenchLaw" (95 : Nat) ({ cls := "DeadlineBenchModel", name := "count", desc := "(I)I" } : Jvm.MethodName)) ∈ db_gw := List.mem_filter.mpr ⟨List.mem_of_getElem? (i := 734) (by decide +kernel), by decide +kernel⟩
theorem wd_684 : (Jvm.Cond.instanceMethod ({ cls := "DeadlineBenchModel", name := "count", desc := "(I)I" } : Jvm.MethodName)) ∈ db_gw := List.mem_filter.mpr ⟨List.mem_of_getElem? (i := 735) (by decide +kernel), by decide +kernel⟩
theorem wd_685 : (Jvm.Cond.selects "DeadlineBenchModel" ({ cls := "DeadlineBenchModel", name := "count", desc := "(I)I" } : Jvm.MethodName) ({ cls := "DeadlineBenchModel", name := "count", desc := "(I)I" } : Jvm.MethodName)) ∈ db_gw := List.mem_filter.mpr ⟨List.mem_of_getElem? (i := 736) (by decide +kernel), by decide +kernel⟩
theorem wd_686 : (Jvm.Cond.code ({ cls := "DeadlineBenchModel", name := "count", desc := "(I)I" } : Jvm.MethodName) prog_9_method_36_code (4 : Nat) (Option.some Jvm.ClassFile.FieldType.int)) ∈ db_gw := List.mem_filter.mpr ⟨List.mem_of_getElem? (i := 737) (by decide +kernel), by decide +kernel⟩
end
section
/-! my own layer: memory as a map, a world of cells (k, i) that hold numbers X k i f -/
abbrev db_Mem : Type := Nat → Option va_E
abbrev db_G : Type := va_G × (Nat → ClassId)
abbrev db_X : Type := Nat → Nat → Nat → Int32
def db_tys (Γ : db_G) : List (ClassId × FieldType) := [(Γ.2 0, .int), (Γ.2 1, .boolean), (Γ.2 2, .object RX5), (Γ.2 3, .object RX3)]
def db_Ns (U : State) : Prop := ∀ w ∈ lw_tbl, db_isN w = true → va_Nw w U
def db_K (Γ : db_G) (U : State) : Prop := va_K Γ.1 vwCl (db_tys Γ) U ∧ db_Ns U ∧ va_AO RX5 U ∧ va_AO RX3 U
theorem db_Ns.same {u U : State} (h : u.vm = U.vm) (hn : db_Ns u) : db_Ns U := by
  intro w hw hb
  refine va_Nw.same ?_ h (hn w hw hb)
  cases w <;> first | rfl | (simp [db_isN] at hb)
theorem db_Ns.warm {s U : State} (hW : s.WarmedH U.vm) (hn : db_Ns s) : db_Ns U := by
  intro w hw hb
  have h := hn w hw hb
  cases w <;> first | exact va_Nw.warmF hW h | exact va_Nw.warmM hW h | (simp [db_isN] at hb)
theorem db_K.warm {Γ : db_G} {s U : State} (hW : s.WarmedH U.vm) (h : db_K Γ s) : db_K Γ U := ⟨va_K.moved hW.alike h.1, h.2.1.warm hW, h.2.2.1.moved hW.alike, h.2.2.2.moved hW.alike⟩
theorem db_K.same {Γ : db_G} {s U : State} (hv : s.vm = U.vm) (h : db_K Γ s) : db_K Γ U := ⟨va_K.moved (by rw [hv]; exact Vm.Alike.refl _) h.1, h.2.1.same hv, h.2.2.1.moved (by rw [hv]; exact Vm.Alike.refl _), h.2.2.2.moved (by rw [hv]; exact Vm.Alike.refl _)⟩
/-- what is said of a class -/
def db_cls (ci : Nat) (C : String) (T : u_T) (ty : Nat → FieldType) (N : Nat) : Prop :=
  vwCl[ci]? = some (C, T, N) ∧ (∀ w ∈ u_ws C T N, w ∈ db_gw) ∧ (∀ k, k < N → parseFieldDescriptor (T k).2.2.1 = some (ty k)) ∧ ∀ a, a < N → ∀ b, b < N → a ≠ b → (T a).2.1 ≠ (T b).2.1
theorem db_in_of {ws : List Cond} (h : ws.all (fun w => decide (w ∈ lw_tbl) && goodWord w) = true) : ∀ w ∈ ws, w ∈ db_gw := by
  intro w hw
  have h1 := List.all_eq_true.mp h w hw
  simp only [Bool.and_eq_true, decide_eq_true_eq] at h1
  exact List.mem_filter.mpr h1
theorem db_c0 : db_cls 0 RX0 TX0 tyX0 7 := ⟨rfl, db_in_of (by decide +kernel), tyX0_ok, nmX0⟩
theorem db_c1 : db_cls 1 RX1 TX1 tyX1 3 := ⟨rfl, db_in_of (by decide +kernel), tyX1_ok, nmX1⟩
theorem db_c2 : db_cls 2 RX2 TX2 tyX2 2 := ⟨rfl, db_in_of (by decide +kernel), tyX2_ok, nmX2⟩
theorem db_c3 : db_cls 3 RX3 TX3 tyX3 5 := ⟨rfl, db_in_of (by decide +kernel), tyX3_ok, nmX3⟩
theorem db_c4 : db_cls 4 RX4 TX4 tyX4 2 := ⟨rfl, db_in_of (by decide +kernel), tyX4_ok, nmX4⟩
theorem db_c5 : db_cls 5 RX5 TX5 tyX5 12 := ⟨rfl, db_in_of (by decide +kernel), tyX5_ok, nmX5⟩
theorem db_c6 : db_cls 6 RX6 TX6 tyX6 8 := ⟨rfl, db_in_of (by decide +kernel), tyX6_ok, nmX6⟩
theorem db_c7 : db_cls 7 RX7 TX7 tyX7 36 := ⟨rfl, db_in_of (by decide +kernel), tyX7_ok, nmX7⟩
/-! memory -/
def db_set (h : db_Mem) (a : Nat) (x : va_E) : db_Mem := fun q => if q = a then some x else h q
def db_Hp (Γ : db_G) (h : db_Mem) (H : Heap) : Prop := ∀ (a : Nat) (x : va_E), h a = some x → va_at Γ.1 vwCl (a, x) H
def db_A (h : db_Mem) (sz : Nat) : Nat → Prop := fun q => h q ≠ none ∨ sz ≤ q
def db_W (Γ : db_G) (A : Nat → Prop) (H0 : Heap) (h : db_Mem) (H : Heap) (locs : List Loc) : Prop :=
  db_Hp Γ h H ∧ (∀ (a : Nat) (x : va_E), h a = some x → A a) ∧ va_S A H0 H locs ∧ ∀ q : Nat, H0.size ≤ q → A q
theorem db_one {D : va_G} {cl : List vw_C} {q : Nat × va_E} {H : Heap} (h : va_at D cl q H) : va_P D cl [q] H := by
  intro k x hx
  cases k with
  | zero => cases hx; exact h
  | succ k => simp at hx
theorem db_W.put {Γ : db_G} {A : Nat → Prop} {H0 H H1 : Heap} {h : db_Mem} {locs : List Loc} {a k : Nat} {x x' : va_E} (hw : db_W Γ A H0 h H locs) (ha : h a = some x) (hz : H1.size = H.size) (ho : ∀ q : Nat, q ≠ a → H1[q]? = H[q]?)
    (hx : va_at Γ.1 vwCl (a, x') H1) : db_W Γ A H0 (db_set h a x') H1 (locs ++ [⟨a, k⟩]) := by
  refine ⟨fun q y hq => ?_, fun q y hq => ?_, hw.2.2.1.put hz ho (hw.2.1 a x ha), hw.2.2.2⟩
  · unfold db_set at hq
    split at hq
    · rename_i e; subst e; cases hq; exact hx
    · rename_i e; exact (hw.1 q y hq).kept (ho q e)
  · unfold db_set at hq
    split at hq
    · rename_i e; subst e; exact hw.2.1 _ x ha
    · exact hw.2.1 q y hq
theorem db_W.push {Γ : db_G} {A : Nat → Prop} {H0 H H1 : Heap} {h : db_Mem} {locs : List Loc} {x' : va_E} (hw : db_W Γ A H0 h H locs) (hz : H1.size = H.size + 1) (ho : ∀ q : Nat, q < H.size → H1[q]? = H[q]?)
    (hx : va_at Γ.1 vwCl (H.size, x') H1) : db_W Γ A H0 (db_set h H.size x') H1 locs ∧ h H.size = none := by
  refine ⟨⟨fun q y hq => ?_, fun q y hq => ?_, ⟨Nat.le_trans hw.2.2.1.1 (by omega), fun q h1 h2 => (ho q (Nat.lt_of_lt_of_le h1 hw.2.2.1.1)).trans (hw.2.2.1.2.1 q h1 h2), hw.2.2.1.2.2⟩, hw.2.2.2⟩, ?_⟩
  · unfold db_set at hq
    split at hq
    · rename_i e; subst e; cases hq; exact hx
    · exact (hw.1 q y hq).kept (ho q (hw.1 q y hq).lt)
  · unfold db_set at hq
    split at hq
    · rename_i e; subst e; exact hw.2.2.2 _ hw.2.2.1.1
    · exact hw.2.1 q y hq
  · cases e : h H.size with
    | none => rfl
    | some y => exact absurd (hw.1 _ y e).lt (by simp)
section DBR
variable {p : Program} {l : Launch} {e : Env} {R : Room} {s : State} {m : MethodId} {args : Array Value} {below : List Frame} {meth : Method} {c : Code} {H : Heap} {locs : List Loc} {cells slots : Nat} {Q : State → Prop}
variable {cc : ByteArray} {pc : Nat} {ls : Array Slot} {rest : List Value} {Γ : db_G} {A : Nat → Prop} {a : Nat} {H0 : Heap} {h : db_Mem}
theorem db_getR (hexec : p.tables.exec = Jvm.exec) (hb : c.code = cc) (hts : ∀ w ∈ db_gw, w.before args s = true) {own : String} (hown : s.vm.findClass own = some m.cls) (hK : db_K Γ s) (hw : db_Hp Γ h H) {ci : Nat} {fs : List Value} (ha : h a = some (.inr (ci, fs)))
    {C : String} {T : u_T} {ty : Nat → FieldType} {N index : Nat} (hc : db_cls ci C T ty N) (k : Nat) (hk : k < N) (hlink : (Cond.fieldLink own index (T k).1 (T k).2.1 (T k).2.2.1).before args s = true) {v : Value} (hv : fs[k]? = some v) (hdg : decode cc pc = .ok (.getfield index, 3))
    (kk : W p l e R s m args below meth c H locs cells slots Q (F0 m (pc + 3) ls (v :: rest))) : W p l e R s m args below meth c H locs cells slots Q (F0 m pc ls (.ref a :: rest)) :=
  va_get (ws := [(a, .inr (ci, fs))]) hexec hb hts hc.2.1 hown hK.1 (db_one (hw _ _ ha)) 0 rfl hc.1 k hk hlink (fun _ h9 => h9) hv hdg kk
theorem db_getNR (hexec : p.tables.exec = Jvm.exec) (hb : c.code = cc) (hts : ∀ w ∈ db_gw, w.before args s = true) {own host : String} (hown : s.vm.findClass own = some m.cls) (hK : db_K Γ s) (hw : db_Hp Γ h H) {ci : Nat} {fs : List Value} (ha : h a = some (.inr (ci, fs)))
    {C : String} {T : u_T} {ty : Nat → FieldType} {N index : Nat} (hc : db_cls ci C T ty N) (k : Nat) (hk : k < N) (hlink : Cond.fieldLinkNest own index (T k).1 (T k).2.1 (T k).2.2.1 host ∈ lw_tbl) {v : Value} (hv : fs[k]? = some v) (hdg : decode cc pc = .ok (.getfield index, 3))
    (kk : W p l e R s m args below meth c H locs cells slots Q (F0 m (pc + 3) ls (v :: rest))) : W p l e R s m args below meth c H locs cells slots Q (F0 m pc ls (.ref a :: rest)) :=
  va_getN (ws := [(a, .inr (ci, fs))]) hexec hb hts hc.2.1 hown hK.1 (db_one (hw _ _ ha)) 0 rfl hc.1 k hk (va_Nw.use rfl (hK.2.1 _ hlink rfl)) (fun _ h9 => h9) hv hdg kk
theorem db_putR (hexec : p.tables.exec = Jvm.exec) (hb : c.code = cc) (hts : ∀ w ∈ db_gw, w.before args s = true) {own : String} (hown : s.vm.findClass own = some m.cls) (hK : db_K Γ s) (hw : db_W Γ A H0 h H locs) {ci : Nat} {fs : List Value} (ha : h a = some (.inr (ci, fs)))
    {C : String} {T : u_T} {ty : Nat → FieldType} {N index : Nat} (hc : db_cls ci C T ty N) (k : Nat) (hk : k < N) (hlink : (Cond.fieldLink own index (T k).1 (T k).2.1 (T k).2.2.1).before args s = true) (hfin : (T k).2.2.2 = false) {v : Value} (hn : narrow (ty k) v = v) (hfit : fits (ty k) v = true) (hl : k < fs.length) (hdg : decode cc pc = .ok (.putfield index, 3))
    (kk : ∀ (H1 : Heap) (locs1 : List Loc), db_W Γ A H0 (db_set h a (.inr (ci, fs.set k v))) H1 locs1 → W p l e R s m args below meth c H1 locs1 cells slots Q (F0 m (pc + 3) ls rest)) : W p l e R s m args below meth c H locs cells slots Q (F0 m pc ls (v :: .ref a :: rest)) := by
  obtain ⟨hc1, hin, hty, hnm⟩ := hc
  have hap := va_apart (own := own) hts hin ty hty hnm hK.1 hc1
  obtain ⟨r, h1, cell, q1, q2, q3, q4⟩ := hw.1 _ _ ha
  have hr : r = (C, T, N) := Option.some.inj (h1.symm.trans hc1)
  subst hr
  obtain ⟨hS, hfc, kC, hkC, hkind⟩ := hK.1.1 ci _ hc1
  obtain ⟨cf, kf, fi, f, hi, hsl⟩ := hS k hk
  have hlay := hts _ (hin _ (u_in_lay hk))
  unfold u_lay at hlay
  rw [if_neg (by rw [hfin]; decide)] at hlay
  have hst := (u_facts hfc hkC (u_lays hts hin hk) hi).1
  have h6 := u_store hfc hkC hkind hlay hi (hty k hk) hn hfit
  refine W.putK hexec hb (f := f) ⟨hown, hlink, ⟨_, _, _, hi⟩, hst⟩ (by rw [q2]; exact h6) q1 q3 (by rw [hsl]; exact k2_hasslot (q4 k hk)) rfl rfl hdg fun H' e1 e2 e3 => ?_
  rw [hsl] at e1 ⊢
  exact kk H' _ (hw.put ha e2 e3 ⟨_, hc1, t_OB.to (V := updV (vp_V fs) k v) ⟨_, e1, q2, q3, t_set q4 hap hk v⟩ (fun j _ => vp_updV_set hl v j)⟩)
theorem db_putNR (hexec : p.tables.exec = Jvm.exec) (hb : c.code = cc) (hts : ∀ w ∈ db_gw, w.before args s = true) {own host : String} (hown : s.vm.findClass own = some m.cls) (hK : db_K Γ s) (hw : db_W Γ A H0 h H locs) {ci : Nat} {fs : List Value} (ha : h a = some (.inr (ci, fs)))
    {C : String} {T : u_T} {ty : Nat → FieldType} {N index : Nat} (hc : db_cls ci C T ty N) (k : Nat) (hk : k < N) (hlink : Cond.fieldLinkNest own index (T k).1 (T k).2.1 (T k).2.2.1 host ∈ lw_tbl) (hfin : (T k).2.2.2 = false) {v : Value} (hn : narrow (ty k) v = v) (hfit : fits (ty k) v = true) (hl : k < fs.length) (hdg : decode cc pc = .ok (.putfield index, 3))
    (kk : ∀ (H1 : Heap) (locs1 : List Loc), db_W Γ A H0 (db_set h a (.inr (ci, fs.set k v))) H1 locs1 → W p l e R s m args below meth c H1 locs1 cells slots Q (F0 m (pc + 3) ls rest)) : W p l e R s m args below meth c H locs cells slots Q (F0 m pc ls (v :: .ref a :: rest)) := by
  obtain ⟨hc1, hin, hty, hnm⟩ := hc
  have hap := va_apart (own := own) hts hin ty hty hnm hK.1 hc1
  obtain ⟨r, h1, cell, q1, q2, q3, q4⟩ := hw.1 _ _ ha
  have hr : r = (C, T, N) := Option.some.inj (h1.symm.trans hc1)
  subst hr
  obtain ⟨hS, hfc, kC, hkC, hkind⟩ := hK.1.1 ci _ hc1
  obtain ⟨cf, kf, fi, f, hi, hsl⟩ := hS k hk
  have hlay := hts _ (hin _ (u_in_lay hk))
  unfold u_lay at hlay
  rw [if_neg (by rw [hfin]; decide)] at hlay
  have hst := (u_facts hfc hkC (u_lays hts hin hk) hi).1
  have h6 := u_store hfc hkC hkind hlay hi (hty k hk) hn hfit
  refine va_WputK hexec hb (f := f) hown (va_Nw.use rfl (hK.2.1 _ hlink rfl)) hi hst (by rw [q2]; exact h6) q1 q3 (by rw [hsl]; exact k2_hasslot (q4 k hk)) rfl rfl hdg fun H' e1 e2 e3 => ?_
  rw [hsl] at e1 ⊢
  exact kk H' _ (hw.put ha e2 e3 ⟨_, hc1, t_OB.to (V := updV (vp_V fs) k v) ⟨_, e1, q2, q3, t_set q4 hap hk v⟩ (fun j _ => vp_updV_set hl v j)⟩)
theorem db_putFR (hexec : p.tables.exec = Jvm.exec) (hb : c.code = cc) (hts : ∀ w ∈ db_gw, w.before args s = true) {own : String} (hown : s.vm.findClass own = some m.cls) (hK : db_K Γ s) (hw : db_W Γ A H0 h H locs) {ci : Nat} {fs : List Value} (ha : h a = some (.inr (ci, fs)))
    {C : String} {T : u_T} {ty : Nat → FieldType} {N index : Nat} (hc : db_cls ci C T ty N) (k : Nat) (hk : k < N) (hlink : (Cond.fieldLink own index (T k).1 (T k).2.1 (T k).2.2.1).before args s = true) (hfin : (T k).2.2.2 = true) (hin2 : meth.name = "<init>") (hdecl : (T k).1 = own) {v : Value} (hn : narrow (ty k) v = v) (hfit : fits (ty k) v = true) (hl : k < fs.length) (hdg : decode cc pc = .ok (.putfield index, 3))
    (kk : ∀ (H1 : Heap) (locs1 : List Loc), db_W Γ A H0 (db_set h a (.inr (ci, fs.set k v))) H1 locs1 → W p l e R s m args below meth c H1 locs1 cells slots Q (F0 m (pc + 3) ls rest)) : W p l e R s m args below meth c H locs cells slots Q (F0 m pc ls (v :: .ref a :: rest)) := by
  obtain ⟨hc1, hin, hty, hnm⟩ := hc
  have hap := va_apart (own := own) hts hin ty hty hnm hK.1 hc1
  obtain ⟨r, h1, cell, q1, q2, q3, q4⟩ := hw.1 _ _ ha
  have hr : r = (C, T, N) := Option.some.inj (h1.symm.trans hc1)
  subst hr
  obtain ⟨hS, hfc, kC, hkC, hkind⟩ := hK.1.1 ci _ hc1
  obtain ⟨cf, kf, fi, f, hi, hsl⟩ := hS k hk
  have hlay := hts _ (hin _ (u_in_lay hk))
  unfold u_lay at hlay
  rw [if_pos hfin] at hlay
  have hst := (u_facts hfc hkC (u_lays hts hin hk) hi).1
  have hcf : m.cls = cf := by
    obtain ⟨_, _, c', _, _, _, -, -, hf', -, -, -, hown2, -⟩ := Cond.laysFinal_spec hlay
    have e1 : c' = cf := by have := hi.symm.trans hf'; simp at this; exact this.1.symm
    rw [hdecl] at hown2
    rw [← e1]; exact Option.some.inj (hown.symm.trans hown2)
  have h6 := u_fits hfc hkC hkind (Or.inr hlay) hi (hty k hk) hn hfit
  refine W.putFinK hexec hb hown hlink hi hst hcf hin2 (by rw [q2]; exact h6) q1 q3 (by rw [hsl]; exact k2_hasslot (q4 k hk)) rfl rfl hdg fun H' e1 e2 e3 => ?_
  rw [hsl] at e1 ⊢
  exact kk H' _ (hw.put ha e2 e3 ⟨_, hc1, t_OB.to (V := updV (vp_V fs) k v) ⟨_, e1, q2, q3, t_set q4 hap hk v⟩ (fun j _ => vp_updV_set hl v j)⟩)
theorem db_ildR (hexec : p.tables.exec = Jvm.exec) (hb : c.code = cc) (hK : db_K Γ s) (hw : db_Hp Γ h H) {n j : Nat} {f : Nat → Int32} (ha : h a = some (.inl (Γ.2 0, n, .inl f))) {i : Int32} (hi : i = nI j) (hj : j < n) (hn : n < 2 ^ 31) (hdg : decode cc pc = .ok (.iaload, 1))
    (kk : W p l e R s m args below meth c H locs cells slots Q (F0 m (pc + 1) ls (.int (f j) :: rest))) : W p l e R s m args below meth c H locs cells slots Q (F0 m pc ls (.int i :: .ref a :: rest)) := by
  subst hi
  refine va_iald (ws := [(a, .inl (Γ.2 0, n, .inl f))]) hexec hb hK.1 (db_one (hw _ _ ha)) 0 0 rfl rfl (vp_in_nI hj hn) hdg ?_
  rw [nI_clamp (by omega)]; exact kk
theorem db_zldR (hexec : p.tables.exec = Jvm.exec) (hb : c.code = cc) (hK : db_K Γ s) (hw : db_Hp Γ h H) {n j : Nat} {f : Nat → Int32} (ha : h a = some (.inl (Γ.2 1, n, .inl f))) {i : Int32} (hi : i = nI j) (hj : j < n) (hn : n < 2 ^ 31) (hdg : decode cc pc = .ok (.baload, 1))
    (kk : W p l e R s m args below meth c H locs cells slots Q (F0 m (pc + 1) ls (.int (f j) :: rest))) : W p l e R s m args below meth c H locs cells slots Q (F0 m pc ls (.int i :: .ref a :: rest)) := by
  subst hi
  refine va_zald (ws := [(a, .inl (Γ.2 1, n, .inl f))]) hexec hb hK.1 (db_one (hw _ _ ha)) 0 1 rfl rfl (vp_in_nI hj hn) hdg ?_
  rw [nI_clamp (by omega)]; exact kk
theorem db_aldR (hexec : p.tables.exec = Jvm.exec) (hb : c.code = cc) (hK : db_K Γ s) (hw : db_Hp Γ h H) {n j b : Nat} {cA : ClassId} {C : String} (t0 : Nat) (ht : (db_tys Γ)[t0]? = some (cA, .object C)) {f : Nat → Option Nat} (ha : h a = some (.inl (cA, n, .inr (.inr (.inr (.inr f)))))) {i : Int32} (hi : i = nI j) (hj : j < n) (hn : n < 2 ^ 31) (hf : f j = some b) (hdg : decode cc pc = .ok (.aaload, 1))
    (kk : W p l e R s m args below meth c H locs cells slots Q (F0 m (pc + 1) ls (.ref b :: rest))) : W p l e R s m args below meth c H locs cells slots Q (F0 m pc ls (.int i :: .ref a :: rest)) := by
  subst hi
  refine va_aldq (ws := [(a, .inl (cA, n, .inr (.inr (.inr (.inr f)))))]) hexec hb hK.1 (db_one (hw _ _ ha)) 0 t0 rfl ht (vp_in_nI hj hn) hdg ?_
  rw [nI_clamp (by omega), hf]; exact kk
theorem db_alenR (hexec : p.tables.exec = Jvm.exec) (hb : c.code = cc) (hK : db_K Γ s) (hw : db_Hp Γ h H) {cA : ClassId} {x : vp_A} {ty : FieldType} (t0 : Nat) (ht : (db_tys Γ)[t0]? = some (cA, ty)) (ha : h a = some (.inl (cA, x))) (hdg : decode cc pc = .ok (.arraylength, 1))
    (kk : W p l e R s m args below meth c H locs cells slots Q (F0 m (pc + 1) ls (.int (nI x.1) :: rest))) : W p l e R s m args below meth c H locs cells slots Q (F0 m pc ls (.ref a :: rest)) :=
  va_alen (ws := [(a, .inl (cA, x))]) hexec hb hK.1 (db_one (hw _ _ ha)) 0 t0 rfl ht rfl hdg kk
theorem db_istR (hexec : p.tables.exec = Jvm.exec) (hb : c.code = cc) (hK : db_K Γ s) (hw : db_W Γ A H0 h H locs) {n j : Nat} {f : Nat → Int32} (ha : h a = some (.inl (Γ.2 0, n, .inl f))) {i x : Int32} (hi : i = nI j) (hj : j < n) (hn : n < 2 ^ 31) (hdg : decode cc pc = .ok (.iastore, 1))
    (kk : ∀ (H1 : Heap) (locs1 : List Loc), db_W Γ A H0 (db_set h a (.inl (Γ.2 0, n, .inl (upd f j x)))) H1 locs1 → W p l e R s m args below meth c H1 locs1 cells slots Q (F0 m (pc + 1) ls rest)) : W p l e R s m args below meth c H locs cells slots Q (F0 m pc ls (.int x :: .int i :: .ref a :: rest)) := by
  subst hi
  refine W.iast hexec hb (hw.1 _ _ ha) ((hK.1.2 0 _ rfl).1 n (fun j => .int (f j))) (fun q => by cases q) (by show ¬ (nI j < 0 ∨ (arrV _ _ _).slots.size ≤ _); rw [arrV_size]; exact vp_in_nI hj hn) rfl rfl hdg fun H1 e1 z oq => ?_
  refine kk H1 _ (hw.put ha z oq ?_)
  show H1[a]? = some (vp_cell _ _)
  rw [e1]
  rw [vp_cell_i, vp_cell_i, arrV_store, nI_clamp (by omega)]
  congr 2
  funext q
  by_cases hq : q = j
  · subst hq
    simp [updV, upd]
  · simp [updV, upd, hq]
theorem db_zstR (hexec : p.tables.exec = Jvm.exec) (hb : c.code = cc) (hK : db_K Γ s) (hw : db_W Γ A H0 h H locs) {n j : Nat} {f : Nat → Int32} (ha : h a = some (.inl (Γ.2 1, n, .inl f))) {i x : Int32} (hi : i = nI j) (hj : j < n) (hn : n < 2 ^ 31) (hx : x = 0 ∨ x = 1) (hdg : decode cc pc = .ok (.bastore, 1))
    (kk : ∀ (H1 : Heap) (locs1 : List Loc), db_W Γ A H0 (db_set h a (.inl (Γ.2 1, n, .inl (upd f j x)))) H1 locs1 → W p l e R s m args below meth c H1 locs1 cells slots Q (F0 m (pc + 1) ls rest)) : W p l e R s m args below meth c H locs cells slots Q (F0 m pc ls (.int x :: .int i :: .ref a :: rest)) := by
  subst hi
  refine W.zast hexec hb (hw.1 _ _ ha) ((hK.1.2 1 _ rfl).1 n (fun j => .int (f j))) (fun q => by cases q) (by show ¬ (nI j < 0 ∨ (arrV _ _ _).slots.size ≤ _); rw [arrV_size]; exact vp_in_nI hj hn) rfl rfl hdg fun H1 e1 z oq => ?_
  refine kk H1 _ (hw.put ha z oq ?_)
  show H1[a]? = some (vp_cell _ _)
  rw [e1]
  rw [vp_cell_i, vp_cell_i, arrV_store, nI_clamp (by omega)]
  congr 2
  funext q
  have hz : narrow .boolean (.int x) = .int x := by rcases hx with rfl | rfl <;> rfl
  by_cases hq : q = j
  · subst hq
    simp [updV, upd, hz]
  · simp [updV, upd, hq]
theorem db_astR (hexec : p.tables.exec = Jvm.exec) (hb : c.code = cc) (hK : db_K Γ s) (hw : db_W Γ A H0 h H locs) {n j ci v : Nat} {r : vw_C} {vs : List Value} {cA : ClassId} (t0 : Nat) (ht : (db_tys Γ)[t0]? = some (cA, .object r.1)) (hc : vwCl[ci]? = some r) {f : Nat → Option Nat} (ha : h a = some (.inl (cA, n, .inr (.inr (.inr (.inr f)))))) (hv : h v = some (.inr (ci, vs))) {i : Int32} (hi : i = nI j) (hj : j < n) (hn : n < 2 ^ 31) (hdg : decode cc pc = .ok (.aastore, 1))
    (kk : ∀ (H1 : Heap) (locs1 : List Loc), db_W Γ A H0 (db_set h a (.inl (cA, n, .inr (.inr (.inr (.inr (va_up f j (some v)))))))) H1 locs1 → W p l e R s m args below meth c H1 locs1 cells slots Q (F0 m (pc + 1) ls rest)) : W p l e R s m args below meth c H locs cells slots Q (F0 m pc ls (.ref v :: .int i :: .ref a :: rest)) := by
  subst hi
  obtain ⟨r', hr', cellV, g1, g2, g3, -⟩ := hw.1 _ _ hv
  have hcls := (hK.1.1 ci r hc).2
  obtain ⟨kA, comp, k1, k2, k3, -⟩ := (hK.1.2 t0 _ ht).2
  have hcomp : comp = Γ.1.1 ci := Option.some.inj (k3.symm.trans hcls.1)
  subst hcomp
  obtain ⟨kC, hkC, -⟩ := hcls.2
  refine W.aast hexec hb (hw.1 _ _ ha) (fun q h => by cases h) (fun h => by cases h) k1 k2 rfl hkC ⟨nI_pos (by omega), by show _ < (arrV _ _ _).slots.size; rw [arrV_size, nI_clamp (by omega)]; exact hj⟩ g1 (fun q h => by rw [g3] at h; cases h) (by rw [g2]; exact hkC) (by rw [g2]; exact va_assign hcls) rfl rfl hdg fun H1 e1 z oq => ?_
  refine kk H1 _ (hw.put ha z oq ?_)
  show H1[a]? = some (vp_cell _ _)
  rw [e1]
  rw [vp_cell_q, vp_cell_q, arrV_store, nI_clamp (by omega)]
  congr 2
  funext q
  by_cases hq : q = j
  · subst hq
    simp [updV, va_up, va_rf]
  · simp [updV, va_up, hq]
end DBR
end
section
/-! a world of cells (k, i): addresses L k i, what is there: ok k i, contents: cel k i (X k i) -/
def db_up (X : db_X) (k i f : Nat) (v : Int32) : db_X := fun k' i' f' => if k' = k ∧ i' = i ∧ f' = f then v else X k' i' f'
def db_uf (x : Nat → Int32) (f : Nat) (v : Int32) : Nat → Int32 := fun j => if j = f then v else x j
theorem db_up_self {X : db_X} {k i f : Nat} {v : Int32} : db_up X k i f v k i = db_uf (X k i) f v := by funext j; simp [db_up, db_uf]
theorem db_up_ne {X : db_X} {k i f k' i' : Nat} {v : Int32} (h : ¬ (k' = k ∧ i' = i)) : db_up X k i f v k' i' = X k' i' := by
  funext j
  simp only [db_up]
  rw [if_neg]
  exact fun q => h ⟨q.1, q.2.1⟩
theorem db_upd_uf {f : Nat → Int32} {j : Nat} {v : Int32} : upd f j v = db_uf f j v := by
  funext q
  simp [upd, db_uf]
def db_R (L : Nat → Nat → Nat) (ok : Nat → Nat → Prop) (cel : Nat → Nat → (Nat → Int32) → va_E) (X : db_X) (h : db_Mem) : Prop :=
  (∀ k i, ok k i → h (L k i) = some (cel k i (X k i))) ∧ ∀ k i k' i', ok k i → ok k' i' → L k i = L k' i' → k = k' ∧ i = i'
def db_S (Γ : db_G) (A : Nat → Prop) (H0 : Heap) (L : Nat → Nat → Nat) (ok : Nat → Nat → Prop) (cel : Nat → Nat → (Nat → Int32) → va_E) (X : db_X) (H : Heap) (locs : List Loc) : Prop :=
  ∃ h : db_Mem, db_R L ok cel X h ∧ db_W Γ A H0 h H locs
theorem db_R.set {L : Nat → Nat → Nat} {ok : Nat → Nat → Prop} {cel : Nat → Nat → (Nat → Int32) → va_E} {X : db_X} {h : db_Mem} (hR : db_R L ok cel X h) {k i f : Nat} {v : Int32} (hok : ok k i) {x : va_E} (hx : cel k i (db_uf (X k i) f v) = x) :
    db_R L ok cel (db_up X k i f v) (db_set h (L k i) x) := by
  refine ⟨fun k' i' h' => ?_, hR.2⟩
  unfold db_set
  by_cases e : k' = k ∧ i' = i
  · obtain ⟨rfl, rfl⟩ := e
    rw [if_pos rfl, db_up_self, hx]
  · rw [if_neg (fun q => e (hR.2 _ _ _ _ h' hok q)), db_up_ne e]
    exact hR.1 k' i' h'
/-! what is owed of a method -/
def db_Cd (y : MethodName) (cc : ByteArray) (maxL : Nat) (ret : Option FieldType) : List Cond := .code y cc maxL ret :: db_gw
def db_Pre (Γ : db_G) (av : List Value) (h : db_Mem) (sz : Nat) : Array Value → State → Prop := va_Pc av (fun U => U.heap.size = sz ∧ db_K Γ U ∧ db_Hp Γ h U.heap)
def db_Q (P : Option Value → db_Mem → Prop) (Γ : db_G) (A : Nat → Prop) : Array Value → State → Outcome → State → Prop := fun _ st oc t => (∃ (v : Option Value) (h' : db_Mem), oc = .returned v ∧ P v h' ∧ db_Hp Γ h' t.heap ∧ ∀ (a : Nat) (x : va_E), h' a = some x → A a) ∧ va_F A st t
/-- the method y, from a heap that holds h, comes back with v and h' as P says -/
def db_M (l : Launch) (Γ : db_G) (y : MethodName) (cc : ByteArray) (maxL : Nat) (ret : Option FieldType) (rm : Room) (av : List Value) (h : db_Mem) (P : Option Value → db_Mem → Prop) : Prop :=
  ∀ sz : Nat, Met l y (db_Cd y cc maxL ret) rm (db_Pre Γ av h sz) (db_Q P Γ (db_A h sz)) rm.cells rm.slots (db_A h sz)
/-- the same over a world: it comes back with r, and the world holds X' -/
def db_C (l : Launch) (Γ : db_G) (y : MethodName) (cc : ByteArray) (maxL : Nat) (ret : Option FieldType) (rm : Room) (av : List Value) (L : Nat → Nat → Nat) (ok : Nat → Nat → Prop) (cel : Nat → Nat → (Nat → Int32) → va_E) (X : db_X) (r : Option Value) (X' : db_X) : Prop :=
  ∀ h : db_Mem, db_R L ok cel X h → db_M l Γ y cc maxL ret rm av h (fun v h' => v = r ∧ db_R L ok cel X' h')
/-- what holds within a method's body -/
def db_Cx (p : Program) (s : State) (m : MethodId) (args : Array Value) (meth : Method) (c : Code) (Γ : db_G) (own : String) (cc : ByteArray) (maxL : Nat) (ret : Option FieldType) : Prop :=
  p.tables.exec = Jvm.exec ∧ c.code = cc ∧ c.maxLocals = maxL ∧ meth.sig.returnType = ret ∧ meth.locks = false ∧ s.vm.findClass own = some m.cls ∧ (∀ w ∈ db_gw, w.before args s = true) ∧ db_K Γ s
theorem db_blind {Γ : db_G} {av : List Value} {h : db_Mem} {sz : Nat} : FrameBlind (db_Pre Γ av h sz) := by
  intro a U g mk q
  obtain ⟨q0, q1, qK, qP⟩ := q
  exact ⟨q0, q1, db_K.same (s := U) (U := U.calling g mk a) rfl qK, qP⟩
theorem db_good {y : MethodName} {cc : ByteArray} {maxL : Nat} {ret : Option FieldType} (hc : Cond.code y cc maxL ret ∈ db_gw) : GoodIn db_gw (db_Cd y cc maxL ret) := by
  intro w hw
  rcases List.mem_cons.mp hw with rfl | h
  · exact ⟨hc, good_of_word (List.mem_filter.mp hc).2⟩
  · exact ⟨h, good_of_word (List.mem_filter.mp h).2⟩
theorem db_introM {l : Launch} {Γ : db_G} {y : MethodName} {cc : ByteArray} {maxL : Nat} {ret : Option FieldType} {rm : Room} {av : List Value} {h : db_Mem} {P : Option Value → db_Mem → Prop} (hy : plainName y.cls = true) (hlen : (lg_sl av).length ≤ maxL)
    (body : ∀ (p : Program) (e : Env) (s : State) (m : MethodId) (below : List Frame) (meth : Method) (c : Code) (A : Nat → Prop) (ls : Array Slot), db_Cx p s m av.toArray meth c Γ y.cls cc maxL ret → meth.name = y.name → db_W Γ A s.heap h s.heap [] → lv_has ls maxL (lv_args 0 av) →
      W p l e rm s m av.toArray below meth c s.heap [] 0 0 (MQ below (db_Q P Γ A) av.toArray s rm.cells rm.slots A) (F0 m 0 ls [])) : db_M l Γ y cc maxL ret rm av h P := by
  intro sz
  refine Met.ofW (cc := cc) (maxL := maxL) (ret := ret) hy rfl ?_
  intro p e s m args below meth c s₁ B hml hv
  obtain ⟨rfl, hsz, hK, hP⟩ := hv
  have hts := atoms_spec (ws := db_Cd y cc maxL ret) B.pre
  subst hsz
  have hl := lv_entry av (n := maxL) hlen
  rw [lg_entry_eq]
  exact body p e s m below meth c (db_A h s.heap.size) _ ⟨B.exec, B.bytes, hml, B.returns, B.notSynchronized, findClass_of_methodNamed B.named, fun w hw => hts w (List.mem_cons_of_mem _ hw), hK⟩ (name_of_methodNamed B.named B.method).1
    ⟨hP, fun a x hx => Or.inl (by rw [hx]; simp), va_S.rf, fun q hq => Or.inr hq⟩ hl
theorem db_intro {l : Launch} {Γ : db_G} {y : MethodName} {cc : ByteArray} {maxL : Nat} {ret : Option FieldType} {rm : Room} {av : List Value} {L : Nat → Nat → Nat} {ok : Nat → Nat → Prop} {cel : Nat → Nat → (Nat → Int32) → va_E} {X X' : db_X} {r : Option Value} (hy : plainName y.cls = true) (hlen : (lg_sl av).length ≤ maxL)
    (body : ∀ (p : Program) (e : Env) (s : State) (m : MethodId) (below : List Frame) (meth : Method) (c : Code) (A : Nat → Prop) (ls : Array Slot), db_Cx p s m av.toArray meth c Γ y.cls cc maxL ret → db_S Γ A s.heap L ok cel X s.heap [] → lv_has ls maxL (lv_args 0 av) →
      W p l e rm s m av.toArray below meth c s.heap [] 0 0 (MQ below (db_Q (fun v h' => v = r ∧ db_R L ok cel X' h') Γ A) av.toArray s rm.cells rm.slots A) (F0 m 0 ls [])) : db_C l Γ y cc maxL ret rm av L ok cel X r X' :=
  fun h hR => db_introM hy hlen fun p e s m below meth c A ls hC _ hW hl => body p e s m below meth c A ls hC ⟨h, hR, hW⟩ hl
section DBW
variable {p : Program} {l : Launch} {e : Env} {R : Room} {s : State} {m : MethodId} {args : Array Value} {below : List Frame} {meth : Method} {c : Code} {H : Heap} {locs : List Loc} {cells slots : Nat} {Q : State → Prop}
variable {cc : ByteArray} {pc : Nat} {ls : Array Slot} {rest : List Value} {Γ : db_G} {A : Nat → Prop} {H0 : Heap} {L : Nat → Nat → Nat} {ok : Nat → Nat → Prop} {cel : Nat → Nat → (Nat → Int32) → va_E} {X : db_X}
theorem db_get (hexec : p.tables.exec = Jvm.exec) (hb : c.code = cc) (hts : ∀ w ∈ db_gw, w.before args s = true) {own : String} (hown : s.vm.findClass own = some m.cls) (hK : db_K Γ s) (hS : db_S Γ A H0 L ok cel X H locs) (k i : Nat) (hok : ok k i) {ci : Nat} {fs : List Value} (he : cel k i (X k i) = .inr (ci, fs))
    {C : String} {T : u_T} {ty : Nat → FieldType} {N index : Nat} (hc : db_cls ci C T ty N) (f : Nat) (hf : f < N) (hlink : Cond.fieldLink own index (T f).1 (T f).2.1 (T f).2.2.1 ∈ db_gw) {v : Value} (hv : fs[f]? = some v) (hdg : decode cc pc = .ok (.getfield index, 3))
    (kk : W p l e R s m args below meth c H locs cells slots Q (F0 m (pc + 3) ls (v :: rest))) : W p l e R s m args below meth c H locs cells slots Q (F0 m pc ls (.ref (L k i) :: rest)) := by
  obtain ⟨h, hR, hW⟩ := hS
  exact db_getR hexec hb hts hown hK hW.1 ((hR.1 k i hok).trans (by rw [he])) hc f hf (hts _ hlink) hv hdg kk
theorem db_getN (hexec : p.tables.exec = Jvm.exec) (hb : c.code = cc) (hts : ∀ w ∈ db_gw, w.before args s = true) {own host : String} (hown : s.vm.findClass own = some m.cls) (hK : db_K Γ s) (hS : db_S Γ A H0 L ok cel X H locs) (k i : Nat) (hok : ok k i) {ci : Nat} {fs : List Value} (he : cel k i (X k i) = .inr (ci, fs))
    {C : String} {T : u_T} {ty : Nat → FieldType} {N index : Nat} (hc : db_cls ci C T ty N) (f : Nat) (hf : f < N) (hlink : Cond.fieldLinkNest own index (T f).1 (T f).2.1 (T f).2.2.1 host ∈ lw_tbl) {v : Value} (hv : fs[f]? = some v) (hdg : decode cc pc = .ok (.getfield index, 3))
    (kk : W p l e R s m args below meth c H locs cells slots Q (F0 m (pc + 3) ls (v :: rest))) : W p l e R s m args below meth c H locs cells slots Q (F0 m pc ls (.ref (L k i) :: rest)) := by
  obtain ⟨h, hR, hW⟩ := hS
  exact db_getNR hexec hb hts hown hK hW.1 ((hR.1 k i hok).trans (by rw [he])) hc f hf hlink hv hdg kk
theorem db_put (hexec : p.tables.exec = Jvm.exec) (hb : c.code = cc) (hts : ∀ w ∈ db_gw, w.before args s = true) {own : String} (hown : s.vm.findClass own = some m.cls) (hK : db_K Γ s) (hS : db_S Γ A H0 L ok cel X H locs) (k i : Nat) (hok : ok k i) {ci : Nat} {fs : List Value} (he : cel k i (X k i) = .inr (ci, fs))
    {C : String} {T : u_T} {ty : Nat → FieldType} {N index : Nat} (hc : db_cls ci C T ty N) (f : Nat) (hf : f < N) (hlink : Cond.fieldLink own index (T f).1 (T f).2.1 (T f).2.2.1 ∈ db_gw) (hfin : (T f).2.2.2 = false) {v : Int32} (hn : narrow (ty f) (.int v) = .int v) (hfit : fits (ty f) (.int v) = true) (hl : f < fs.length) (he2 : cel k i (db_uf (X k i) f v) = .inr (ci, fs.set f (.int v))) (hdg : decode cc pc = .ok (.putfield index, 3))
    (kk : ∀ (H1 : Heap) (locs1 : List Loc), db_S Γ A H0 L ok cel (db_up X k i f v) H1 locs1 → W p l e R s m args below meth c H1 locs1 cells slots Q (F0 m (pc + 3) ls rest)) : W p l e R s m args below meth c H locs cells slots Q (F0 m pc ls (.int v :: .ref (L k i) :: rest)) := by
  obtain ⟨h, hR, hW⟩ := hS
  exact db_putR hexec hb hts hown hK hW ((hR.1 k i hok).trans (by rw [he])) hc f hf (hts _ hlink) hfin hn hfit hl hdg fun H1 locs1 hW1 => kk H1 locs1 ⟨_, hR.set hok he2, hW1⟩
theorem db_putN (hexec : p.tables.exec = Jvm.exec) (hb : c.code = cc) (hts : ∀ w ∈ db_gw, w.before args s = true) {own host : String} (hown : s.vm.findClass own = some m.cls) (hK : db_K Γ s) (hS : db_S Γ A H0 L ok cel X H locs) (k i : Nat) (hok : ok k i) {ci : Nat} {fs : List Value} (he : cel k i (X k i) = .inr (ci, fs))
    {C : String} {T : u_T} {ty : Nat → FieldType} {N index : Nat} (hc : db_cls ci C T ty N) (f : Nat) (hf : f < N) (hlink : Cond.fieldLinkNest own index (T f).1 (T f).2.1 (T f).2.2.1 host ∈ lw_tbl) (hfin : (T f).2.2.2 = false) {v : Int32} (hn : narrow (ty f) (.int v) = .int v) (hfit : fits (ty f) (.int v) = true) (hl : f < fs.length) (he2 : cel k i (db_uf (X k i) f v) = .inr (ci, fs.set f (.int v))) (hdg : decode cc pc = .ok (.putfield index, 3))
    (kk : ∀ (H1 : Heap) (locs1 : List Loc), db_S Γ A H0 L ok cel (db_up X k i f v) H1 locs1 → W p l e R s m args below meth c H1 locs1 cells slots Q (F0 m (pc + 3) ls rest)) : W p l e R s m args below meth c H locs cells slots Q (F0 m pc ls (.int v :: .ref (L k i) :: rest)) := by
  obtain ⟨h, hR, hW⟩ := hS
  exact db_putNR hexec hb hts hown hK hW ((hR.1 k i hok).trans (by rw [he])) hc f hf hlink hfin hn hfit hl hdg fun H1 locs1 hW1 => kk H1 locs1 ⟨_, hR.set hok he2, hW1⟩
theorem db_ild (hexec : p.tables.exec = Jvm.exec) (hb : c.code = cc) (hK : db_K Γ s) (hS : db_S Γ A H0 L ok cel X H locs) (k i : Nat) (hok : ok k i) {n : Nat} (he : cel k i (X k i) = .inl (Γ.2 0, n, .inl (X k i))) (j : Nat) {x : Int32} (hi : x = nI j) (hj : j < n) (hn : n < 2 ^ 31) (hdg : decode cc pc = .ok (.iaload, 1))
    (kk : W p l e R s m args below meth c H locs cells slots Q (F0 m (pc + 1) ls (.int (X k i j) :: rest))) : W p l e R s m args below meth c H locs cells slots Q (F0 m pc ls (.int x :: .ref (L k i) :: rest)) := by
  obtain ⟨h, hR, hW⟩ := hS
  exact db_ildR hexec hb hK hW.1 ((hR.1 k i hok).trans (by rw [he])) hi hj hn hdg kk
theorem db_zld (hexec : p.tables.exec = Jvm.exec) (hb : c.code = cc) (hK : db_K Γ s) (hS : db_S Γ A H0 L ok cel X H locs) (k i : Nat) (hok : ok k i) {n : Nat} (he : cel k i (X k i) = .inl (Γ.2 1, n, .inl (X k i))) (j : Nat) {x : Int32} (hi : x = nI j) (hj : j < n) (hn : n < 2 ^ 31) (hdg : decode cc pc = .ok (.baload, 1))
    (kk : W p l e R s m args below meth c H locs cells slots Q (F0 m (pc + 1) ls (.int (X k i j) :: rest))) : W p l e R s m args below meth c H locs cells slots Q (F0 m pc ls (.int x :: .ref (L k i) :: rest)) := by
  obtain ⟨h, hR, hW⟩ := hS
  exact db_zldR hexec hb hK hW.1 ((hR.1 k i hok).trans (by rw [he])) hi hj hn hdg kk
theorem db_ist (hexec : p.tables.exec = Jvm.exec) (hb : c.code = cc) (hK : db_K Γ s) (hS : db_S Γ A H0 L ok cel X H locs) (k i : Nat) (hok : ok k i) {n : Nat} (he : ∀ y : Nat → Int32, cel k i y = .inl (Γ.2 0, n, .inl y)) (j : Nat) {x v : Int32} (hi : x = nI j) (hj : j < n) (hn : n < 2 ^ 31) (hdg : decode cc pc = .ok (.iastore, 1))
    (kk : ∀ (H1 : Heap) (locs1 : List Loc), db_S Γ A H0 L ok cel (db_up X k i j v) H1 locs1 → W p l e R s m args below meth c H1 locs1 cells slots Q (F0 m (pc + 1) ls rest)) : W p l e R s m args below meth c H locs cells slots Q (F0 m pc ls (.int v :: .int x :: .ref (L k i) :: rest)) := by
  obtain ⟨h, hR, hW⟩ := hS
  exact db_istR hexec hb hK hW ((hR.1 k i hok).trans (by rw [he])) hi hj hn hdg fun H1 locs1 hW1 => kk H1 locs1 ⟨_, hR.set hok (by rw [he, db_upd_uf]), hW1⟩
theorem db_zst (hexec : p.tables.exec = Jvm.exec) (hb : c.code = cc) (hK : db_K Γ s) (hS : db_S Γ A H0 L ok cel X H locs) (k i : Nat) (hok : ok k i) {n : Nat} (he : ∀ y : Nat → Int32, cel k i y = .inl (Γ.2 1, n, .inl y)) (j : Nat) {x v : Int32} (hi : x = nI j) (hj : j < n) (hn : n < 2 ^ 31) (hv : v = 0 ∨ v = 1) (hdg : decode cc pc = .ok (.bastore, 1))
    (kk : ∀ (H1 : Heap) (locs1 : List Loc), db_S Γ A H0 L ok cel (db_up X k i j v) H1 locs1 → W p l e R s m args below meth c H1 locs1 cells slots Q (F0 m (pc + 1) ls rest)) : W p l e R s m args below meth c H locs cells slots Q (F0 m pc ls (.int v :: .int x :: .ref (L k i) :: rest)) := by
  obtain ⟨h, hR, hW⟩ := hS
  exact db_zstR hexec hb hK hW ((hR.1 k i hok).trans (by rw [he])) hi hj hn hv hdg fun H1 locs1 hW1 => kk H1 locs1 ⟨_, hR.set hok (by rw [he, db_upd_uf]), hW1⟩
theorem db_alen (hexec : p.tables.exec = Jvm.exec) (hb : c.code = cc) (hK : db_K Γ s) (hS : db_S Γ A H0 L ok cel X H locs) (k i : Nat) (hok : ok k i) {cA : ClassId} {n : Nat} {x : (Nat → Int32) ⊕ (Nat → Int64) ⊕ (Nat → UInt32) ⊕ (Nat → UInt64) ⊕ (Nat → Option Nat)} (t0 : Nat) {ty : FieldType} (he : cel k i (X k i) = .inl (cA, n, x)) (ht : (db_tys Γ)[t0]? = some (cA, ty)) (hdg : decode cc pc = .ok (.arraylength, 1))
    (kk : W p l e R s m args below meth c H locs cells slots Q (F0 m (pc + 1) ls (.int (nI n) :: rest))) : W p l e R s m args below meth c H locs cells slots Q (F0 m pc ls (.ref (L k i) :: rest)) := by
  obtain ⟨h, hR, hW⟩ := hS
  exact db_alenR hexec hb hK hW.1 t0 ht ((hR.1 k i hok).trans (by rw [he])) hdg kk
theorem db_ald (hexec : p.tables.exec = Jvm.exec) (hb : c.code = cc) (hK : db_K Γ s) (hS : db_S Γ A H0 L ok cel X H locs) (k i : Nat) (hok : ok k i) {n b : Nat} {cA : ClassId} {C : String} {f : Nat → Option Nat} (t0 : Nat) (he : cel k i (X k i) = .inl (cA, n, .inr (.inr (.inr (.inr f))))) (ht : (db_tys Γ)[t0]? = some (cA, .object C)) (j : Nat) {x : Int32} (hi : x = nI j) (hj : j < n) (hn : n < 2 ^ 31) (hf : f j = some b) (hdg : decode cc pc = .ok (.aaload, 1))
    (kk : W p l e R s m args below meth c H locs cells slots Q (F0 m (pc + 1) ls (.ref b :: rest))) : W p l e R s m args below meth c H locs cells slots Q (F0 m pc ls (.int x :: .ref (L k i) :: rest)) := by
  obtain ⟨h, hR, hW⟩ := hS
  exact db_aldR hexec hb hK hW.1 t0 ht ((hR.1 k i hok).trans (by rw [he])) hi hj hn hf hdg kk
/-! returns -/
theorem db_end {P : Option Value → db_Mem → Prop} {h : db_Mem} (hW : db_W Γ A s.heap h H locs) {v : Option Value} (hP : P v h) {t : State} (ht : t.heap = H) : db_Q P Γ A args s (.returned v) t :=
  ⟨⟨v, h, rfl, hP, by rw [ht]; exact hW.1, hW.2.1⟩, hW.2.2.1.F ht⟩
theorem db_iret (hexec : p.tables.exec = Jvm.exec) (hb : c.code = cc) (hr : meth.sig.returnType = some .int) (hlocks : meth.locks = false) {X' : db_X} {r v : Int32} (hS : db_S Γ A s.heap L ok cel X H locs) (hv : v = r) (hX : X = X') (hdg : decode cc pc = .ok (.ireturn, 1)) :
    W p l e R s m args below meth c H locs cells slots (MQ below (db_Q (fun w h' => w = some (.int r) ∧ db_R L ok cel X' h') Γ A) args s cells slots A) (F0 m pc ls [.int v]) := by
  obtain ⟨h, hR, hW⟩ := hS
  subst hv; subst hX
  exact W.iret hexec hb hr (fun t ht _ => db_end hW ⟨rfl, hR⟩ ht) hW.2.2.1.2.2 hdg hlocks
theorem db_zret (hexec : p.tables.exec = Jvm.exec) (hb : c.code = cc) (hr : meth.sig.returnType = some .boolean) (hlocks : meth.locks = false) {X' : db_X} {r v : Int32} (hS : db_S Γ A s.heap L ok cel X H locs) (h01 : v = 0 ∨ v = 1) (hv : v = r) (hX : X = X') (hdg : decode cc pc = .ok (.ireturn, 1)) :
    W p l e R s m args below meth c H locs cells slots (MQ below (db_Q (fun w h' => w = some (.int r) ∧ db_R L ok cel X' h') Γ A) args s cells slots A) (F0 m pc ls [.int v]) := by
  obtain ⟨h, hR, hW⟩ := hS
  subst hv; subst hX
  exact W.zret hexec hb hr (by rcases h01 with rfl | rfl <;> rfl) (fun t ht _ => db_end hW ⟨rfl, hR⟩ ht) hW.2.2.1.2.2 hdg hlocks
theorem db_vret (hexec : p.tables.exec = Jvm.exec) (hb : c.code = cc) (hr : meth.sig.returnType = none) (hlocks : meth.locks = false) {X' : db_X} (hS : db_S Γ A s.heap L ok cel X H locs) (hX : X = X') (hdg : decode cc pc = .ok (.return_, 1)) :
    W p l e R s m args below meth c H locs cells slots (MQ below (db_Q (fun w h' => w = none ∧ db_R L ok cel X' h') Γ A) args s cells slots A) (F0 m pc ls []) := by
  obtain ⟨h, hR, hW⟩ := hS
  subst hX
  exact W.vret hexec hb hr (fun t ht _ => db_end hW ⟨rfl, hR⟩ ht) hW.2.2.1.2.2 hdg hlocks
theorem db_lret (hexec : p.tables.exec = Jvm.exec) (hb : c.code = cc) (hr : meth.sig.returnType = some .long) (hlocks : meth.locks = false) {X' : db_X} {r v : Int64} (hS : db_S Γ A s.heap L ok cel X H locs) (hv : v = r) (hX : X = X') (hdg : decode cc pc = .ok (.lreturn, 1)) :
    W p l e R s m args below meth c H locs cells slots (MQ below (db_Q (fun w h' => w = some (.long r) ∧ db_R L ok cel X' h') Γ A) args s cells slots A) (F0 m pc ls [.long v]) := by
  obtain ⟨h, hR, hW⟩ := hS
  subst hv; subst hX
  exact W.lret hexec hb hr (fun t ht _ => db_end hW ⟨rfl, hR⟩ ht) hW.2.2.1.2.2 hdg hlocks
end DBW
end
section
/-! calls: from a contract db_M / db_C to W -/
section DBC
variable {p : Program} {l : Launch} {e : Env} {R : Room} {s : State} {m : MethodId} {args : Array Value} {below : List Frame} {meth : Method} {c : Code} {H : Heap} {locs : List Loc} {cells slots : Nat} {Q : State → Prop}
variable {cc : ByteArray} {pc nL : Nat} {ls : Array Slot} {rest st0 : List Value} {Γ : db_G} {A : Nat → Prop} {H0 : Heap} {own : String} {ret0 : Option FieldType}
/-- behind a run: the memory that the callee left -/
theorem db_after {h : db_Mem} {P : Option Value → db_Mem → Prop} {mc ms : Nat} {g : JFrame} {a1 : Array Value} (hW : db_W Γ A H0 h H locs)
    (hr : va_Run p l e R s m args below meth c H locs cells slots mc ms g rest (db_Q P Γ (db_A h H.size) a1) (db_A h H.size))
    (kk : ∀ (v : Option Value) (h' : db_Mem) (H1 : Heap) (locs1 : List Loc), P v h' → db_W Γ A H0 h' H1 locs1 → W p l e R s m args below meth c H1 locs1 (cells + mc) (slots + ms) Q { g with pc := g.pc + 3, stack := v.toList ++ rest }) :
    W p l e R s m args below meth c H locs cells slots Q g := by
  intro T hT X
  obtain ⟨v, st₀, t, T', L, h0, X', hL, e1, e2, ⟨⟨v', h', hv, hP, hH, hD⟩, hz, hk⟩, st⟩ := hr T hT X
  cases hv
  have hA : ∀ q : Nat, db_A h H.size q → A q := by
    intro q hq
    rcases hq with hq | hq
    · cases e9 : h q with
      | none => exact absurd e9 hq
      | some x => exact hW.2.1 q x e9
    · exact hW.2.2.2 q (Nat.le_trans hW.2.2.1.1 hq)
  rw [h0] at hz hk
  obtain ⟨t2, a2, b2⟩ := kk v h' T'.heap (locs ++ L) hP ⟨by rw [e1]; exact hH, fun a x hx => hA a (hD a x hx), ⟨Nat.le_trans hW.2.2.1.1 (by rw [e1]; exact hz), fun q h1 h2 => by rw [e1, hk q (Nat.lt_of_lt_of_le h1 hW.2.2.1.1) (fun z => h2 (hA q z))]; exact hW.2.2.1.2.1 q h1 h2, fun q hq => by
      rcases List.mem_append.mp hq with h | h
      · exact hW.2.2.1.2.2 q h
      · exact hA _ (hL q h)⟩, hW.2.2.2⟩ T' rfl X'
  exact ⟨t2, st t2 a2, b2⟩
theorem db_preS {h : db_Mem} {av : List Value} (hK : db_K Γ s) (hW : db_W Γ A H0 h H locs) : PreS s H (db_Pre Γ av h H.size) av :=
  ⟨db_blind, fun U hU hWm => ⟨rfl, by rw [hU], hK.warm hWm, by rw [hU]; exact hW.1⟩⟩
theorem db_preV {h : db_Mem} {b ci : Nat} {As vs : List Value} {C : String} {T : u_T} {ty : Nat → FieldType} {N : Nat} (hK : db_K Γ s) (hW : db_W Γ A H0 h H locs) (hc : db_cls ci C T ty N) (hb : h b = some (.inr (ci, vs))) : PreV s H C b (db_Pre Γ (.ref b :: As) h H.size) As :=
  ⟨db_blind, va_recv (ws := [(b, .inr (ci, vs))]) hK.1 (db_one (hW.1 _ _ hb)) hc.1 (q0 := 0) rfl, fun U hU hWm => ⟨rfl, by rw [hU], hK.warm hWm, by rw [hU]; exact hW.1⟩⟩
/-- words of a call, and the room -/
def db_cw (R : Room) (y : MethodName) (cc1 : ByteArray) (maxL1 : Nat) (ret1 : Option FieldType) (rm : Room) (n : Nat) : Prop :=
  Cond.code y cc1 maxL1 ret1 ∈ db_gw ∧ Cond.initialized y.cls ∈ db_gw ∧ (y.cls ≠ "java/lang/invoke/MethodHandle" ∧ y.cls ≠ "java/lang/invoke/VarHandle" ∧ (parseMethodDescriptor y.desc).map (fun d => d.parameters.length) = some n) ∧ rm.frames + 1 ≤ R.frames ∧ 8 + (maxL1 + 11) + rm.locals ≤ R.locals
theorem db_cB {y : MethodName} {cc1 : ByteArray} {maxL1 n index : Nat} {ret1 : Option FieldType} {rm : Room} (hts : ∀ w ∈ db_gw, w.before args s = true) (h : db_cw R y cc1 maxL1 ret1 rm n) (hl : Cond.methodLink own index y ∈ db_gw) : CallB R s args own index y cc1 maxL1 ret1 (db_Cd y cc1 maxL1 ret1) rm rm.cells rm.slots n :=
  callB_of n hts (db_good h.1) rfl rfl rfl (hts _ h.2.1) (hts _ hl) h.2.2.1 h.2.2.2
theorem db_cN {y : MethodName} {cc1 : ByteArray} {maxL1 n index : Nat} {ret1 : Option FieldType} {rm : Room} {host : String} (hts : ∀ w ∈ db_gw, w.before args s = true) (hK : db_K Γ s) (h : db_cw R y cc1 maxL1 ret1 rm n) (hl : Cond.methodLinkNest own index y host ∈ lw_tbl) : va_CN R s args own index y host cc1 maxL1 ret1 (db_Cd y cc1 maxL1 ret1) rm rm.cells rm.slots n :=
  va_cnB n hts (db_good h.1) rfl rfl rfl (hK.2.1 _ hl rfl) (hts _ h.2.1) h.2.2.1 h.2.2.2
/-! raw calls: memory h, contract db_M -/
theorem db_runVM {y : MethodName} {cc1 : ByteArray} {maxL1 n index b ci : Nat} {ret1 : Option FieldType} {rm : Room} {As vs : List Value} {h : db_Mem} {P : Option Value → db_Mem → Prop} {C : String} {T : u_T} {ty : Nat → FieldType} {N : Nat}
    (hC : db_Cx p s m args meth c Γ own cc nL ret0) (hW : db_W Γ A H0 h H locs) (hM : db_M l Γ y cc1 maxL1 ret1 rm (.ref b :: As) h P) (hcl : db_cls ci C T ty N) (hb : h b = some (.inr (ci, vs)))
    (hw : db_cw R y cc1 maxL1 ret1 rm n) (hl : Cond.methodLink own index y ∈ db_gw) (hi : Cond.instanceMethod y ∈ db_gw) (hs : Cond.selects C y y ∈ db_gw)
    (hn : As.length = n) (hsz : ls.size = nL) (hst : st0 = As.reverse ++ .ref b :: rest) (hr : (rest.map fun v => v.category).sum ≤ 8) (hdg : decode cc pc = .ok (.invokevirtual index, 3)) (hf : cells + rm.cells ≤ R.cells ∧ slots + rm.slots ≤ R.slots) :
    va_Run p l e R s m args below meth c H locs cells slots rm.cells rm.slots (F0 m pc ls st0) rest (db_Q P Γ (db_A h H.size) (Value.ref b :: As).toArray) (db_A h H.size) := by
  obtain ⟨hx, hbb, hml, -, -, hown, hts, hK⟩ := hC
  exact va_runV ⟨hx, hbb, hml, hown, hts⟩ (hM H.size) ⟨db_cB hts hw hl, hts _ hi, hts _ hs⟩ (db_preV hK hW hcl hb) rfl hn hsz hst (lv_room hr) hdg hf
theorem db_runVNM {y : MethodName} {cc1 : ByteArray} {maxL1 n index b ci : Nat} {ret1 : Option FieldType} {rm : Room} {As vs : List Value} {h : db_Mem} {P : Option Value → db_Mem → Prop} {C host : String} {T : u_T} {ty : Nat → FieldType} {N : Nat}
    (hC : db_Cx p s m args meth c Γ own cc nL ret0) (hW : db_W Γ A H0 h H locs) (hM : db_M l Γ y cc1 maxL1 ret1 rm (.ref b :: As) h P) (hcl : db_cls ci C T ty N) (hb : h b = some (.inr (ci, vs)))
    (hw : db_cw R y cc1 maxL1 ret1 rm n) (hl : Cond.methodLinkNest own index y host ∈ lw_tbl) (hi : Cond.instanceMethod y ∈ db_gw) (hs : Cond.selects C y y ∈ db_gw)
    (hn : As.length = n) (hsz : ls.size = nL) (hst : st0 = As.reverse ++ .ref b :: rest) (hr : (rest.map fun v => v.category).sum ≤ 8) (hdg : decode cc pc = .ok (.invokevirtual index, 3)) (hf : cells + rm.cells ≤ R.cells ∧ slots + rm.slots ≤ R.slots) :
    va_Run p l e R s m args below meth c H locs cells slots rm.cells rm.slots (F0 m pc ls st0) rest (db_Q P Γ (db_A h H.size) (Value.ref b :: As).toArray) (db_A h H.size) := by
  obtain ⟨hx, hbb, hml, -, -, hown, hts, hK⟩ := hC
  exact va_runVN ⟨hx, hbb, hml, hown, hts⟩ (hM H.size) ⟨db_cN hts hK hw hl, hts _ hi, hts _ hs⟩ (db_preV hK hW hcl hb) rfl hn hsz hst (lv_room hr) hdg hf
theorem db_runIM {y : MethodName} {cc1 : ByteArray} {maxL1 n index b : Nat} {rm : Room} {As : List Value} {h : db_Mem} {P : Option Value → db_Mem → Prop}
    (hC : db_Cx p s m args meth c Γ own cc nL ret0) (hW : db_W Γ A H0 h H locs) (hM : db_M l Γ y cc1 maxL1 none rm (.ref b :: As) h P)
    (hw : db_cw R y cc1 maxL1 none rm n) (hl : Cond.methodLink own index y ∈ db_gw) (hi : Cond.instanceMethod y ∈ db_gw) (hy1 : y.name = "<init>")
    (hn : As.length = n) (hsz : ls.size = nL) (hst : st0 = As.reverse ++ .ref b :: rest) (hr : (rest.map fun v => v.category).sum ≤ 8) (hdg : decode cc pc = .ok (.invokespecial index, 3)) (hf : cells + rm.cells ≤ R.cells ∧ slots + rm.slots ≤ R.slots) :
    va_Run p l e R s m args below meth c H locs cells slots rm.cells rm.slots (F0 m pc ls st0) rest (db_Q P Γ (db_A h H.size) (Value.ref b :: As).toArray) (db_A h H.size) := by
  obtain ⟨hx, hbb, hml, -, -, hown, hts, hK⟩ := hC
  exact va_runI ⟨hx, hbb, hml, hown, hts⟩ (hM H.size) ⟨db_cB hts hw hl, hy1, hts _ hi⟩ (db_preS hK hW) rfl hn hsz hst (lv_room hr) hdg hf
theorem db_runINM {y : MethodName} {cc1 : ByteArray} {maxL1 n index b : Nat} {rm : Room} {As : List Value} {h : db_Mem} {P : Option Value → db_Mem → Prop} {host : String}
    (hC : db_Cx p s m args meth c Γ own cc nL ret0) (hW : db_W Γ A H0 h H locs) (hM : db_M l Γ y cc1 maxL1 none rm (.ref b :: As) h P)
    (hw : db_cw R y cc1 maxL1 none rm n) (hl : Cond.methodLinkNest own index y host ∈ lw_tbl) (hi : Cond.instanceMethod y ∈ db_gw) (hy1 : y.name = "<init>")
    (hn : As.length = n) (hsz : ls.size = nL) (hst : st0 = As.reverse ++ .ref b :: rest) (hr : (rest.map fun v => v.category).sum ≤ 8) (hdg : decode cc pc = .ok (.invokespecial index, 3)) (hf : cells + rm.cells ≤ R.cells ∧ slots + rm.slots ≤ R.slots) :
    va_Run p l e R s m args below meth c H locs cells slots rm.cells rm.slots (F0 m pc ls st0) rest (db_Q P Γ (db_A h H.size) (Value.ref b :: As).toArray) (db_A h H.size) := by
  obtain ⟨hx, hbb, hml, -, -, hown, hts, hK⟩ := hC
  exact va_runIN ⟨hx, hbb, hml, hown, hts⟩ (hM H.size) ⟨db_cN hts hK hw hl, hy1, hts _ hi⟩ (db_preS hK hW) rfl hn hsz hst (lv_room hr) hdg hf
theorem db_runSM {y : MethodName} {cc1 : ByteArray} {maxL1 n index : Nat} {ret1 : Option FieldType} {rm : Room} {As : List Value} {h : db_Mem} {P : Option Value → db_Mem → Prop}
    (hC : db_Cx p s m args meth c Γ own cc nL ret0) (hW : db_W Γ A H0 h H locs) (hM : db_M l Γ y cc1 maxL1 ret1 rm As h P)
    (hw : db_cw R y cc1 maxL1 ret1 rm n) (hl : Cond.methodLink own index y ∈ db_gw) (hi : Cond.static y ∈ db_gw)
    (hn : As.length = n) (hsz : ls.size = nL) (hst : st0 = As.reverse ++ rest) (hr : (rest.map fun v => v.category).sum ≤ 8) (hdg : decode cc pc = .ok (.invokestatic index, 3)) (hf : cells + rm.cells ≤ R.cells ∧ slots + rm.slots ≤ R.slots) :
    va_Run p l e R s m args below meth c H locs cells slots rm.cells rm.slots (F0 m pc ls st0) rest (db_Q P Γ (db_A h H.size) As.toArray) (db_A h H.size) := by
  obtain ⟨hx, hbb, hml, -, -, hown, hts, hK⟩ := hC
  exact va_runS ⟨hx, hbb, hml, hown, hts⟩ (hM H.size) ⟨db_cB hts hw hl, hts _ hi⟩ (db_preS hK hW) rfl hn hsz hst (lv_room hr) hdg hf
/-! calls over a world -/
variable {L : Nat → Nat → Nat} {ok : Nat → Nat → Prop} {cel : Nat → Nat → (Nat → Int32) → va_E} {X X' : db_X}
theorem db_cV {y : MethodName} {cc1 : ByteArray} {maxL1 n index ci : Nat} {ret1 : Option FieldType} {rm : Room} {As vs : List Value} {r : Option Value} {C : String} {T : u_T} {ty : Nat → FieldType} {N : Nat}
    (hC : db_Cx p s m args meth c Γ own cc nL ret0) (hS : db_S Γ A H0 L ok cel X H locs) (k i : Nat) (hok : ok k i) (he : cel k i (X k i) = .inr (ci, vs)) (hcl : db_cls ci C T ty N) (hM : db_C l Γ y cc1 maxL1 ret1 rm (.ref (L k i) :: As) L ok cel X r X')
    (hw : db_cw R y cc1 maxL1 ret1 rm n) (hl : Cond.methodLink own index y ∈ db_gw) (hi : Cond.instanceMethod y ∈ db_gw) (hs : Cond.selects C y y ∈ db_gw)
    (hn : As.length = n) (hsz : ls.size = nL) (hst : st0 = As.reverse ++ .ref (L k i) :: rest) (hr : (rest.map fun v => v.category).sum ≤ 8) (hdg : decode cc pc = .ok (.invokevirtual index, 3)) (hf : cells + rm.cells ≤ R.cells ∧ slots + rm.slots ≤ R.slots)
    {st1 : List Value} (hst1 : r.toList ++ rest = st1)
    (kk : ∀ (H1 : Heap) (locs1 : List Loc), db_S Γ A H0 L ok cel X' H1 locs1 → W p l e R s m args below meth c H1 locs1 (cells + rm.cells) (slots + rm.slots) Q (F0 m (pc + 3) ls st1)) : W p l e R s m args below meth c H locs cells slots Q (F0 m pc ls st0) := by
  obtain ⟨h, hR, hW⟩ := hS
  refine db_after hW (db_runVM hC hW (hM h hR) hcl ((hR.1 k i hok).trans (by rw [he])) hw hl hi hs hn hsz hst hr hdg hf) fun v h' H1 locs1 hP hW1 => ?_
  obtain ⟨rfl, hR1⟩ := hP
  subst hst1
  exact kk H1 locs1 ⟨h', hR1, hW1⟩
theorem db_cVN {y : MethodName} {cc1 : ByteArray} {maxL1 n index ci : Nat} {ret1 : Option FieldType} {rm : Room} {As vs : List Value} {r : Option Value} {C host : String} {T : u_T} {ty : Nat → FieldType} {N : Nat}
    (hC : db_Cx p s m args meth c Γ own cc nL ret0) (hS : db_S Γ A H0 L ok cel X H locs) (k i : Nat) (hok : ok k i) (he : cel k i (X k i) = .inr (ci, vs)) (hcl : db_cls ci C T ty N) (hM : db_C l Γ y cc1 maxL1 ret1 rm (.ref (L k i) :: As) L ok cel X r X')
    (hw : db_cw R y cc1 maxL1 ret1 rm n) (hl : Cond.methodLinkNest own index y host ∈ lw_tbl) (hi : Cond.instanceMethod y ∈ db_gw) (hs : Cond.selects C y y ∈ db_gw)
    (hn : As.length = n) (hsz : ls.size = nL) (hst : st0 = As.reverse ++ .ref (L k i) :: rest) (hr : (rest.map fun v => v.category).sum ≤ 8) (hdg : decode cc pc = .ok (.invokevirtual index, 3)) (hf : cells + rm.cells ≤ R.cells ∧ slots + rm.slots ≤ R.slots)
    {st1 : List Value} (hst1 : r.toList ++ rest = st1)
    (kk : ∀ (H1 : Heap) (locs1 : List Loc), db_S Γ A H0 L ok cel X' H1 locs1 → W p l e R s m args below meth c H1 locs1 (cells + rm.cells) (slots + rm.slots) Q (F0 m (pc + 3) ls st1)) : W p l e R s m args below meth c H locs cells slots Q (F0 m pc ls st0) := by
  obtain ⟨h, hR, hW⟩ := hS
  refine db_after hW (db_runVNM hC hW (hM h hR) hcl ((hR.1 k i hok).trans (by rw [he])) hw hl hi hs hn hsz hst hr hdg hf) fun v h' H1 locs1 hP hW1 => ?_
  obtain ⟨rfl, hR1⟩ := hP
  subst hst1
  exact kk H1 locs1 ⟨h', hR1, hW1⟩
end DBC
end
section
/-! the world of the class: kinds 0 bench, 1 task i, 2 job i, 3 holders, 4 section list, 5 rows, 6 miss log, 7 numbers, 8 times, 9 history, 10 runners, 11 tasks, 12 section j (by the order of their making); N: 0 tasks, 1 locks, 2 sections, 3 log -/
def bb_cel (Γ : db_G) (N : Nat → Nat) (L : Nat → Nat → Nat) (k i : Nat) (x : Nat → Int32) : va_E := match k with
  | 0 => .inr (6, [.ref (L 11 0), .ref (L 3 0), .ref (L 4 0), .ref (L 6 0), .ref (L 9 0), .int (x 5), .int (x 6), .int (x 7)])
  | 1 => .inr (5, [.ref (L 2 i), .int (x 1), .int (x 2), .int (x 3), .int (x 4), .int (x 5), .int (x 6), .int (x 7), .int (x 8), .int (x 9), .int (x 10), .int (x 11)])
  | 2 => .inr (0, [.int (x 0), .int (x 1), .int (x 2), .int (x 3), .int (x 4), .int (x 5), .int (x 6)])
  | 3 => .inl (Γ.2 0, N 1, .inl x)
  | 4 => .inr (4, [.ref (L 5 0), .int (x 1)])
  | 5 => .inl (Γ.2 3, N 2, .inr (.inr (.inr (.inr (fun p => if x p < 0 then none else some (L 12 (x p).toNatClampNeg))))))
  | 6 => .inr (1, [.ref (L 7 0), .ref (L 8 0), .int (x 2)])
  | 7 => .inl (Γ.2 0, N 3, .inl x)
  | 8 => .inl (Γ.2 0, N 3, .inl x)
  | 9 => .inr (2, [.ref (L 10 0), .int (x 1)])
  | 10 => .inl (Γ.2 0, 100, .inl x)
  | 11 => .inl (Γ.2 2, N 0, .inr (.inr (.inr (.inr (fun p => some (L 1 p))))))
  | _ => .inr (3, [.int (x 0), .int (x 1), .int (x 2), .int (x 3), .int (x 4)])
def bb_ok (n cnt : Nat) (k i : Nat) : Prop := ((k = 1 ∨ k = 2) ∧ i < n) ∨ (k = 12 ∧ i < cnt) ∨ (k ≤ 11 ∧ k ≠ 1 ∧ k ≠ 2 ∧ i = 0)
theorem bb_k {n cnt : Nat} (k : Nat) (h : (decide (k ≤ 11) && decide (k ≠ 1) && decide (k ≠ 2)) = true) : bb_ok n cnt k 0 := by
  simp only [Bool.and_eq_true, decide_eq_true_eq] at h
  exact Or.inr (Or.inr ⟨h.1.1, h.1.2, h.2, rfl⟩)
theorem bb_kT {n cnt i : Nat} (h : i < n) : bb_ok n cnt 1 i := Or.inl ⟨Or.inl rfl, h⟩
theorem bb_kJ {n cnt i : Nat} (h : i < n) : bb_ok n cnt 2 i := Or.inl ⟨Or.inr rfl, h⟩
theorem bb_kS {n cnt i : Nat} (h : i < cnt) : bb_ok n cnt 12 i := Or.inr (Or.inl ⟨rfl, h⟩)
def bb_N (N : Nat → Nat) : Prop := 1 ≤ N 0 ∧ N 0 ≤ 40 ∧ N 1 ≤ 16 ∧ N 2 ≤ 120 ∧ N 3 ≤ 100
def db_rm (f l : Nat) : Room := { frames := f, cells := 0, slots := 0, locals := l }
/-! a method's entry, its end as a rule -/
theorem db_introI {l : Launch} {Γ : db_G} {y : MethodName} {cc : ByteArray} {maxL f l1 : Nat} {av : List Value} {L : Nat → Nat → Nat} {ok : Nat → Nat → Prop} {cel : Nat → Nat → (Nat → Int32) → va_E} {X X' : db_X} {r : Int32} (hy : plainName y.cls = true) (hlen : (lg_sl av).length ≤ maxL)
    (body : ∀ (p : Program) (e : Env) (s : State) (m : MethodId) (args : Array Value) (below : List Frame) (meth : Method) (c : Code) (A : Nat → Prop) (Q : State → Prop) (ls : Array Slot), db_Cx p s m args meth c Γ y.cls cc maxL (some .int) → db_S Γ A s.heap L ok cel X s.heap [] → lv_has ls maxL (lv_args 0 av) →
      (∀ (H : Heap) (locs : List Loc) (pc : Nat) (ls : Array Slot) (v : Int32) (X1 : db_X), db_S Γ A s.heap L ok cel X1 H locs → v = r → X1 = X' → decode cc pc = .ok (.ireturn, 1) → W p l e (db_rm f l1) s m args below meth c H locs 0 0 Q (F0 m pc ls [.int v])) →
      W p l e (db_rm f l1) s m args below meth c s.heap [] 0 0 Q (F0 m 0 ls [])) : db_C l Γ y cc maxL (some .int) (db_rm f l1) av L ok cel X (some (.int r)) X' :=
  db_intro hy hlen fun p e s m below meth c A ls hC hS hl => body p e s m av.toArray below meth c A _ ls hC hS hl fun _ _ _ _ _ _ hS1 hv hX hd => db_iret hC.1 hC.2.1 hC.2.2.2.1 hC.2.2.2.2.1 hS1 hv hX hd
theorem db_introZ {l : Launch} {Γ : db_G} {y : MethodName} {cc : ByteArray} {maxL f l1 : Nat} {av : List Value} {L : Nat → Nat → Nat} {ok : Nat → Nat → Prop} {cel : Nat → Nat → (Nat → Int32) → va_E} {X X' : db_X} {r : Int32} (hy : plainName y.cls = true) (hlen : (lg_sl av).length ≤ maxL) (hr01 : r = 0 ∨ r = 1)
    (body : ∀ (p : Program) (e : Env) (s : State) (m : MethodId) (args : Array Value) (below : List Frame) (meth : Method) (c : Code) (A : Nat → Prop) (Q : State → Prop) (ls : Array Slot), db_Cx p s m args meth c Γ y.cls cc maxL (some .boolean) → db_S Γ A s.heap L ok cel X s.heap [] → lv_has ls maxL (lv_args 0 av) →
      (∀ (H : Heap) (locs : List Loc) (pc : Nat) (ls : Array Slot) (v : Int32) (X1 : db_X), db_S Γ A s.heap L ok cel X1 H locs → v = r → X1 = X' → decode cc pc = .ok (.ireturn, 1) → W p l e (db_rm f l1) s m args below meth c H locs 0 0 Q (F0 m pc ls [.int v])) →
      W p l e (db_rm f l1) s m args below meth c s.heap [] 0 0 Q (F0 m 0 ls [])) : db_C l Γ y cc maxL (some .boolean) (db_rm f l1) av L ok cel X (some (.int r)) X' :=
  db_intro hy hlen fun p e s m below meth c A ls hC hS hl => body p e s m av.toArray below meth c A _ ls hC hS hl fun _ _ _ _ _ _ hS1 hv hX hd => db_zret hC.1 hC.2.1 hC.2.2.2.1 hC.2.2.2.2.1 hS1 (by rw [hv]; exact hr01) hv hX hd
theorem db_introV {l : Launch} {Γ : db_G} {y : MethodName} {cc : ByteArray} {maxL f l1 : Nat} {av : List Value} {L : Nat → Nat → Nat} {ok : Nat → Nat → Prop} {cel : Nat → Nat → (Nat → Int32) → va_E} {X X' : db_X} (hy : plainName y.cls = true) (hlen : (lg_sl av).length ≤ maxL)
    (body : ∀ (p : Program) (e : Env) (s : State) (m : MethodId) (args : Array Value) (below : List Frame) (meth : Method) (c : Code) (A : Nat → Prop) (Q : State → Prop) (ls : Array Slot), db_Cx p s m args meth c Γ y.cls cc maxL none → db_S Γ A s.heap L ok cel X s.heap [] → lv_has ls maxL (lv_args 0 av) →
      (∀ (H : Heap) (locs : List Loc) (pc : Nat) (ls : Array Slot) (X1 : db_X), db_S Γ A s.heap L ok cel X1 H locs → X1 = X' → decode cc pc = .ok (.return_, 1) → W p l e (db_rm f l1) s m args below meth c H locs 0 0 Q (F0 m pc ls [])) →
      W p l e (db_rm f l1) s m args below meth c s.heap [] 0 0 Q (F0 m 0 ls [])) : db_C l Γ y cc maxL none (db_rm f l1) av L ok cel X none X' :=
  db_intro hy hlen fun p e s m below meth c A ls hC hS hl => body p e s m av.toArray below meth c A _ ls hC hS hl fun _ _ _ _ _ hS1 hX hd => db_vret hC.1 hC.2.1 hC.2.2.2.1 hC.2.2.2.2.1 hS1 hX hd
theorem db_introL {l : Launch} {Γ : db_G} {y : MethodName} {cc : ByteArray} {maxL f l1 : Nat} {av : List Value} {L : Nat → Nat → Nat} {ok : Nat → Nat → Prop} {cel : Nat → Nat → (Nat → Int32) → va_E} {X X' : db_X} {r : Int64} (hy : plainName y.cls = true) (hlen : (lg_sl av).length ≤ maxL)
    (body : ∀ (p : Program) (e : Env) (s : State) (m : MethodId) (args : Array Value) (below : List Frame) (meth : Method) (c : Code) (A : Nat → Prop) (Q : State → Prop) (ls : Array Slot), db_Cx p s m args meth c Γ y.cls cc maxL (some .long) → db_S Γ A s.heap L ok cel X s.heap [] → lv_has ls maxL (lv_args 0 av) →
      (∀ (H : Heap) (locs : List Loc) (pc : Nat) (ls : Array Slot) (v : Int64) (X1 : db_X), db_S Γ A s.heap L ok cel X1 H locs → v = r → X1 = X' → decode cc pc = .ok (.lreturn, 1) → W p l e (db_rm f l1) s m args below meth c H locs 0 0 Q (F0 m pc ls [.long v])) →
      W p l e (db_rm f l1) s m args below meth c s.heap [] 0 0 Q (F0 m 0 ls [])) : db_C l Γ y cc maxL (some .long) (db_rm f l1) av L ok cel X (some (.long r)) X' :=
  db_intro hy hlen fun p e s m below meth c A ls hC hS hl => body p e s m av.toArray below meth c A _ ls hC hS hl fun _ _ _ _ _ _ hS1 hv hX hd => db_lret hC.1 hC.2.1 hC.2.2.2.1 hC.2.2.2.2.1 hS1 hv hX hd
/-! the world of the reference: kind 0 the object, 6 .. 33 its arrays -/
def mm_cel (Γ : db_G) (N : Nat → Nat) (L : Nat → Nat → Nat) (k _i : Nat) (x : Nat → Int32) : va_E := match k with
  | 0 => .inr (7, [.int (nI (N 0)), .int (nI (N 1)), .int (nI (N 2)), .int (nI (N 3)), .int (x 4), .int (x 5), .ref (L 6 0), .ref (L 7 0), .ref (L 8 0), .ref (L 9 0), .ref (L 10 0), .ref (L 11 0), .ref (L 12 0), .ref (L 13 0), .ref (L 14 0), .ref (L 15 0), .ref (L 16 0), .ref (L 17 0), .ref (L 18 0), .ref (L 19 0), .ref (L 20 0), .ref (L 21 0), .ref (L 22 0), .ref (L 23 0), .int (x 24), .ref (L 25 0), .ref (L 26 0), .ref (L 27 0), .ref (L 28 0), .ref (L 29 0), .int (x 30), .ref (L 31 0), .ref (L 32 0), .ref (L 33 0), .int (x 34), .int (x 35)])
  | 6 => .inl (Γ.2 1, 40, .inl x)
  | 17 => .inl (Γ.2 1, 40, .inl x)
  | 22 => .inl (Γ.2 1, 40, .inl x)
  | 23 => .inl (Γ.2 0, 16, .inl x)
  | 25 => .inl (Γ.2 0, 120, .inl x)
  | 26 => .inl (Γ.2 0, 120, .inl x)
  | 27 => .inl (Γ.2 0, 120, .inl x)
  | 28 => .inl (Γ.2 0, 120, .inl x)
  | 31 => .inl (Γ.2 0, 100, .inl x)
  | 32 => .inl (Γ.2 0, 100, .inl x)
  | 33 => .inl (Γ.2 0, 100, .inl x)
  | _ => .inl (Γ.2 0, 40, .inl x)
def mm_ok (k i : Nat) : Prop := i = 0 ∧ (k = 0 ∨ (6 ≤ k ∧ k ≤ 33 ∧ k ≠ 24 ∧ k ≠ 30))
theorem mm_k (k : Nat) (h : (decide (k = 0) || (decide (6 ≤ k) && decide (k ≤ 33) && decide (k ≠ 24) && decide (k ≠ 30))) = true) : mm_ok k 0 := by
  simp only [Bool.or_eq_true, Bool.and_eq_true, decide_eq_true_eq] at h
  rcases h with h | h
  · exact ⟨rfl, Or.inl h⟩
  · exact ⟨rfl, Or.inr ⟨h.1.1.1, h.1.1.2, h.1.2, h.2⟩⟩
end
section
theorem db_nz {v : Int32} (h : v = 0 ∨ v = 1) : narrow .boolean (.int v) = .int v := by rcases h with rfl | rfl <;> rfl
theorem db_fz {v : Int32} (h : v = 0 ∨ v = 1) : fits .boolean (.int v) = true := by rcases h with rfl | rfl <;> rfl
theorem db_ix {x : Int32} {n : Nat} (hn : n < 2 ^ 31) (h0 : ¬ x < 0) (h1 : ¬ nI n ≤ x) : ∃ j : Nat, j < n ∧ x = nI j := by
  rcases pk_ix x hn with h | h | h
  · exact absurd h h0
  · exact absurd h h1
  · exact h
theorem db_nIc {j n : Nat} (h : j < n) (hn : n < 2 ^ 31) : (nI j).toNatClampNeg = j := nI_clamp (by omega)
theorem db_case {x : Int32} {n : Nat} (hn : n < 2 ^ 31) (h0 : ¬ x.toInt < 0) (h1 : ¬ (n : Int) < x.toInt) : ∃ j : Nat, j ≤ n ∧ x = nI j := by
  obtain ⟨j, hj, e⟩ := nI_of (x := x) (fun h => h0 (by rw [Int32.lt_iff_toInt_lt] at h; simpa using h))
  refine ⟨j, ?_, e⟩
  rw [e, nI_toInt hj] at h1
  omega
theorem db_out11 {x : Int32} (h0 : ¬ x = 0) (h1 : ¬ x = 1) (h2 : ¬ x = 2) (h3 : ¬ x = 3) (h4 : ¬ x = 4) (h5 : ¬ x = 5) (h6 : ¬ x = 6) (h7 : ¬ x = 7) (h8 : ¬ x = 8) (h9 : ¬ x = 9) (h10 : ¬ x = 10) : x.toInt < 0 ∨ 10 < x.toInt := by
  by_cases a : x.toInt < 0
  · exact Or.inl a
  by_cases b : 10 < x.toInt
  · exact Or.inr b
  exfalso
  obtain ⟨j, hj, e⟩ := db_case (n := 10) (by decide) a b
  have hj : j = 0 ∨ j = 1 ∨ j = 2 ∨ j = 3 ∨ j = 4 ∨ j = 5 ∨ j = 6 ∨ j = 7 ∨ j = 8 ∨ j = 9 ∨ j = 10 := by omega
  rcases hj with rfl | rfl | rfl | rfl | rfl | rfl | rfl | rfl | rfl | rfl | rfl
  · exact h0 (e.trans (by decide +kernel))
  · exact h1 (e.trans (by decide +kernel))
  · exact h2 (e.trans (by decide +kernel))
  · exact h3 (e.trans (by decide +kernel))
  · exact h4 (e.trans (by decide +kernel))
  · exact h5 (e.trans (by decide +kernel))
  · exact h6 (e.trans (by decide +kernel))
  · exact h7 (e.trans (by decide +kernel))
  · exact h8 (e.trans (by decide +kernel))
  · exact h9 (e.trans (by decide +kernel))
  · exact h10 (e.trans (by decide +kernel))
theorem db_out7 {x : Int32} (h0 : ¬ x = 0) (h1 : ¬ x = 1) (h2 : ¬ x = 2) (h3 : ¬ x = 3) (h4 : ¬ x = 4) (h5 : ¬ x = 5) (h6 : ¬ x = 6) : x.toInt < 0 ∨ 6 < x.toInt := by
  by_cases a : x.toInt < 0
  · exact Or.inl a
  by_cases b : 6 < x.toInt
  · exact Or.inr b
  exfalso
  obtain ⟨j, hj, e⟩ := db_case (n := 6) (by decide) a b
  have hj : j = 0 ∨ j = 1 ∨ j = 2 ∨ j = 3 ∨ j = 4 ∨ j = 5 ∨ j = 6 := by omega
  rcases hj with rfl | rfl | rfl | rfl | rfl | rfl | rfl
  · exact h0 (e.trans (by decide +kernel))
  · exact h1 (e.trans (by decide +kernel))
  · exact h2 (e.trans (by decide +kernel))
  · exact h3 (e.trans (by decide +kernel))
  · exact h4 (e.trans (by decide +kernel))
  · exact h5 (e.trans (by decide +kernel))
  · exact h6 (e.trans (by decide +kernel))
theorem wm_max : Cond.code Lib.Math.max.name Lib.Math.max.code 2 (some .int) ∈ db_gw := List.mem_filter.mpr ⟨List.mem_of_getElem? (i := 78) (by decide +kernel), by decide +kernel⟩
theorem db_mmax {p : Program} {l : Launch} {e : Env} {R : Room} {s : State} {m : MethodId} {args : Array Value} {below : List Frame} {meth : Method} {c : Code} {H : Heap} {locs : List Loc} {Q : State → Prop} {cc : ByteArray} {pc nL index : Nat} {ls : Array Slot} {rest : List Value} {Γ : db_G} {own : String} {ret0 : Option FieldType} {x y : Int32}
    (hC : db_Cx p s m args meth c Γ own cc nL ret0) (hsz : ls.size = nL) (hl : Cond.methodLink own index Lib.Math.max.name ∈ db_gw) (hf : 1 ≤ R.frames) (hlo : (rest.map fun v => v.category).sum + 13 ≤ R.locals) (hdg : decode cc pc = .ok (.invokestatic index, 3))
    (kk : W p l e R s m args below meth c H locs 0 0 Q (F0 m (pc + 3) ls (.int (if x < y then y else x) :: rest))) : W p l e R s m args below meth c H locs 0 0 Q (F0 m pc ls (.int y :: .int x :: rest)) := by
  obtain ⟨hx, hb, hml, -, -, hown, hts, hK⟩ := hC
  exact va_mmax hx hb (hml.trans hsz.symm) hown (hts _ hl) (hts _ wd_26) (hts _ wd_2) (hts _ wm_max) hf hlo (Nat.zero_le _) (Nat.zero_le _) hdg kk
theorem wm_min : Cond.code Lib.Math.min.name Lib.Math.min.code 2 (some .int) ∈ db_gw := List.mem_filter.mpr ⟨List.mem_of_getElem? (i := 75) (by decide +kernel), by decide +kernel⟩
theorem db_mmin {p : Program} {l : Launch} {e : Env} {R : Room} {s : State} {m : MethodId} {args : Array Value} {below : List Frame} {meth : Method} {c : Code} {H : Heap} {locs : List Loc} {Q : State → Prop} {cc : ByteArray} {pc nL index : Nat} {ls : Array Slot} {rest : List Value} {Γ : db_G} {own : String} {ret0 : Option FieldType} {x y : Int32}
    (hC : db_Cx p s m args meth c Γ own cc nL ret0) (hsz : ls.size = nL) (hl : Cond.methodLink own index Lib.Math.min.name ∈ db_gw) (hf : 1 ≤ R.frames) (hlo : (rest.map fun v => v.category).sum + 13 ≤ R.locals) (hdg : decode cc pc = .ok (.invokestatic index, 3))
    (kk : W p l e R s m args below meth c H locs 0 0 Q (F0 m (pc + 3) ls (.int (if y < x then y else x) :: rest))) : W p l e R s m args below meth c H locs 0 0 Q (F0 m pc ls (.int y :: .int x :: rest)) := by
  obtain ⟨hx, hb, hml, -, -, hown, hts, hK⟩ := hC
  exact va_mmin hx hb (hml.trans hsz.symm) hown (hts _ hl) (hts _ wd_23) (hts _ wd_2) (hts _ wm_min) hf hlo (Nat.zero_le _) (Nat.zero_le _) hdg kk
theorem cw_X6_init {R rm : Room} (h1 : rm.frames + 1 ≤ R.frames) (h2 : 8 + (7 + 11) + rm.locals ≤ R.locals) : db_cw R yX6_init cX6_init 7 none rm 5 := ⟨wd_15, wd_1, by decide +kernel, h1, h2⟩
theorem cw_X6_nearest {R rm : Room} (h1 : rm.frames + 1 ≤ R.frames) (h2 : 8 + (3 + 11) + rm.locals ≤ R.locals) : db_cw R yX6_nearest cX6_nearest 3 (some .int) rm 3 := ⟨wd_21, wd_1, by decide +kernel, h1, h2⟩
theorem cw_X5_init {R rm : Room} (h1 : rm.frames + 1 ≤ R.frames) (h2 : 8 + (1 + 11) + rm.locals ≤ R.locals) : db_cw R yX5_init cX5_init 1 none rm 0 := ⟨wd_33, wd_3, by decide +kernel, h1, h2⟩
theorem cw_X0_init {R rm : Room} (h1 : rm.frames + 1 ≤ R.frames) (h2 : 8 + (1 + 11) + rm.locals ≤ R.locals) : db_cw R yX0_init cX0_init 1 none rm 0 := ⟨wd_39, wd_4, by decide +kernel, h1, h2⟩
theorem cw_X4_init {R rm : Room} (h1 : rm.frames + 1 ≤ R.frames) (h2 : 8 + (2 + 11) + rm.locals ≤ R.locals) : db_cw R yX4_init cX4_init 2 none rm 1 := ⟨wd_126, wd_6, by decide +kernel, h1, h2⟩
theorem cw_X1_init {R rm : Room} (h1 : rm.frames + 1 ≤ R.frames) (h2 : 8 + (2 + 11) + rm.locals ≤ R.locals) : db_cw R yX1_init cX1_init 2 none rm 1 := ⟨wd_144, wd_7, by decide +kernel, h1, h2⟩
theorem cw_X2_init {R rm : Room} (h1 : rm.frames + 1 ≤ R.frames) (h2 : 8 + (1 + 11) + rm.locals ≤ R.locals) : db_cw R yX2_init cX2_init 1 none rm 0 := ⟨wd_163, wd_8, by decide +kernel, h1, h2⟩
theorem cw_X6_addTask {R rm : Room} (h1 : rm.frames + 1 ≤ R.frames) (h2 : 8 + (6 + 11) + rm.locals ≤ R.locals) : db_cw R yX6_addTask cX6_addTask 6 (some .int) rm 3 := ⟨wd_200, wd_1, by decide +kernel, h1, h2⟩
theorem cw_X5_enter {R rm : Room} (h1 : rm.frames + 1 ≤ R.frames) (h2 : 8 + (5 + 11) + rm.locals ≤ R.locals) : db_cw R yX5_enter cX5_enter 5 none rm 4 := ⟨wd_204, wd_3, by decide +kernel, h1, h2⟩
theorem cw_X6_addSection {R rm : Room} (h1 : rm.frames + 1 ≤ R.frames) (h2 : 8 + (5 + 11) + rm.locals ≤ R.locals) : db_cw R yX6_addSection cX6_addSection 5 (some .boolean) rm 4 := ⟨wd_208, wd_1, by decide +kernel, h1, h2⟩
theorem cw_X6_isLive {R rm : Room} (h1 : rm.frames + 1 ≤ R.frames) (h2 : 8 + (2 + 11) + rm.locals ≤ R.locals) : db_cw R yX6_isLive cX6_isLive 2 (some .boolean) rm 1 := ⟨wd_212, wd_1, by decide +kernel, h1, h2⟩
theorem cw_X6_isLock {R rm : Room} (h1 : rm.frames + 1 ≤ R.frames) (h2 : 8 + (2 + 11) + rm.locals ≤ R.locals) : db_cw R yX6_isLock cX6_isLock 2 (some .boolean) rm 1 := ⟨wd_216, wd_1, by decide +kernel, h1, h2⟩
theorem cw_X3_init {R rm : Room} (h1 : rm.frames + 1 ≤ R.frames) (h2 : 8 + (5 + 11) + rm.locals ≤ R.locals) : db_cw R yX3_init cX3_init 5 none rm 4 := ⟨wd_221, wd_10, by decide +kernel, h1, h2⟩
theorem cw_X4_insert {R rm : Room} (h1 : rm.frames + 1 ≤ R.frames) (h2 : 8 + (3 + 11) + rm.locals ≤ R.locals) : db_cw R yX4_insert cX4_insert 3 (some .boolean) rm 1 := ⟨wd_247, wd_6, by decide +kernel, h1, h2⟩
theorem cw_X4_clashes {R rm : Room} (h1 : rm.frames + 1 ≤ R.frames) (h2 : 8 + (3 + 11) + rm.locals ≤ R.locals) : db_cw R yX4_clashes cX4_clashes 3 (some .boolean) rm 1 := ⟨wd_251, wd_6, by decide +kernel, h1, h2⟩
theorem cw_X3_clashesWith {R rm : Room} (h1 : rm.frames + 1 ≤ R.frames) (h2 : 8 + (4 + 11) + rm.locals ≤ R.locals) : db_cw R yX3_clashesWith cX3_clashesWith 4 (some .boolean) rm 1 := ⟨wd_255, wd_10, by decide +kernel, h1, h2⟩
theorem cw_X3_covers {R rm : Room} (h1 : rm.frames + 1 ≤ R.frames) (h2 : 8 + (2 + 11) + rm.locals ≤ R.locals) : db_cw R yX3_covers cX3_covers 2 (some .boolean) rm 1 := ⟨wd_259, wd_10, by decide +kernel, h1, h2⟩
theorem cw_X3_goesBefore {R rm : Room} (h1 : rm.frames + 1 ≤ R.frames) (h2 : 8 + (2 + 11) + rm.locals ≤ R.locals) : db_cw R yX3_goesBefore cX3_goesBefore 2 (some .boolean) rm 1 := ⟨wd_263, wd_10, by decide +kernel, h1, h2⟩
theorem cw_X6_removeTask {R rm : Room} (h1 : rm.frames + 1 ≤ R.frames) (h2 : 8 + (2 + 11) + rm.locals ≤ R.locals) : db_cw R yX6_removeTask cX6_removeTask 2 (some .boolean) rm 1 := ⟨wd_267, wd_1, by decide +kernel, h1, h2⟩
theorem cw_X6_dropJob {R rm : Room} (h1 : rm.frames + 1 ≤ R.frames) (h2 : 8 + (3 + 11) + rm.locals ≤ R.locals) : db_cw R yX6_dropJob cX6_dropJob 3 none rm 1 := ⟨wd_271, wd_1, by decide +kernel, h1, h2⟩
theorem cw_X6_letGo {R rm : Room} (h1 : rm.frames + 1 ≤ R.frames) (h2 : 8 + (3 + 11) + rm.locals ≤ R.locals) : db_cw R yX6_letGo cX6_letGo 3 none rm 1 := ⟨wd_275, wd_1, by decide +kernel, h1, h2⟩
theorem cw_X6_inheritDeadlines {R rm : Room} (h1 : rm.frames + 1 ≤ R.frames) (h2 : 8 + (6 + 11) + rm.locals ≤ R.locals) : db_cw R yX6_inheritDeadlines cX6_inheritDeadlines 6 none rm 0 := ⟨wd_279, wd_1, by decide +kernel, h1, h2⟩
theorem cw_X6_holderAwaitedBy {R rm : Room} (h1 : rm.frames + 1 ≤ R.frames) (h2 : 8 + (3 + 11) + rm.locals ≤ R.locals) : db_cw R yX6_holderAwaitedBy cX6_holderAwaitedBy 3 (some .int) rm 1 := ⟨wd_283, wd_1, by decide +kernel, h1, h2⟩
theorem cw_X6_aheadOfAll {R rm : Room} (h1 : rm.frames + 1 ≤ R.frames) (h2 : 8 + (5 + 11) + rm.locals ≤ R.locals) : db_cw R yX6_aheadOfAll cX6_aheadOfAll 5 (some .int) rm 1 := ⟨wd_287, wd_1, by decide +kernel, h1, h2⟩
theorem cw_X4_removeAllOf {R rm : Room} (h1 : rm.frames + 1 ≤ R.frames) (h2 : 8 + (4 + 11) + rm.locals ≤ R.locals) : db_cw R yX4_removeAllOf cX4_removeAllOf 4 none rm 1 := ⟨wd_291, wd_6, by decide +kernel, h1, h2⟩
theorem cw_X6_admissible {R rm : Room} (h1 : rm.frames + 1 ≤ R.frames) (h2 : 8 + (4 + 11) + rm.locals ≤ R.locals) : db_cw R yX6_admissible cX6_admissible 4 (some .boolean) rm 0 := ⟨wd_295, wd_1, by decide +kernel, h1, h2⟩
theorem cw_X6_demandAt {R rm : Room} (h1 : rm.frames + 1 ≤ R.frames) (h2 : 8 + (10 + 11) + rm.locals ≤ R.locals) : db_cw R yX6_demandAt cX6_demandAt 10 (some .long) rm 1 := ⟨wd_299, wd_1, by decide +kernel, h1, h2⟩
theorem cw_X6_tick {R rm : Room} (h1 : rm.frames + 1 ≤ R.frames) (h2 : 8 + (1 + 11) + rm.locals ≤ R.locals) : db_cw R yX6_tick cX6_tick 1 (some .int) rm 0 := ⟨wd_303, wd_1, by decide +kernel, h1, h2⟩
theorem cw_X6_passTick {R rm : Room} (h1 : rm.frames + 1 ≤ R.frames) (h2 : 8 + (2 + 11) + rm.locals ≤ R.locals) : db_cw R yX6_passTick cX6_passTick 2 (some .int) rm 0 := ⟨wd_307, wd_1, by decide +kernel, h1, h2⟩
theorem cw_X6_dropLateJobs {R rm : Room} (h1 : rm.frames + 1 ≤ R.frames) (h2 : 8 + (2 + 11) + rm.locals ≤ R.locals) : db_cw R yX6_dropLateJobs cX6_dropLateJobs 2 none rm 0 := ⟨wd_311, wd_1, by decide +kernel, h1, h2⟩
theorem cw_X1_note {R rm : Room} (h1 : rm.frames + 1 ≤ R.frames) (h2 : 8 + (3 + 11) + rm.locals ≤ R.locals) : db_cw R yX1_note cX1_note 3 none rm 2 := ⟨wd_315, wd_7, by decide +kernel, h1, h2⟩
theorem cw_X6_releaseJobs {R rm : Room} (h1 : rm.frames + 1 ≤ R.frames) (h2 : 8 + (5 + 11) + rm.locals ≤ R.locals) : db_cw R yX6_releaseJobs cX6_releaseJobs 5 none rm 0 := ⟨wd_319, wd_1, by decide +kernel, h1, h2⟩
theorem cw_X5_releaseJob {R rm : Room} (h1 : rm.frames + 1 ≤ R.frames) (h2 : 8 + (1 + 11) + rm.locals ≤ R.locals) : db_cw R yX5_releaseJob cX5_releaseJob 1 none rm 0 := ⟨wd_323, wd_3, by decide +kernel, h1, h2⟩
theorem cw_X0_begin {R rm : Room} (h1 : rm.frames + 1 ≤ R.frames) (h2 : 8 + (3 + 11) + rm.locals ≤ R.locals) : db_cw R yX0_begin cX0_begin 3 none rm 2 := ⟨wd_327, wd_4, by decide +kernel, h1, h2⟩
theorem cw_X6_runOneJob {R rm : Room} (h1 : rm.frames + 1 ≤ R.frames) (h2 : 8 + (3 + 11) + rm.locals ≤ R.locals) : db_cw R yX6_runOneJob cX6_runOneJob 3 (some .int) rm 0 := ⟨wd_331, wd_1, by decide +kernel, h1, h2⟩
theorem cw_X6_takeLocks {R rm : Room} (h1 : rm.frames + 1 ≤ R.frames) (h2 : 8 + (5 + 11) + rm.locals ≤ R.locals) : db_cw R yX6_takeLocks cX6_takeLocks 5 (some .boolean) rm 1 := ⟨wd_335, wd_1, by decide +kernel, h1, h2⟩
theorem cw_X6_workOneUnit {R rm : Room} (h1 : rm.frames + 1 ≤ R.frames) (h2 : 8 + (5 + 11) + rm.locals ≤ R.locals) : db_cw R yX6_workOneUnit cX6_workOneUnit 5 none rm 1 := ⟨wd_339, wd_1, by decide +kernel, h1, h2⟩
theorem cw_X5_endJob {R rm : Room} (h1 : rm.frames + 1 ≤ R.frames) (h2 : 8 + (2 + 11) + rm.locals ≤ R.locals) : db_cw R yX5_endJob cX5_endJob 2 none rm 1 := ⟨wd_343, wd_3, by decide +kernel, h1, h2⟩
theorem cw_X6_countWaitsAndPutBys {R rm : Room} (h1 : rm.frames + 1 ≤ R.frames) (h2 : 8 + (5 + 11) + rm.locals ≤ R.locals) : db_cw R yX6_countWaitsAndPutBys cX6_countWaitsAndPutBys 5 none rm 1 := ⟨wd_348, wd_1, by decide +kernel, h1, h2⟩
theorem cw_X2_note {R rm : Room} (h1 : rm.frames + 1 ≤ R.frames) (h2 : 8 + (2 + 11) + rm.locals ≤ R.locals) : db_cw R yX2_note cX2_note 2 none rm 1 := ⟨wd_352, wd_8, by decide +kernel, h1, h2⟩
theorem cw_X6_run {R rm : Room} (h1 : rm.frames + 1 ≤ R.frames) (h2 : 8 + (4 + 11) + rm.locals ≤ R.locals) : db_cw R yX6_run cX6_run 4 (some .int) rm 1 := ⟨wd_356, wd_1, by decide +kernel, h1, h2⟩
theorem cw_X6_ran {R rm : Room} (h1 : rm.frames + 1 ≤ R.frames) (h2 : 8 + (2 + 11) + rm.locals ≤ R.locals) : db_cw R yX6_ran cX6_ran 2 (some .int) rm 1 := ⟨wd_360, wd_1, by decide +kernel, h1, h2⟩
theorem cw_X2_runnerBack {R rm : Room} (h1 : rm.frames + 1 ≤ R.frames) (h2 : 8 + (2 + 11) + rm.locals ≤ R.locals) : db_cw R yX2_runnerBack cX2_runnerBack 2 (some .int) rm 1 := ⟨wd_364, wd_8, by decide +kernel, h1, h2⟩
theorem cw_X6_remaining {R rm : Room} (h1 : rm.frames + 1 ≤ R.frames) (h2 : 8 + (2 + 11) + rm.locals ≤ R.locals) : db_cw R yX6_remaining cX6_remaining 2 (some .int) rm 1 := ⟨wd_368, wd_1, by decide +kernel, h1, h2⟩
theorem cw_X6_hasJob {R rm : Room} (h1 : rm.frames + 1 ≤ R.frames) (h2 : 8 + (2 + 11) + rm.locals ≤ R.locals) : db_cw R yX6_hasJob cX6_hasJob 2 (some .boolean) rm 1 := ⟨wd_372, wd_1, by decide +kernel, h1, h2⟩
theorem cw_X6_deadlineOf {R rm : Room} (h1 : rm.frames + 1 ≤ R.frames) (h2 : 8 + (2 + 11) + rm.locals ≤ R.locals) : db_cw R yX6_deadlineOf cX6_deadlineOf 2 (some .int) rm 1 := ⟨wd_376, wd_1, by decide +kernel, h1, h2⟩
theorem cw_X6_effective {R rm : Room} (h1 : rm.frames + 1 ≤ R.frames) (h2 : 8 + (2 + 11) + rm.locals ≤ R.locals) : db_cw R yX6_effective cX6_effective 2 (some .int) rm 1 := ⟨wd_380, wd_1, by decide +kernel, h1, h2⟩
theorem cw_X6_waitsFor {R rm : Room} (h1 : rm.frames + 1 ≤ R.frames) (h2 : 8 + (2 + 11) + rm.locals ≤ R.locals) : db_cw R yX6_waitsFor cX6_waitsFor 2 (some .int) rm 1 := ⟨wd_384, wd_1, by decide +kernel, h1, h2⟩
theorem cw_X6_owner {R rm : Room} (h1 : rm.frames + 1 ≤ R.frames) (h2 : 8 + (2 + 11) + rm.locals ≤ R.locals) : db_cw R yX6_owner cX6_owner 2 (some .int) rm 1 := ⟨wd_388, wd_1, by decide +kernel, h1, h2⟩
theorem cw_X6_waiters {R rm : Room} (h1 : rm.frames + 1 ≤ R.frames) (h2 : 8 + (7 + 11) + rm.locals ≤ R.locals) : db_cw R yX6_waiters cX6_waiters 7 (some .int) rm 1 := ⟨wd_392, wd_1, by decide +kernel, h1, h2⟩
theorem cw_X6_missCount {R rm : Room} (h1 : rm.frames + 1 ≤ R.frames) (h2 : 8 + (1 + 11) + rm.locals ≤ R.locals) : db_cw R yX6_missCount cX6_missCount 1 (some .int) rm 0 := ⟨wd_396, wd_1, by decide +kernel, h1, h2⟩
theorem cw_X6_miss {R rm : Room} (h1 : rm.frames + 1 ≤ R.frames) (h2 : 8 + (3 + 11) + rm.locals ≤ R.locals) : db_cw R yX6_miss cX6_miss 3 (some .int) rm 2 := ⟨wd_400, wd_1, by decide +kernel, h1, h2⟩
theorem cw_X1_keeps {R rm : Room} (h1 : rm.frames + 1 ≤ R.frames) (h2 : 8 + (2 + 11) + rm.locals ≤ R.locals) : db_cw R yX1_keeps cX1_keeps 2 (some .boolean) rm 1 := ⟨wd_404, wd_7, by decide +kernel, h1, h2⟩
theorem cw_X6_task {R rm : Room} (h1 : rm.frames + 1 ≤ R.frames) (h2 : 8 + (4 + 11) + rm.locals ≤ R.locals) : db_cw R yX6_task cX6_task 4 (some .int) rm 2 := ⟨wd_408, wd_1, by decide +kernel, h1, h2⟩
theorem cw_X4_sizeOf {R rm : Room} (h1 : rm.frames + 1 ≤ R.frames) (h2 : 8 + (4 + 11) + rm.locals ≤ R.locals) : db_cw R yX4_sizeOf cX4_sizeOf 4 (some .int) rm 1 := ⟨wd_412, wd_6, by decide +kernel, h1, h2⟩
theorem cw_X6_count {R rm : Room} (h1 : rm.frames + 1 ≤ R.frames) (h2 : 8 + (2 + 11) + rm.locals ≤ R.locals) : db_cw R yX6_count cX6_count 2 (some .int) rm 1 := ⟨wd_416, wd_1, by decide +kernel, h1, h2⟩
theorem cw_X6_liveTasks {R rm : Room} (h1 : rm.frames + 1 ≤ R.frames) (h2 : 8 + (6 + 11) + rm.locals ≤ R.locals) : db_cw R yX6_liveTasks cX6_liveTasks 6 (some .int) rm 0 := ⟨wd_420, wd_1, by decide +kernel, h1, h2⟩
theorem cw_X6_pendingJobs {R rm : Room} (h1 : rm.frames + 1 ≤ R.frames) (h2 : 8 + (6 + 11) + rm.locals ≤ R.locals) : db_cw R yX6_pendingJobs cX6_pendingJobs 6 (some .int) rm 0 := ⟨wd_424, wd_1, by decide +kernel, h1, h2⟩
theorem cw_X6_heldLocks {R rm : Room} (h1 : rm.frames + 1 ≤ R.frames) (h2 : 8 + (6 + 11) + rm.locals ≤ R.locals) : db_cw R yX6_heldLocks cX6_heldLocks 6 (some .int) rm 0 := ⟨wd_428, wd_1, by decide +kernel, h1, h2⟩
theorem cw_L_cell {R rm : Room} (h1 : rm.frames + 1 ≤ R.frames) (h2 : 8 + (2 + 11) + rm.locals ≤ R.locals) : db_cw R yL_cell cL_cell 2 (some .int) rm 2 := ⟨wd_431, wd_0, by decide +kernel, h1, h2⟩
theorem cw_X7_init {R rm : Room} (h1 : rm.frames + 1 ≤ R.frames) (h2 : 8 + (7 + 11) + rm.locals ≤ R.locals) : db_cw R yX7_init cX7_init 7 none rm 5 := ⟨wd_436, wd_9, by decide +kernel, h1, h2⟩
theorem cw_X7_within {R rm : Room} (h1 : rm.frames + 1 ≤ R.frames) (h2 : 8 + (3 + 11) + rm.locals ≤ R.locals) : db_cw R yX7_within cX7_within 3 (some .int) rm 3 := ⟨wd_440, wd_9, by decide +kernel, h1, h2⟩
theorem cw_X7_addTask {R rm : Room} (h1 : rm.frames + 1 ≤ R.frames) (h2 : 8 + (5 + 11) + rm.locals ≤ R.locals) : db_cw R yX7_addTask cX7_addTask 5 (some .int) rm 3 := ⟨wd_554, wd_9, by decide +kernel, h1, h2⟩
theorem cw_X7_addSection {R rm : Room} (h1 : rm.frames + 1 ≤ R.frames) (h2 : 8 + (6 + 11) + rm.locals ≤ R.locals) : db_cw R yX7_addSection cX7_addSection 6 (some .boolean) rm 4 := ⟨wd_558, wd_9, by decide +kernel, h1, h2⟩
theorem cw_X7_isLive {R rm : Room} (h1 : rm.frames + 1 ≤ R.frames) (h2 : 8 + (2 + 11) + rm.locals ≤ R.locals) : db_cw R yX7_isLive cX7_isLive 2 (some .boolean) rm 1 := ⟨wd_562, wd_9, by decide +kernel, h1, h2⟩
theorem cw_X7_isLock {R rm : Room} (h1 : rm.frames + 1 ≤ R.frames) (h2 : 8 + (2 + 11) + rm.locals ≤ R.locals) : db_cw R yX7_isLock cX7_isLock 2 (some .boolean) rm 1 := ⟨wd_566, wd_9, by decide +kernel, h1, h2⟩
theorem cw_X7_mayStand {R rm : Room} (h1 : rm.frames + 1 ≤ R.frames) (h2 : 8 + (8 + 11) + rm.locals ≤ R.locals) : db_cw R yX7_mayStand cX7_mayStand 8 (some .boolean) rm 4 := ⟨wd_570, wd_9, by decide +kernel, h1, h2⟩
theorem cw_X7_removeTask {R rm : Room} (h1 : rm.frames + 1 ≤ R.frames) (h2 : 8 + (4 + 11) + rm.locals ≤ R.locals) : db_cw R yX7_removeTask cX7_removeTask 4 (some .boolean) rm 1 := ⟨wd_574, wd_9, by decide +kernel, h1, h2⟩
theorem cw_X7_drops {R rm : Room} (h1 : rm.frames + 1 ≤ R.frames) (h2 : 8 + (3 + 11) + rm.locals ≤ R.locals) : db_cw R yX7_drops cX7_drops 3 none rm 1 := ⟨wd_578, wd_9, by decide +kernel, h1, h2⟩
theorem cw_X7_letsGo {R rm : Room} (h1 : rm.frames + 1 ≤ R.frames) (h2 : 8 + (3 + 11) + rm.locals ≤ R.locals) : db_cw R yX7_letsGo cX7_letsGo 3 none rm 1 := ⟨wd_582, wd_9, by decide +kernel, h1, h2⟩
theorem cw_X7_ahead {R rm : Room} (h1 : rm.frames + 1 ≤ R.frames) (h2 : 8 + (4 + 11) + rm.locals ≤ R.locals) : db_cw R yX7_ahead cX7_ahead 4 (some .int) rm 1 := ⟨wd_586, wd_9, by decide +kernel, h1, h2⟩
theorem cw_X7_reckons {R rm : Room} (h1 : rm.frames + 1 ≤ R.frames) (h2 : 8 + (4 + 11) + rm.locals ≤ R.locals) : db_cw R yX7_reckons cX7_reckons 4 none rm 0 := ⟨wd_590, wd_9, by decide +kernel, h1, h2⟩
theorem cw_X7_isPending {R rm : Room} (h1 : rm.frames + 1 ≤ R.frames) (h2 : 8 + (2 + 11) + rm.locals ≤ R.locals) : db_cw R yX7_isPending cX7_isPending 2 (some .boolean) rm 1 := ⟨wd_594, wd_9, by decide +kernel, h1, h2⟩
theorem cw_X7_admissible {R rm : Room} (h1 : rm.frames + 1 ≤ R.frames) (h2 : 8 + (6 + 11) + rm.locals ≤ R.locals) : db_cw R yX7_admissible cX7_admissible 6 (some .boolean) rm 0 := ⟨wd_598, wd_9, by decide +kernel, h1, h2⟩
theorem cw_X7_tick {R rm : Room} (h1 : rm.frames + 1 ≤ R.frames) (h2 : 8 + (1 + 11) + rm.locals ≤ R.locals) : db_cw R yX7_tick cX7_tick 1 (some .int) rm 0 := ⟨wd_602, wd_9, by decide +kernel, h1, h2⟩
theorem cw_X7_turns {R rm : Room} (h1 : rm.frames + 1 ≤ R.frames) (h2 : 8 + (3 + 11) + rm.locals ≤ R.locals) : db_cw R yX7_turns cX7_turns 3 (some .boolean) rm 0 := ⟨wd_606, wd_9, by decide +kernel, h1, h2⟩
theorem cw_X7_misses {R rm : Room} (h1 : rm.frames + 1 ≤ R.frames) (h2 : 8 + (3 + 11) + rm.locals ≤ R.locals) : db_cw R yX7_misses cX7_misses 3 (some .boolean) rm 0 := ⟨wd_610, wd_9, by decide +kernel, h1, h2⟩
theorem cw_X7_releases {R rm : Room} (h1 : rm.frames + 1 ≤ R.frames) (h2 : 8 + (2 + 11) + rm.locals ≤ R.locals) : db_cw R yX7_releases cX7_releases 2 none rm 0 := ⟨wd_614, wd_9, by decide +kernel, h1, h2⟩
theorem cw_X7_taken {R rm : Room} (h1 : rm.frames + 1 ≤ R.frames) (h2 : 8 + (3 + 11) + rm.locals ≤ R.locals) : db_cw R yX7_taken cX7_taken 3 (some .int) rm 0 := ⟨wd_618, wd_9, by decide +kernel, h1, h2⟩
theorem cw_X7_wanted {R rm : Room} (h1 : rm.frames + 1 ≤ R.frames) (h2 : 8 + (4 + 11) + rm.locals ≤ R.locals) : db_cw R yX7_wanted cX7_wanted 4 (some .int) rm 1 := ⟨wd_622, wd_9, by decide +kernel, h1, h2⟩
theorem cw_X7_works {R rm : Room} (h1 : rm.frames + 1 ≤ R.frames) (h2 : 8 + (4 + 11) + rm.locals ≤ R.locals) : db_cw R yX7_works cX7_works 4 none rm 1 := ⟨wd_626, wd_9, by decide +kernel, h1, h2⟩
theorem cw_X7_ending {R rm : Room} (h1 : rm.frames + 1 ≤ R.frames) (h2 : 8 + (4 + 11) + rm.locals ≤ R.locals) : db_cw R yX7_ending cX7_ending 4 (some .int) rm 1 := ⟨wd_630, wd_9, by decide +kernel, h1, h2⟩
theorem cw_X7_counts {R rm : Room} (h1 : rm.frames + 1 ≤ R.frames) (h2 : 8 + (4 + 11) + rm.locals ≤ R.locals) : db_cw R yX7_counts cX7_counts 4 none rm 1 := ⟨wd_634, wd_9, by decide +kernel, h1, h2⟩
theorem cw_X7_run {R rm : Room} (h1 : rm.frames + 1 ≤ R.frames) (h2 : 8 + (4 + 11) + rm.locals ≤ R.locals) : db_cw R yX7_run cX7_run 4 (some .int) rm 1 := ⟨wd_638, wd_9, by decide +kernel, h1, h2⟩
theorem cw_X7_ran {R rm : Room} (h1 : rm.frames + 1 ≤ R.frames) (h2 : 8 + (2 + 11) + rm.locals ≤ R.locals) : db_cw R yX7_ran cX7_ran 2 (some .int) rm 1 := ⟨wd_642, wd_9, by decide +kernel, h1, h2⟩
theorem cw_X7_remaining {R rm : Room} (h1 : rm.frames + 1 ≤ R.frames) (h2 : 8 + (2 + 11) + rm.locals ≤ R.locals) : db_cw R yX7_remaining cX7_remaining 2 (some .int) rm 1 := ⟨wd_646, wd_9, by decide +kernel, h1, h2⟩
theorem cw_X7_deadlineOf {R rm : Room} (h1 : rm.frames + 1 ≤ R.frames) (h2 : 8 + (2 + 11) + rm.locals ≤ R.locals) : db_cw R yX7_deadlineOf cX7_deadlineOf 2 (some .int) rm 1 := ⟨wd_650, wd_9, by decide +kernel, h1, h2⟩
theorem cw_X7_effective {R rm : Room} (h1 : rm.frames + 1 ≤ R.frames) (h2 : 8 + (2 + 11) + rm.locals ≤ R.locals) : db_cw R yX7_effective cX7_effective 2 (some .int) rm 1 := ⟨wd_654, wd_9, by decide +kernel, h1, h2⟩
theorem cw_X7_waitsFor {R rm : Room} (h1 : rm.frames + 1 ≤ R.frames) (h2 : 8 + (2 + 11) + rm.locals ≤ R.locals) : db_cw R yX7_waitsFor cX7_waitsFor 2 (some .int) rm 1 := ⟨wd_658, wd_9, by decide +kernel, h1, h2⟩
theorem cw_X7_owner {R rm : Room} (h1 : rm.frames + 1 ≤ R.frames) (h2 : 8 + (2 + 11) + rm.locals ≤ R.locals) : db_cw R yX7_owner cX7_owner 2 (some .int) rm 1 := ⟨wd_662, wd_9, by decide +kernel, h1, h2⟩
theorem cw_X7_waiters {R rm : Room} (h1 : rm.frames + 1 ≤ R.frames) (h2 : 8 + (4 + 11) + rm.locals ≤ R.locals) : db_cw R yX7_waiters cX7_waiters 4 (some .int) rm 1 := ⟨wd_666, wd_9, by decide +kernel, h1, h2⟩
theorem cw_X7_missCount {R rm : Room} (h1 : rm.frames + 1 ≤ R.frames) (h2 : 8 + (1 + 11) + rm.locals ≤ R.locals) : db_cw R yX7_missCount cX7_missCount 1 (some .int) rm 0 := ⟨wd_670, wd_9, by decide +kernel, h1, h2⟩
theorem cw_X7_miss {R rm : Room} (h1 : rm.frames + 1 ≤ R.frames) (h2 : 8 + (3 + 11) + rm.locals ≤ R.locals) : db_cw R yX7_miss cX7_miss 3 (some .int) rm 2 := ⟨wd_674, wd_9, by decide +kernel, h1, h2⟩
theorem cw_X7_task {R rm : Room} (h1 : rm.frames + 1 ≤ R.frames) (h2 : 8 + (3 + 11) + rm.locals ≤ R.locals) : db_cw R yX7_task cX7_task 3 (some .int) rm 2 := ⟨wd_678, wd_9, by decide +kernel, h1, h2⟩
theorem cw_X7_sectionsOf {R rm : Room} (h1 : rm.frames + 1 ≤ R.frames) (h2 : 8 + (4 + 11) + rm.locals ≤ R.locals) : db_cw R yX7_sectionsOf cX7_sectionsOf 4 (some .int) rm 1 := ⟨wd_682, wd_9, by decide +kernel, h1, h2⟩
theorem cw_X7_count {R rm : Room} (h1 : rm.frames + 1 ≤ R.frames) (h2 : 8 + (4 + 11) + rm.locals ≤ R.locals) : db_cw R yX7_count cX7_count 4 (some .int) rm 1 := ⟨wd_686, wd_9, by decide +kernel, h1, h2⟩
end
section
/-! what the class's small methods answer, in numbers -/
def db_cnt (f : Nat → Bool) : Nat → Int32
  | 0 => 0
  | n + 1 => if f n = true then db_cnt f n + 1 else db_cnt f n
def bb_isLive (N : Nat → Nat) (X : db_X) (t : Int32) : Int32 := if t < 0 then 0 else if nI (N 0) ≤ t then 0 else if X 1 t.toNatClampNeg 1 = 0 then 0 else 1
def bb_hasJob (N : Nat → Nat) (X : db_X) (t : Int32) : Int32 := if bb_isLive N X t = 0 then 0 else if X 2 t.toNatClampNeg 0 = 0 then 0 else 1
def bb_isLock (N : Nat → Nat) (k : Int32) : Int32 := if k < 0 then 0 else if nI (N 1) ≤ k then 0 else 1
theorem db_01 {c : Prop} [Decidable c] {x y : Int32} (hx : x = 0 ∨ x = 1) (hy : y = 0 ∨ y = 1) : (if c then x else y) = 0 ∨ (if c then x else y) = 1 := by
  split
  · exact hx
  · exact hy
theorem bb_isLive01 {N : Nat → Nat} {X : db_X} {t : Int32} : bb_isLive N X t = 0 ∨ bb_isLive N X t = 1 := by
  exact db_01 (Or.inl rfl) (db_01 (Or.inl rfl) (db_01 (Or.inl rfl) (Or.inr rfl)))
theorem bb_hasJob01 {N : Nat → Nat} {X : db_X} {t : Int32} : bb_hasJob N X t = 0 ∨ bb_hasJob N X t = 1 := by
  exact db_01 (Or.inl rfl) (db_01 (Or.inl rfl) (Or.inr rfl))
theorem bb_isLock01 {N : Nat → Nat} {t : Int32} : bb_isLock N t = 0 ∨ bb_isLock N t = 1 := by
  exact db_01 (Or.inl rfl) (db_01 (Or.inl rfl) (Or.inr rfl))
theorem bb_isLive_ix {N : Nat → Nat} {X : db_X} {t : Int32} (hn : N 0 < 2 ^ 31) (h : ¬ bb_isLive N X t = 0) : ∃ j : Nat, j < N 0 ∧ t = nI j := by
  unfold bb_isLive at h
  refine db_ix hn (fun q => h ?_) (fun q => h ?_)
  · simp [q]
  · simp [q]
theorem bb_hasJob_ix {N : Nat → Nat} {X : db_X} {t : Int32} (hn : N 0 < 2 ^ 31) (h : ¬ bb_hasJob N X t = 0) : ∃ j : Nat, j < N 0 ∧ t = nI j := by
  refine bb_isLive_ix (X := X) hn (fun q => h ?_)
  simp [bb_hasJob, q]
theorem bb_isLock_ix {N : Nat → Nat} {t : Int32} (hn : N 1 < 2 ^ 31) (h : ¬ bb_isLock N t = 0) : ∃ j : Nat, j < N 1 ∧ t = nI j := by
  unfold bb_isLock at h
  refine db_ix hn (fun q => h ?_) (fun q => h ?_)
  · simp [q]
  · simp [q]
def bb_remaining (N : Nat → Nat) (X : db_X) (t : Int32) : Int32 := if bb_hasJob N X t = 0 then 0 else X 1 t.toNatClampNeg 3 - X 2 t.toNatClampNeg 3
def bb_deadlineOf (N : Nat → Nat) (X : db_X) (t : Int32) : Int32 := if bb_hasJob N X t = 0 then -1 else X 2 t.toNatClampNeg 2
def bb_waitsFor (N : Nat → Nat) (X : db_X) (t : Int32) : Int32 := if bb_hasJob N X t = 0 then -1 else X 2 t.toNatClampNeg 4
def bb_owner (N : Nat → Nat) (X : db_X) (t : Int32) : Int32 := if bb_isLock N t = 0 then -1 else X 3 0 t.toNatClampNeg
def bb_waiters (N : Nat → Nat) (X : db_X) (t : Int32) : Int32 := if bb_isLock N t = 0 then 0 else db_cnt (fun j => decide (¬ X 2 j 0 = 0 ∧ X 2 j 4 = t)) (N 0)
def bb_liveTasks (N : Nat → Nat) (X : db_X) : Int32 := db_cnt (fun j => decide (¬ X 1 j 1 = 0)) (N 0)
def bb_pendingJobs (N : Nat → Nat) (X : db_X) : Int32 := db_cnt (fun j => decide (¬ X 2 j 0 = 0)) (N 0)
def bb_heldLocks (N : Nat → Nat) (X : db_X) : Int32 := db_cnt (fun j => decide (¬ X 3 0 j = -1)) (N 1)
/-- who holds the lock that number waits for -/
def bb_hab (X : db_X) (i : Nat) : Int32 := if X 2 i 4 = -1 then -1 else X 3 0 (X 2 i 4).toNatClampNeg
/-- a job waits for a lock or for none; a lock is held by a task or by none -/
def bb_W (N : Nat → Nat) (X : db_X) : Prop := ∀ i, i < N 0 → X 2 i 4 = -1 ∨ ∃ w : Nat, w < N 1 ∧ X 2 i 4 = nI w
def bb_O (N : Nat → Nat) (X : db_X) : Prop := ∀ k, k < N 1 → X 3 0 k = -1 ∨ ∃ i : Nat, i < N 0 ∧ X 3 0 k = nI i
theorem nI_ne1 {j : Nat} (h : j < 2 ^ 31) : ¬ nI j = -1 := by
  intro q
  have h2 := nI_toInt h
  rw [q] at h2
  have : (-1 : Int32).toInt = -1 := by decide
  omega
theorem bb_hab_cases {N : Nat → Nat} {X : db_X} (hN : bb_N N) (hW : bb_W N X) (hO : bb_O N X) {i : Nat} (hi : i < N 0) : bb_hab X i = -1 ∨ ∃ j : Nat, j < N 0 ∧ bb_hab X i = nI j := by
  unfold bb_hab
  rcases hW i hi with h | ⟨w, hw, h⟩
  · simp [h]
  · have h1 : (nI w).toNatClampNeg = w := nI_clamp (by have := hN.2.2.1; omega)
    have h2 : ¬ nI w = -1 := nI_ne1 (by have := hN.2.2.1; omega)
    rw [h, if_neg h2, h1]
    exact hO w hw
end
section
/-! what the class does to its numbers -/
def db_in (x : Int32) (n : Nat) : Prop := ∃ j : Nat, j < n ∧ x = nI j
theorem db_in.eq {x : Int32} {n : Nat} (h : db_in x n) (hn : n < 2 ^ 31) : x = nI x.toNatClampNeg := by
  obtain ⟨j, hj, rfl⟩ := h
  rw [db_nIc hj hn]
theorem db_in.lt {x : Int32} {n : Nat} (h : db_in x n) (hn : n < 2 ^ 31) : x.toNatClampNeg < n := by
  obtain ⟨j, hj, rfl⟩ := h
  rw [db_nIc hj hn]; exact hj
theorem db_in.ne1 {x : Int32} {n : Nat} (h : db_in x n) (hn : n < 2 ^ 31) : ¬ x = -1 := by
  obtain ⟨j, hj, rfl⟩ := h
  exact nI_ne1 (by omega)
theorem db_in.nI {j n : Nat} (h : j < n) : db_in (nI j) n := ⟨j, h, rfl⟩
def bb_begin (X : db_X) (i : Nat) (r d : Int32) : db_X := db_up (db_up (db_up (db_up (db_up (db_up X 2 i 0 1) 2 i 1 r) 2 i 2 d) 2 i 3 0) 2 i 4 (-1)) 2 i 6 0
def bb_enter (X : db_X) (i : Nat) (p w d n : Int32) : db_X := db_up (db_up (db_up (db_up (db_up (db_up (db_up (db_up (db_up (db_up (db_up X 1 i 1 1) 1 i 2 p) 1 i 3 w) 1 i 4 d) 1 i 5 n) 1 i 6 0) 1 i 7 0) 1 i 8 0) 1 i 9 0) 1 i 10 0) 1 i 11 0
def bb_rel2 (X : db_X) (i : Nat) : db_X := db_up X 1 i 6 (X 1 i 6 + 1)
def bb_rel3 (X : db_X) (i : Nat) : db_X := db_up X 1 i 5 (X 1 i 5 + X 1 i 2)
def bb_rel (X : db_X) (i : Nat) : db_X := bb_rel3 (bb_rel2 (bb_begin X i (X 1 i 5) (X 1 i 5 + X 1 i 4)) i) i
def bb_end2 (X : db_X) (i : Nat) : db_X := db_up X 1 i 7 (X 1 i 7 + 1)
def bb_end3 (X : db_X) (i : Nat) (t : Int32) : db_X := db_up X 1 i 11 (if X 1 i 11 < t - X 2 i 1 then t - X 2 i 1 else X 1 i 11)
def bb_endJ (X : db_X) (i : Nat) (t : Int32) : db_X := bb_end3 (bb_end2 (db_up X 2 i 0 0) i) i t
def bb_note2 (X : db_X) (t : Int32) : db_X := db_up X 8 0 (X 6 0 2).toNatClampNeg t
def bb_note3 (X : db_X) : db_X := db_up X 6 0 2 (X 6 0 2 + 1)
def bb_note (N : Nat → Nat) (X : db_X) (n t : Int32) : db_X := if nI (N 3) ≤ X 6 0 2 then bb_note3 X else bb_note3 (bb_note2 (db_up X 7 0 (X 6 0 2).toNatClampNeg n) t)
def bb_keeps (N : Nat → Nat) (X : db_X) (i : Int32) : Int32 := if i < 0 then 0 else if X 6 0 2 ≤ i then 0 else if nI (N 3) ≤ i then 0 else 1
def bb_hn2 (X : db_X) : db_X := db_up X 9 0 1 (X 9 0 1 + 1)
def bb_hn (X : db_X) (th : Nat) (r : Int32) : db_X := bb_hn2 (db_up X 10 0 (th % 100) r)
def bb_back (X : db_X) (th : Nat) (k : Int32) : Int32 := if k < 0 then -2 else if 100 ≤ k then -2 else if k < X 9 0 1 then X 10 0 ((th - 1 - k.toNatClampNeg) % 100) else -2
def bb_in1 (X : db_X) : Nat → db_X
  | 0 => X
  | n + 1 => db_up (bb_in1 X n) 2 n 5 (bb_in1 X n 2 n 2)
def bb_ch1 (due : Int32) (X : db_X) (h : Nat) : db_X := db_up X 2 h 5 (if due < X 2 h 5 then due else X 2 h 5)
/-- up the chain of holders, at most so many steps -/
def bb_ch (due : Int32) : Nat → Int32 → db_X → db_X
  | 0, _, X => X
  | k + 1, h, X => if h = -1 then X else bb_ch due k (bb_hab (bb_ch1 due X h.toNatClampNeg) h.toNatClampNeg) (bb_ch1 due X h.toNatClampNeg)
def bb_in2 (N : Nat → Nat) (X : db_X) : Nat → db_X
  | 0 => X
  | i + 1 => bb_ch (bb_in2 N X i 2 i 2) (N 0) (bb_hab (bb_in2 N X i) i) (bb_in2 N X i)
def bb_inh (N : Nat → Nat) (X : db_X) : db_X := bb_in2 N (bb_in1 X (N 0)) (N 0)
/-- the first of those with the least -/
def db_ah (sel : Nat → Bool) (ef : Nat → Int32) : Nat → Int32
  | 0 => -1
  | n + 1 => if sel n = true then (if db_ah sel ef n = -1 then nI n else if ef n < ef (db_ah sel ef n).toNatClampNeg then nI n else db_ah sel ef n) else db_ah sel ef n
theorem db_ah_in {sel : Nat → Bool} {ef : Nat → Int32} : ∀ n : Nat, db_ah sel ef n = -1 ∨ ∃ j : Nat, j < n ∧ db_ah sel ef n = nI j ∧ sel j = true
  | 0 => Or.inl rfl
  | n + 1 => by
    have h := db_ah_in (sel := sel) (ef := ef) n
    have up : (db_ah sel ef n = -1 ∨ ∃ j : Nat, j < n ∧ db_ah sel ef n = nI j ∧ sel j = true) → (db_ah sel ef n = -1 ∨ ∃ j : Nat, j < n + 1 ∧ db_ah sel ef n = nI j ∧ sel j = true) := by
      rintro (h | ⟨j, h1, h2⟩)
      · exact Or.inl h
      · exact Or.inr ⟨j, by omega, h2⟩
    unfold db_ah
    split
    · rename_i hs
      split
      · exact Or.inr ⟨n, by omega, rfl, hs⟩
      · split
        · exact Or.inr ⟨n, by omega, rfl, hs⟩
        · exact up h
    · exact up h
def bb_ahead (N : Nat → Nat) (X : db_X) (a : Int32) : Int32 := db_ah (fun j => decide (¬ X 2 j 0 = 0 ∧ X 2 j 4 = a)) (fun j => X 2 j 5) (N 0)
theorem bb_ahead_in {N : Nat → Nat} {X : db_X} {a : Int32} (h : ¬ bb_ahead N X a = -1) : db_in (bb_ahead N X a) (N 0) := by
  rcases db_ah_in (sel := fun j => decide (¬ X 2 j 0 = 0 ∧ X 2 j 4 = a)) (ef := fun j => X 2 j 5) (N 0) with q | ⟨j, q1, q2, -⟩
  · exact absurd q h
  · exact ⟨j, q1, q2⟩
def bb_lg3 (X : db_X) (k : Nat) (a : Int32) : db_X := db_up (db_up X 3 0 k a) 2 a.toNatClampNeg 4 (-1)
def bb_lg2 (N : Nat → Nat) (X : db_X) (k : Nat) : db_X := if bb_ahead N X (nI k) = -1 then X else bb_lg3 X k (bb_ahead N X (nI k))
def bb_letGo (N : Nat → Nat) (X : db_X) (k : Nat) : db_X := bb_lg2 N (bb_inh N (db_up X 3 0 k (-1))) k
def bb_dropL (N : Nat → Nat) (X : db_X) (i : Nat) : Nat → db_X
  | 0 => X
  | k + 1 => if bb_dropL N X i k 3 0 k = nI i then bb_letGo N (bb_dropL N X i k) k else bb_dropL N X i k
def bb_drop (N : Nat → Nat) (X : db_X) (i : Nat) : db_X := bb_dropL N (db_up (db_up X 2 i 0 0) 2 i 4 (-1)) i (N 1)
def bb_late2 (X : db_X) (i : Nat) : db_X := db_up X 1 i 8 (X 1 i 8 + 1)
def bb_late1 (N : Nat → Nat) (X : db_X) (i : Nat) : db_X := if X 2 i 0 = 0 then X else if X 2 i 2 = X 0 0 6 then bb_drop N (bb_late2 (bb_note N X (nI i) (X 0 0 6)) i) i else X
def bb_late (N : Nat → Nat) (X : db_X) : Nat → db_X
  | 0 => X
  | i + 1 => bb_late1 N (bb_late N X i) i
def bb_rels1 (X : db_X) (i : Nat) : db_X := if X 1 i 1 = 0 then X else if X 1 i 5 = X 0 0 6 then bb_rel X i else X
def bb_rels (X : db_X) : Nat → db_X
  | 0 => X
  | i + 1 => bb_rels1 (bb_rels X i) i
/-- field f of the section at place p -/
def bb_sec (X : db_X) (p f : Nat) : Int32 := X 12 (X 5 0 p).toNatClampNeg f
def bb_takeF (i : Nat) : Nat → Nat → db_X → Int32 × db_X
  | 0, _, X => (1, X)
  | q + 1, p, X => if ¬ bb_sec X p 0 = nI i then bb_takeF i q (p + 1) X else if ¬ bb_sec X p 1 = X 2 i 3 then bb_takeF i q (p + 1) X
    else if X 3 0 (bb_sec X p 2).toNatClampNeg = -1 then bb_takeF i q (p + 1) (db_up X 3 0 (bb_sec X p 2).toNatClampNeg (nI i))
    else if X 3 0 (bb_sec X p 2).toNatClampNeg = nI i then bb_takeF i q (p + 1) X else (0, db_up X 2 i 4 (bb_sec X p 2))
def bb_take (X : db_X) (sz i : Nat) : Int32 × db_X := bb_takeF i sz 0 X
def bb_workL (N : Nat → Nat) (i : Nat) : Nat → db_X → db_X
  | 0, X => X
  | p + 1, X => if ¬ bb_sec X p 0 = nI i then bb_workL N i p X else if ¬ bb_sec X p 4 = X 2 i 3 then bb_workL N i p X else bb_workL N i p (bb_letGo N X (bb_sec X p 2).toNatClampNeg)
def bb_work2 (X : db_X) (i : Nat) : db_X := if X 2 i 3 = X 1 i 3 then bb_endJ X i (X 0 0 6 + 1) else X
def bb_work (N : Nat → Nat) (X : db_X) (sz i : Nat) : db_X := bb_work2 (bb_workL N i sz (db_up X 2 i 3 (X 2 i 3 + 1))) i
def bb_cw1 (r : Int32) (X : db_X) (i : Nat) : db_X := if ¬ X 2 i 0 = 0 ∧ ¬ X 2 i 4 = -1 then db_up X 1 i 9 (X 1 i 9 + 1) else if ¬ X 2 i 0 = 0 ∧ ¬ X 2 i 6 = 0 ∧ ¬ nI i = r ∧ ¬ r = -1 then db_up X 1 i 10 (X 1 i 10 + 1) else X
def bb_cw2 (r : Int32) (X : db_X) (i : Nat) : db_X := db_up (bb_cw1 r X i) 2 i 6 (if nI i = r then 1 else 0)
def bb_cw (r : Int32) (X : db_X) : Nat → db_X
  | 0 => X
  | i + 1 => bb_cw2 r (bb_cw r X i) i
def bb_runF (N : Nat → Nat) (sz : Nat) : Nat → db_X → Int32 × db_X
  | 0, X => (-1, X)
  | q + 1, X => if bb_ahead N (bb_inh N X) (-1) = -1 then (-1, bb_inh N X) else
    if (bb_take (bb_inh N X) sz (bb_ahead N (bb_inh N X) (-1)).toNatClampNeg).1 = 0 then bb_runF N sz q (bb_take (bb_inh N X) sz (bb_ahead N (bb_inh N X) (-1)).toNatClampNeg).2
    else (bb_ahead N (bb_inh N X) (-1), bb_work N (bb_take (bb_inh N X) sz (bb_ahead N (bb_inh N X) (-1)).toNatClampNeg).2 sz (bb_ahead N (bb_inh N X) (-1)).toNatClampNeg)
def bb_run1 (N : Nat → Nat) (X : db_X) (sz : Nat) : Int32 × db_X := bb_runF N sz (N 0) X
def bb_idle (X : db_X) : db_X := db_up X 0 0 7 (X 0 0 7 + 1)
def bb_now (X : db_X) : db_X := db_up X 0 0 6 (X 0 0 6 + 1)
def bb_pt3 (X : db_X) (r : Int32) : db_X := bb_now (if r = -1 then bb_idle X else X)
def bb_pt2 (N : Nat → Nat) (X : db_X) (th : Nat) (r : Int32) : db_X := bb_pt3 (bb_hn (bb_cw r X (N 0)) th r) r
def bb_pt1 (N : Nat → Nat) (X : db_X) : db_X := bb_rels (bb_late N X (N 0)) (N 0)
def bb_pass (N : Nat → Nat) (X : db_X) (sz th : Nat) : Int32 × db_X := ((bb_run1 N (bb_pt1 N X) sz).1, bb_pt2 N (bb_run1 N (bb_pt1 N X) sz).2 th (bb_run1 N (bb_pt1 N X) sz).1)
/-! what is always so -/
def bb_Sec (N : Nat → Nat) (cnt sz : Nat) (X : db_X) : Prop := X 4 0 1 = nI sz ∧ sz ≤ N 2 ∧ ∀ p, p < sz → db_in (X 5 0 p) cnt ∧ db_in (bb_sec X p 2) (N 1)
def bb_I (N : Nat → Nat) (cnt sz : Nat) (X : db_X) : Prop := bb_W N X ∧ bb_O N X ∧ bb_Sec N cnt sz X
/-- alike but for the inherited deadlines -/
def bb_s5 (X Y : db_X) : Prop := ∀ k i f, ¬ (k = 2 ∧ f = 5) → X k i f = Y k i f
theorem bb_s5.rf {X : db_X} : bb_s5 X X := fun _ _ _ _ => rfl
theorem bb_s5.tr {X Y Z : db_X} (h : bb_s5 X Y) (h2 : bb_s5 Y Z) : bb_s5 X Z := fun k i f q => (h k i f q).trans (h2 k i f q)
theorem bb_s5.up {X : db_X} {i : Nat} {v : Int32} : bb_s5 (db_up X 2 i 5 v) X := by
  intro k j f q
  simp only [db_up]
  rw [if_neg]
  exact fun h => q ⟨h.1, h.2.2⟩
theorem bb_s5.hab {X Y : db_X} (h : bb_s5 X Y) (i : Nat) : bb_hab X i = bb_hab Y i := by
  unfold bb_hab
  rw [h 2 i 4 (by simp), h 3 0 _ (by simp)]
theorem bb_s5.W {N : Nat → Nat} {X Y : db_X} (h : bb_s5 X Y) (hw : bb_W N Y) : bb_W N X := fun i hi => by rw [h 2 i 4 (by simp)]; exact hw i hi
theorem bb_s5.O {N : Nat → Nat} {X Y : db_X} (h : bb_s5 X Y) (hw : bb_O N Y) : bb_O N X := fun i hi => by rw [h 3 0 i (by simp)]; exact hw i hi
theorem bb_s5.sec {X Y : db_X} (h : bb_s5 X Y) (p f : Nat) : bb_sec X p f = bb_sec Y p f := by
  unfold bb_sec
  rw [h 5 0 p (by simp), h 12 _ f (by simp)]
theorem bb_s5.Sec {N : Nat → Nat} {cnt sz : Nat} {X Y : db_X} (h : bb_s5 X Y) (hw : bb_Sec N cnt sz Y) : bb_Sec N cnt sz X :=
  ⟨by rw [h 4 0 1 (by simp)]; exact hw.1, hw.2.1, fun p hp => by rw [h 5 0 p (by simp), h.sec]; exact hw.2.2 p hp⟩
theorem bb_s5.I {N : Nat → Nat} {cnt sz : Nat} {X Y : db_X} (h : bb_s5 X Y) (hw : bb_I N cnt sz Y) : bb_I N cnt sz X := ⟨h.W hw.1, h.O hw.2.1, h.Sec hw.2.2⟩
theorem bb_in1_s5 {X : db_X} : ∀ n, bb_s5 (bb_in1 X n) X
  | 0 => bb_s5.rf
  | n + 1 => bb_s5.up.tr (bb_in1_s5 n)
theorem bb_ch1_s5 {due : Int32} {X : db_X} {h : Nat} : bb_s5 (bb_ch1 due X h) X := bb_s5.up
theorem bb_ch_s5 {due : Int32} : ∀ (k : Nat) (h : Int32) (X : db_X), bb_s5 (bb_ch due k h X) X
  | 0, _, _ => bb_s5.rf
  | k + 1, h, X => by
    unfold bb_ch
    split
    · exact bb_s5.rf
    · exact (bb_ch_s5 k _ _).tr bb_ch1_s5
theorem bb_in2_s5 {N : Nat → Nat} {X : db_X} : ∀ n, bb_s5 (bb_in2 N X n) X
  | 0 => bb_s5.rf
  | n + 1 => (bb_ch_s5 _ _ _).tr (bb_in2_s5 n)
theorem bb_inh_s5 {N : Nat → Nat} {X : db_X} : bb_s5 (bb_inh N X) X := (bb_in2_s5 _).tr (bb_in1_s5 _)
end
section
/-! what stays so -/
theorem bb_I.up {N : Nat → Nat} {cnt sz : Nat} {X : db_X} (h : bb_I N cnt sz X) {k i f : Nat} {v : Int32} (hk : (!(k == 2 && f == 4) && !(k == 3) && !(k == 4) && !(k == 5) && !(k == 12)) = true) : bb_I N cnt sz (db_up X k i f v) := by
  simp only [Bool.and_eq_true, Bool.not_eq_true', beq_eq_false_iff_ne, ne_eq, Bool.and_eq_false_iff] at hk
  obtain ⟨⟨⟨⟨h1, h3⟩, h4⟩, h5⟩, h12⟩ := hk
  have e : ∀ k' i' f', (k' = 3 ∨ k' = 4 ∨ k' = 5 ∨ k' = 12 ∨ (k' = 2 ∧ f' = 4)) → db_up X k i f v k' i' f' = X k' i' f' := by
    intro k' i' f' q
    simp only [db_up]
    rw [if_neg]
    rintro ⟨rfl, rfl, rfl⟩
    rcases q with q | q | q | q | q
    · exact h3 q
    · exact h4 q
    · exact h5 q
    · exact h12 q
    · rcases h1 with h1 | h1
      · exact h1 q.1
      · exact h1 q.2
  have es : ∀ p f', bb_sec (db_up X k i f v) p f' = bb_sec X p f' := by
    intro p f'
    unfold bb_sec
    rw [e 5 0 p (by simp), e 12 _ f' (by simp)]
  refine ⟨fun i' hi => by rw [e 2 i' 4 (by simp)]; exact h.1 i' hi, fun k' hk => by rw [e 3 0 k' (by simp)]; exact h.2.1 k' hk, by rw [e 4 0 1 (by simp)]; exact h.2.2.1, h.2.2.2.1, fun p hp => by rw [e 5 0 p (by simp), es]; exact h.2.2.2.2 p hp⟩
theorem bb_I.up4 {N : Nat → Nat} {cnt sz : Nat} {X : db_X} (h : bb_I N cnt sz X) {i : Nat} {v : Int32} (hv : v = -1 ∨ db_in v (N 1)) : bb_I N cnt sz (db_up X 2 i 4 v) := by
  have e : ∀ k' i' f', ¬ k' = 2 → db_up X 2 i 4 v k' i' f' = X k' i' f' := by
    intro k' i' f' q
    simp [db_up, q]
  have es : ∀ p f', bb_sec (db_up X 2 i 4 v) p f' = bb_sec X p f' := by
    intro p f'
    unfold bb_sec
    rw [e 5 0 p (by simp), e 12 _ f' (by simp)]
  refine ⟨fun i' hi => ?_, fun k' hk => by rw [e 3 0 k' (by simp)]; exact h.2.1 k' hk, by rw [e 4 0 1 (by simp)]; exact h.2.2.1, h.2.2.2.1, fun p hp => by rw [e 5 0 p (by simp), es]; exact h.2.2.2.2 p hp⟩
  by_cases q : i' = i
  · simp [db_up, q]; exact hv
  · simp [db_up, q]; exact h.1 i' hi
theorem bb_I.up3 {N : Nat → Nat} {cnt sz : Nat} {X : db_X} (h : bb_I N cnt sz X) {k : Nat} {v : Int32} (hv : v = -1 ∨ db_in v (N 0)) : bb_I N cnt sz (db_up X 3 0 k v) := by
  have e : ∀ k' i' f', ¬ k' = 3 → db_up X 3 0 k v k' i' f' = X k' i' f' := by
    intro k' i' f' q
    simp [db_up, q]
  have es : ∀ p f', bb_sec (db_up X 3 0 k v) p f' = bb_sec X p f' := by
    intro p f'
    unfold bb_sec
    rw [e 5 0 p (by simp), e 12 _ f' (by simp)]
  refine ⟨fun i' hi => by rw [e 2 i' 4 (by simp)]; exact h.1 i' hi, fun k' hk => ?_, by rw [e 4 0 1 (by simp)]; exact h.2.2.1, h.2.2.2.1, fun p hp => by rw [e 5 0 p (by simp), es]; exact h.2.2.2.2 p hp⟩
  by_cases q : k' = k
  · simp [db_up, q]; exact hv
  · simp [db_up, q]; exact h.2.1 k' hk
theorem bb_I.inh {N : Nat → Nat} {cnt sz : Nat} {X : db_X} (h : bb_I N cnt sz X) : bb_I N cnt sz (bb_inh N X) := bb_inh_s5.I h
theorem bb_I.lg3 {N : Nat → Nat} {cnt sz : Nat} {X : db_X} (h : bb_I N cnt sz X) {k : Nat} {a : Int32} (ha : db_in a (N 0)) : bb_I N cnt sz (bb_lg3 X k a) := (h.up3 (Or.inr ha)).up4 (Or.inl rfl)
theorem bb_I.letGo {N : Nat → Nat} {cnt sz : Nat} {X : db_X} (h : bb_I N cnt sz X) {k : Nat} : bb_I N cnt sz (bb_letGo N X k) := by
  unfold bb_letGo bb_lg2
  have h1 := (h.up3 (k := k) (v := -1) (Or.inl rfl)).inh
  split
  · exact h1
  · rename_i q
    exact h1.lg3 (bb_ahead_in q)
theorem bb_I.dropL {N : Nat → Nat} {cnt sz : Nat} {X : db_X} (h : bb_I N cnt sz X) {i : Nat} : ∀ k : Nat, bb_I N cnt sz (bb_dropL N X i k)
  | 0 => h
  | k + 1 => by
    unfold bb_dropL
    split
    · exact (bb_I.dropL h k).letGo
    · exact bb_I.dropL h k
theorem bb_I.drop {N : Nat → Nat} {cnt sz : Nat} {X : db_X} (h : bb_I N cnt sz X) {i : Nat} : bb_I N cnt sz (bb_drop N X i) := ((h.up rfl).up4 (Or.inl rfl)).dropL _
theorem bb_I.note {N : Nat → Nat} {cnt sz : Nat} {X : db_X} (h : bb_I N cnt sz X) {n t : Int32} : bb_I N cnt sz (bb_note N X n t) := by
  unfold bb_note
  split
  · exact h.up rfl
  · exact ((h.up rfl).up rfl).up rfl
theorem bb_I.late1 {N : Nat → Nat} {cnt sz : Nat} {X : db_X} (h : bb_I N cnt sz X) {i : Nat} : bb_I N cnt sz (bb_late1 N X i) := by
  unfold bb_late1
  split
  · exact h
  · split
    · exact (h.note.up rfl).drop
    · exact h
theorem bb_I.late {N : Nat → Nat} {cnt sz : Nat} {X : db_X} (h : bb_I N cnt sz X) : ∀ i : Nat, bb_I N cnt sz (bb_late N X i)
  | 0 => h
  | i + 1 => (bb_I.late h i).late1
theorem bb_I.begin {N : Nat → Nat} {cnt sz : Nat} {X : db_X} (h : bb_I N cnt sz X) {i : Nat} {r d : Int32} : bb_I N cnt sz (bb_begin X i r d) := (((((h.up rfl).up rfl).up rfl).up rfl).up4 (Or.inl rfl)).up rfl
theorem bb_I.rel {N : Nat → Nat} {cnt sz : Nat} {X : db_X} (h : bb_I N cnt sz X) {i : Nat} : bb_I N cnt sz (bb_rel X i) := (h.begin.up rfl).up rfl
theorem bb_I.rels {N : Nat → Nat} {cnt sz : Nat} {X : db_X} (h : bb_I N cnt sz X) : ∀ i : Nat, bb_I N cnt sz (bb_rels X i)
  | 0 => h
  | i + 1 => by
    have h1 := bb_I.rels h i
    unfold bb_rels bb_rels1
    split
    · exact h1
    · split
      · exact h1.rel
      · exact h1
theorem bb_I.takeF {N : Nat → Nat} {cnt sz i : Nat} (hi : i < N 0) : ∀ (q p : Nat) (X : db_X), p + q ≤ sz → bb_I N cnt sz X → bb_I N cnt sz (bb_takeF i q p X).2
  | 0, _, _, _, h => h
  | q + 1, p, X, hp, h => by
    unfold bb_takeF
    split
    · exact bb_I.takeF hi q (p + 1) X (by omega) h
    · split
      · exact bb_I.takeF hi q (p + 1) X (by omega) h
      · split
        · exact bb_I.takeF hi q (p + 1) _ (by omega) (h.up3 (Or.inr ⟨i, hi, rfl⟩))
        · split
          · exact bb_I.takeF hi q (p + 1) X (by omega) h
          · exact h.up4 (Or.inr (h.2.2.2.2 p (by omega)).2)
theorem bb_I.workL {N : Nat → Nat} {cnt sz i : Nat} : ∀ (p : Nat) (X : db_X), bb_I N cnt sz X → bb_I N cnt sz (bb_workL N i p X)
  | 0, _, h => h
  | p + 1, X, h => by
    unfold bb_workL
    split
    · exact bb_I.workL p X h
    · split
      · exact bb_I.workL p X h
      · exact bb_I.workL p _ h.letGo
theorem bb_I.endJ {N : Nat → Nat} {cnt sz : Nat} {X : db_X} (h : bb_I N cnt sz X) {i : Nat} {t : Int32} : bb_I N cnt sz (bb_endJ X i t) := ((h.up rfl).up rfl).up rfl
theorem bb_I.work {N : Nat → Nat} {cnt sz i : Nat} {X : db_X} (h : bb_I N cnt sz X) : bb_I N cnt sz (bb_work N X sz i) := by
  unfold bb_work bb_work2
  have h1 : bb_I N cnt sz (bb_workL N i sz (db_up X 2 i 3 (X 2 i 3 + 1))) := bb_I.workL _ _ (h.up rfl)
  split
  · exact h1.endJ
  · exact h1
theorem bb_I.runF {N : Nat → Nat} {cnt sz : Nat} (hN : bb_N N) : ∀ (q : Nat) (X : db_X), bb_I N cnt sz X → bb_I N cnt sz (bb_runF N sz q X).2
  | 0, _, h => h
  | q + 1, X, h => by
    unfold bb_runF
    split
    · exact h.inh
    · rename_i a
      have hi := (bb_ahead_in a).lt (by have := hN.2.1; omega)
      have h1 := bb_I.takeF hi sz 0 _ (by omega) h.inh
      split
      · exact bb_I.runF hN q _ h1
      · exact bb_I.work h1
theorem bb_I.cw1 {N : Nat → Nat} {cnt sz i : Nat} {X : db_X} (h : bb_I N cnt sz X) {r : Int32} : bb_I N cnt sz (bb_cw1 r X i) := by
  unfold bb_cw1
  split
  · exact h.up rfl
  · split
    · exact h.up rfl
    · exact h
theorem bb_I.cw {N : Nat → Nat} {cnt sz : Nat} {X : db_X} (h : bb_I N cnt sz X) {r : Int32} : ∀ i : Nat, bb_I N cnt sz (bb_cw r X i)
  | 0 => h
  | i + 1 => (bb_I.cw h i).cw1.up rfl
/-- a change within a set of (kind, field) -/
def bb_fr (S : Nat → Nat → Bool) (X Y : db_X) : Prop := ∀ k i f, S k f = false → X k i f = Y k i f
theorem bb_fr.rf {S : Nat → Nat → Bool} {X : db_X} : bb_fr S X X := fun _ _ _ _ => rfl
theorem bb_fr.tr {S : Nat → Nat → Bool} {X Y Z : db_X} (h : bb_fr S X Y) (h2 : bb_fr S Y Z) : bb_fr S X Z := fun k i f q => (h k i f q).trans (h2 k i f q)
theorem bb_fr.mono {S S' : Nat → Nat → Bool} {X Y : db_X} (h : bb_fr S X Y) (hs : ∀ k f, S' k f = false → S k f = false) : bb_fr S' X Y := fun k i f q => h k i f (hs k f q)
theorem bb_fr.up {S : Nat → Nat → Bool} {X : db_X} {k i f : Nat} {v : Int32} (h : S k f = true) : bb_fr S (db_up X k i f v) X := by
  intro k' i' f' q
  simp only [db_up]
  rw [if_neg]
  rintro ⟨rfl, rfl, rfl⟩
  rw [h] at q; cases q
def bb_S5 (k f : Nat) : Bool := k == 2 && f == 5
/-- letting go, dropping, taking -/
def bb_SG (k f : Nat) : Bool := k == 3 || (k == 2 && (f == 0 || f == 4 || f == 5))
theorem bb_inh_fr {N : Nat → Nat} {X : db_X} : bb_fr bb_S5 (bb_inh N X) X := by
  intro k i f q
  refine bb_inh_s5 k i f ?_
  rintro ⟨rfl, rfl⟩
  cases q
theorem bb_S5_SG : ∀ k f, bb_SG k f = false → bb_S5 k f = false := by
  intro k f h
  simp [bb_SG, bb_S5] at *
  omega
theorem bb_letGo_fr {N : Nat → Nat} {X : db_X} {k : Nat} : bb_fr bb_SG (bb_letGo N X k) X := by
  unfold bb_letGo bb_lg2
  have h1 : bb_fr bb_SG (bb_inh N (db_up X 3 0 k (-1))) X := (bb_inh_fr.mono bb_S5_SG).tr (bb_fr.up rfl)
  split
  · exact h1
  · exact ((bb_fr.up rfl).tr (bb_fr.up rfl)).tr h1
theorem bb_dropL_fr {N : Nat → Nat} {X : db_X} {i : Nat} : ∀ k : Nat, bb_fr bb_SG (bb_dropL N X i k) X
  | 0 => bb_fr.rf
  | k + 1 => by
    unfold bb_dropL
    split
    · exact bb_letGo_fr.tr (bb_dropL_fr k)
    · exact bb_dropL_fr k
theorem bb_drop_fr {N : Nat → Nat} {X : db_X} {i : Nat} : bb_fr bb_SG (bb_drop N X i) X := (bb_dropL_fr _).tr ((bb_fr.up rfl).tr (bb_fr.up rfl))
theorem bb_takeF_fr {i : Nat} : ∀ (q p : Nat) (X : db_X), bb_fr bb_SG (bb_takeF i q p X).2 X
  | 0, _, _ => bb_fr.rf
  | q + 1, p, X => by
    unfold bb_takeF
    split
    · exact bb_takeF_fr q (p + 1) X
    · split
      · exact bb_takeF_fr q (p + 1) X
      · split
        · exact (bb_takeF_fr q (p + 1) _).tr (bb_fr.up rfl)
        · split
          · exact bb_takeF_fr q (p + 1) X
          · exact bb_fr.up rfl
theorem bb_workL_fr {N : Nat → Nat} {i : Nat} : ∀ (p : Nat) (X : db_X), bb_fr bb_SG (bb_workL N i p X) X
  | 0, _ => bb_fr.rf
  | p + 1, X => by
    unfold bb_workL
    split
    · exact bb_workL_fr p X
    · split
      · exact bb_workL_fr p X
      · exact (bb_workL_fr p _).tr bb_letGo_fr
end
section
theorem bb_note_tot {N : Nat → Nat} {X : db_X} {n t : Int32} : bb_note N X n t 6 0 2 = X 6 0 2 + 1 := by
  unfold bb_note
  split <;> simp [bb_note3, bb_note2, db_up]
theorem bb_late1_tot {N : Nat → Nat} {X : db_X} {i t : Nat} (h : X 6 0 2 = nI t) : bb_late1 N X i 6 0 2 = nI t ∨ bb_late1 N X i 6 0 2 = nI (t + 1) := by
  unfold bb_late1
  split
  · exact Or.inl h
  · split
    · refine Or.inr ?_
      rw [bb_drop_fr 6 0 2 rfl]
      have e : bb_late2 (bb_note N X (nI i) (X 0 0 6)) i 6 0 2 = bb_note N X (nI i) (X 0 0 6) 6 0 2 := by simp [bb_late2, db_up]
      rw [e, bb_note_tot, h, nI_1]
    · exact Or.inl h
theorem bb_late_tot {N : Nat → Nat} {X : db_X} {t : Nat} (h : X 6 0 2 = nI t) : ∀ j : Nat, ∃ u : Nat, u ≤ t + j ∧ bb_late N X j 6 0 2 = nI u
  | 0 => ⟨t, by omega, h⟩
  | j + 1 => by
    obtain ⟨u, hu, e⟩ := bb_late_tot (N := N) h j
    rcases bb_late1_tot (N := N) (i := j) e with q | q
    · exact ⟨u, by omega, q⟩
    · exact ⟨u + 1, by omega, q⟩
theorem bb_rowf {x : Int32} {cnt : Nat} {L : Nat → Nat → Nat} (h : db_in x cnt) (hc : cnt < 2 ^ 31) : (if x < 0 then none else some (L 12 x.toNatClampNeg)) = some (L 12 x.toNatClampNeg) := by
  rw [if_neg]
  obtain ⟨j, hj, rfl⟩ := h
  exact nI_pos (by omega)
theorem bb_rels1_fr {X : db_X} {i : Nat} : bb_fr (fun k _ => k == 1 || k == 2) (bb_rels1 X i) X := by
  unfold bb_rels1
  split
  · exact bb_fr.rf
  · split
    · exact (bb_fr.up rfl).tr ((bb_fr.up rfl).tr ((bb_fr.up rfl).tr ((bb_fr.up rfl).tr ((bb_fr.up rfl).tr ((bb_fr.up rfl).tr ((bb_fr.up rfl).tr (bb_fr.up rfl)))))))
    · exact bb_fr.rf
theorem bb_rels_fr {X : db_X} : ∀ i : Nat, bb_fr (fun k _ => k == 1 || k == 2) (bb_rels X i) X
  | 0 => bb_fr.rf
  | i + 1 => bb_rels1_fr.tr (bb_rels_fr i)
theorem bb_late1_fr {N : Nat → Nat} {X : db_X} {i : Nat} : bb_fr (fun k f => bb_SG k f || k == 6 || k == 7 || k == 8 || (k == 1 && f == 8)) (bb_late1 N X i) X := by
  unfold bb_late1
  split
  · exact bb_fr.rf
  · split
    · refine bb_fr.tr (Y := bb_late2 (bb_note N X (nI i) (X 0 0 6)) i) (bb_drop_fr.mono ?_) (bb_fr.tr (Y := bb_note N X (nI i) (X 0 0 6)) (bb_fr.up rfl) ?_)
      · intro k f h
        simp only [Bool.or_eq_false_iff] at h
        exact h.1.1.1.1
      · unfold bb_note
        split
        · exact bb_fr.up rfl
        · exact (bb_fr.up rfl).tr ((bb_fr.up rfl).tr (bb_fr.up rfl))
    · exact bb_fr.rf
theorem bb_late_fr {N : Nat → Nat} {X : db_X} : ∀ i : Nat, bb_fr (fun k f => bb_SG k f || k == 6 || k == 7 || k == 8 || (k == 1 && f == 8)) (bb_late N X i) X
  | 0 => bb_fr.rf
  | i + 1 => bb_late1_fr.tr (bb_late_fr i)
theorem bb_work_fr {N : Nat → Nat} {X : db_X} {sz i : Nat} : bb_fr (fun k _ => k == 1 || k == 2 || k == 3) (bb_work N X sz i) X := by
  unfold bb_work bb_work2
  have h1 : bb_fr (fun k _ => k == 1 || k == 2 || k == 3) (bb_workL N i sz (db_up X 2 i 3 (X 2 i 3 + 1))) X := by
    refine ((bb_workL_fr _ _).mono ?_).tr (bb_fr.up rfl)
    intro k f h
    simp [bb_SG] at *
    omega
  split
  · exact ((bb_fr.up rfl).tr ((bb_fr.up rfl).tr (bb_fr.up rfl))).tr h1
  · exact h1
theorem bb_runF_fr {N : Nat → Nat} {sz : Nat} : ∀ (q : Nat) (X : db_X), bb_fr (fun k _ => k == 1 || k == 2 || k == 3) (bb_runF N sz q X).2 X
  | 0, _ => bb_fr.rf
  | q + 1, X => by
    have e0 : bb_fr (fun k _ => k == 1 || k == 2 || k == 3) (bb_inh N X) X := bb_inh_fr.mono (by intro k f h; simp [bb_S5] at *; omega)
    unfold bb_runF
    split
    · exact e0
    · have e1 : ∀ i, bb_fr (fun k _ => k == 1 || k == 2 || k == 3) (bb_take (bb_inh N X) sz i).2 X := fun i => bb_fr.tr ((bb_takeF_fr _ _ _).mono (by intro k f h; simp [bb_SG] at *; omega)) e0
      split
      · exact (bb_runF_fr q _).tr (e1 _)
      · exact bb_work_fr.tr (e1 _)
theorem bb_cw1_fr {r : Int32} {X : db_X} {i : Nat} : bb_fr (fun k _ => k == 1 || k == 2) (bb_cw1 r X i) X := by
  unfold bb_cw1
  split
  · exact bb_fr.up rfl
  · split
    · exact bb_fr.up rfl
    · exact bb_fr.rf
theorem bb_cw_fr {r : Int32} {X : db_X} : ∀ i : Nat, bb_fr (fun k _ => k == 1 || k == 2) (bb_cw r X i) X
  | 0 => bb_fr.rf
  | i + 1 => (bb_fr.up rfl).tr (bb_cw1_fr.tr (bb_cw_fr i))
theorem bb_pt1_fr {N : Nat → Nat} {X : db_X} : bb_fr (fun k _ => k == 1 || k == 2 || k == 3 || k == 6 || k == 7 || k == 8) (bb_pt1 N X) X := by
  unfold bb_pt1
  refine ((bb_rels_fr _).mono ?_).tr ((bb_late_fr _).mono ?_)
  · intro k f h
    simp at *
    omega
  · intro k f h
    simp [bb_SG] at *
    omega
theorem bb_run1_fr {N : Nat → Nat} {X : db_X} {sz : Nat} : bb_fr (fun k _ => k == 1 || k == 2 || k == 3) (bb_run1 N X sz).2 X := bb_runF_fr _ _
theorem bb_I.pt1 {N : Nat → Nat} {cnt sz : Nat} {X : db_X} (h : bb_I N cnt sz X) : bb_I N cnt sz (bb_pt1 N X) := (h.late _).rels _
theorem bb_I.hn {N : Nat → Nat} {cnt sz : Nat} {X : db_X} (h : bb_I N cnt sz X) {th : Nat} {r : Int32} : bb_I N cnt sz (bb_hn X th r) := (h.up rfl).up rfl
theorem bb_I.pt3 {N : Nat → Nat} {cnt sz : Nat} {X : db_X} (h : bb_I N cnt sz X) {r : Int32} : bb_I N cnt sz (bb_pt3 X r) := by
  unfold bb_pt3
  split
  · exact (h.up rfl).up rfl
  · exact h.up rfl
theorem bb_I.pass {N : Nat → Nat} {cnt sz : Nat} {X : db_X} (hN : bb_N N) (h : bb_I N cnt sz X) {th : Nat} : bb_I N cnt sz (bb_pass N X sz th).2 := bb_I.pt3 (bb_I.hn (bb_I.cw (bb_I.runF hN _ _ h.pt1) _))
theorem bb_runF_in {N : Nat → Nat} {sz : Nat} : ∀ (q : Nat) (X : db_X), (bb_runF N sz q X).1 = -1 ∨ db_in (bb_runF N sz q X).1 (N 0)
  | 0, _ => Or.inl rfl
  | q + 1, X => by
    unfold bb_runF
    split
    · exact Or.inl rfl
    · rename_i a
      split
      · exact bb_runF_in q _
      · exact Or.inr (bb_ahead_in a)
end
section
def bb_tick (N : Nat → Nat) (X : db_X) (sz th : Nat) : Int32 × db_X := if X 0 0 5 ≤ X 0 0 6 then (-2, X) else bb_pass N X sz th
def bb_rn (N : Nat → Nat) (sz : Nat) (b : Int32) (th : Nat) : Nat → Nat → db_X → Nat × db_X
  | 0, u, X => (u, X)
  | q + 1, u, X => if X 0 0 5 ≤ X 0 0 6 then (u, X) else if X 6 0 2 = b then bb_rn N sz b th q (u + 1) (bb_pass N X sz (th + u)).2 else (u, X)
def bb_runC (N : Nat → Nat) (X : db_X) (sz th : Nat) (n : Int32) : Int32 × db_X := if n < 0 then (-1, X) else if 2000 < n then (-1, X) else (nI (bb_rn N sz (X 6 0 2) th n.toNatClampNeg 0 X).1, (bb_rn N sz (X 6 0 2) th n.toNatClampNeg 0 X).2)
def bb_eff (N : Nat → Nat) (X : db_X) (t : Int32) : Int32 × db_X := if bb_hasJob N X t = 0 then (-1, X) else (bb_inh N X 2 t.toNatClampNeg 5, bb_inh N X)
def bb_miss (N : Nat → Nat) (X : db_X) (i w : Int32) : Int32 := if bb_keeps N X i = 0 then -1 else if w = 0 then X 7 0 i.toNatClampNeg else if w = 1 then X 8 0 i.toNatClampNeg else -1
def bb_sizeOf (X : db_X) (sz : Nat) (t : Int32) : Int32 := db_cnt (fun p => decide (bb_sec X p 0 = t)) sz
def bb_task (N : Nat → Nat) (X : db_X) (sz : Nat) (t w : Int32) : Int32 := if bb_isLive N X t = 0 then -1 else if w = 0 then X 1 t.toNatClampNeg 2 else if w = 1 then X 1 t.toNatClampNeg 3 else if w = 2 then X 1 t.toNatClampNeg 4 else if w = 3 then X 1 t.toNatClampNeg 5 else if w = 4 then bb_sizeOf X sz t else if w = 5 then X 1 t.toNatClampNeg 6
  else if w = 6 then X 1 t.toNatClampNeg 7 else if w = 7 then X 1 t.toNatClampNeg 8 else if w = 8 then X 1 t.toNatClampNeg 9 else if w = 9 then X 1 t.toNatClampNeg 10 else if w = 10 then X 1 t.toNatClampNeg 11 else -1
def bb_count (N : Nat → Nat) (X : db_X) (w : Int32) : Int32 := if w = 0 then X 0 0 6 else if w = 1 then bb_liveTasks N X else if w = 2 then bb_pendingJobs N X else if w = 3 then X 4 0 1 else if w = 4 then bb_heldLocks N X else if w = 5 then X 0 0 7 else if w = 6 then X 0 0 5 else -1
def bb_wf (X : db_X) (p w d : Int32) : Int32 := if w ≤ 0 then 0 else if d < w then 0 else if p < d then 0 else if X 0 0 5 < p then 0 else 1
def db_fst (f : Nat → Bool) : Nat → Nat → Nat
  | 0, j => j
  | q + 1, j => if f j = true then j else db_fst f q (j + 1)
def bb_free (N : Nat → Nat) (X : db_X) : Nat := db_fst (fun j => decide (X 1 j 1 = 0)) (N 0) 0
def bb_addTask (N : Nat → Nat) (X : db_X) (p w d : Int32) : Int32 × db_X := if bb_wf X p w d = 0 then (-2, X) else if bb_free N X < N 0 then (nI (bb_free N X), bb_enter X (bb_free N X) p w d (X 0 0 6)) else (-1, X)
theorem db_fst_in {f : Nat → Bool} : ∀ (q j : Nat), j ≤ db_fst f q j ∧ db_fst f q j ≤ j + q
  | 0, j => ⟨Nat.le_refl _, Nat.le_refl _⟩
  | q + 1, j => by
    have h := db_fst_in (f := f) q (j + 1)
    unfold db_fst
    split
    · omega
    · omega
def bb_dem (X : db_X) (t : Int32) : Nat → Int64
  | 0 => 0
  | i + 1 => if X 1 i 1 = 0 then bb_dem X t i else if t < X 1 i 4 then bb_dem X t i else if X 1 i 2 ≤ 0 then bb_dem X t i else bb_dem X t i + (X 1 i 3).toInt64 * (1 + (t - X 1 i 4) / X 1 i 2).toInt64
theorem bb_pass_6 {N : Nat → Nat} {X : db_X} {sz th : Nat} : (bb_pass N X sz th).2 6 0 2 = bb_late N X (N 0) 6 0 2 := by
  have h1 : ∀ (Y : db_X) (r : Int32), bb_pt3 Y r 6 0 2 = Y 6 0 2 := by
    intro Y r
    unfold bb_pt3
    split <;> simp [bb_now, bb_idle, db_up]
  have h2 : ∀ (Y : db_X) (r : Int32), bb_hn Y th r 6 0 2 = Y 6 0 2 := by
    intro Y r
    simp [bb_hn, bb_hn2, db_up]
  simp only [bb_pass, bb_pt2]
  rw [h1, h2, bb_cw_fr _ 6 0 2 rfl, bb_run1_fr 6 0 2 rfl]
  exact bb_rels_fr _ 6 0 2 rfl
theorem bb_pass_9 {N : Nat → Nat} {X : db_X} {sz th : Nat} : (bb_pass N X sz th).2 9 0 1 = X 9 0 1 + 1 := by
  have h1 : ∀ (Y : db_X) (r : Int32), bb_pt3 Y r 9 0 1 = Y 9 0 1 := by
    intro Y r
    unfold bb_pt3
    split <;> simp [bb_now, bb_idle, db_up]
  have h2 : ∀ (Y : db_X) (r : Int32), bb_hn Y th r 9 0 1 = Y 9 0 1 + 1 := by
    intro Y r
    simp [bb_hn, bb_hn2, db_up]
  simp only [bb_pass, bb_pt2]
  rw [h1, h2, bb_cw_fr _ 9 0 1 rfl, bb_run1_fr 9 0 1 rfl, bb_pt1_fr 9 0 1 rfl]
theorem bb_keeps_ix {N : Nat → Nat} {X : db_X} {t : Int32} (hn : N 3 < 2 ^ 31) (h : ¬ bb_keeps N X t = 0) : ∃ j : Nat, j < N 3 ∧ t = nI j := by
  unfold bb_keeps at h
  refine db_ix hn (fun q => h ?_) (fun q => h ?_)
  · simp [q]
  · simp [q]
end
section
set_option maxHeartbeats 4000000 in
set_option maxRecDepth 100000 in
/-- isLive -/
theorem c_X6_isLive (l : Launch) (Γ : db_G) (N : Nat → Nat) (L : Nat → Nat → Nat) (cnt : Nat) (X : db_X) (hN : bb_N N) (t : Int32) : db_C l Γ yX6_isLive cX6_isLive 2 (some .boolean) (db_rm 0 0) [.ref (L 0 0), .int t] L (bb_ok (N 0) cnt) (bb_cel Γ N L) X (some (.int (bb_isLive N X t))) X := by
  have hn0 : N 0 < 2 ^ 31 := by have := hN.2.1; omega
  have hn1 : N 1 < 2 ^ 31 := by have := hN.2.2.1; omega
  have hn2 : N 2 < 2 ^ 31 := by have := hN.2.2.2.1; omega
  have hn3 : N 3 < 2 ^ 31 := by have := hN.2.2.2.2; omega
  refine db_introZ (by decide +kernel) (Nat.le_of_ble_eq_true rfl) bb_isLive01 ?_
  intro p e s m args below meth c A Q ls hC hS hl hret
  have hC : db_Cx p s m args meth c Γ RX6 cX6_isLive 2 (some .boolean) := hC
  obtain ⟨hx, hb, hml, hr, hlocks, hown, hts, hK⟩ := id hC
  have hl : lv_has ls 2 [(0, .ref (L 0 0)), (1, .int t)] := hl
  refine lv_iload_n hx hb dX6_isLive_0 rfl (lv_at hl 1 rfl) ?_
  refine lv_if_lt (tgt := 29) hx hb dX6_isLive_1 (by decide) (fun c1 => ?_) (fun c1 => ?_)
  · refine lv_iconst (v := 0) hx hb dX6_isLive_29 (by decide) ?_
    exact hret _ _ _ _ _ _ hS (by simp [bb_isLive, c1]) (rfl) dX6_isLive_30
  · refine lv_iload_n hx hb dX6_isLive_4 rfl (lv_at hl 1 rfl) ?_
    refine lv_aload_n hx hb dX6_isLive_5 rfl (lv_at hl 0 rfl) ?_
    refine db_get hx hb hts hown hK hS 0 0 (bb_k 0 rfl) rfl db_c6 0 (by decide) wd_172 rfl dX6_isLive_6 ?_
    refine db_alen hx hb hK hS 11 0 (bb_k 11 rfl) 2 rfl rfl dX6_isLive_9 ?_
    refine lv_icmp_ge (tgt := 29) hx hb dX6_isLive_10 (by decide) (fun c10 => ?_) (fun c10 => ?_)
    · refine lv_iconst (v := 0) hx hb dX6_isLive_29 (by decide) ?_
      exact hret _ _ _ _ _ _ hS (by simp [bb_isLive, c1, c10]) (rfl) dX6_isLive_30
    · obtain ⟨j, hj, rfl⟩ := db_ix hn0 c1 c10
      refine lv_aload_n hx hb dX6_isLive_13 rfl (lv_at hl 0 rfl) ?_
      refine db_get hx hb hts hown hK hS 0 0 (bb_k 0 rfl) rfl db_c6 0 (by decide) wd_172 rfl dX6_isLive_14 ?_
      refine lv_iload_n hx hb dX6_isLive_17 rfl (lv_at hl 1 rfl) ?_
      refine db_ald hx hb hK hS 11 0 (bb_k 11 rfl) 2 rfl rfl j rfl hj hn0 rfl dX6_isLive_18 ?_
      refine db_getN hx hb hts hown hK hS 1 j (bb_kT hj) rfl db_c5 1 (by decide) wn_73 rfl dX6_isLive_19 ?_
      refine lv_if_eq (tgt := 29) hx hb dX6_isLive_22 (by decide) (fun c22 => ?_) (fun c22 => ?_)
      · refine lv_iconst (v := 0) hx hb dX6_isLive_29 (by decide) ?_
        exact hret _ _ _ _ _ _ hS (by simp [bb_isLive, c1, c10, c22, db_nIc hj hn0]) (rfl) dX6_isLive_30
      · refine lv_iconst (v := 1) hx hb dX6_isLive_25 (by decide) ?_
        refine lv_goto (tgt := 30) hx hb dX6_isLive_26 (by decide) ?_
        exact hret _ _ _ _ _ _ hS (by simp [bb_isLive, c1, c10, c22, db_nIc hj hn0]) (rfl) dX6_isLive_30

set_option maxHeartbeats 4000000 in
set_option maxRecDepth 100000 in
theorem c_X6_isLock (l : Launch) (Γ : db_G) (N : Nat → Nat) (L : Nat → Nat → Nat) (cnt : Nat) (X : db_X) (hN : bb_N N) (t : Int32) : db_C l Γ yX6_isLock cX6_isLock 2 (some .boolean) (db_rm 0 0) [.ref (L 0 0), .int t] L (bb_ok (N 0) cnt) (bb_cel Γ N L) X (some (.int (bb_isLock N t))) X := by
  have hn0 : N 0 < 2 ^ 31 := by have := hN.2.1; omega
  have hn1 : N 1 < 2 ^ 31 := by have := hN.2.2.1; omega
  have hn2 : N 2 < 2 ^ 31 := by have := hN.2.2.2.1; omega
  have hn3 : N 3 < 2 ^ 31 := by have := hN.2.2.2.2; omega
  refine db_introZ (by decide +kernel) (Nat.le_of_ble_eq_true rfl) bb_isLock01 ?_
  intro p e s m args below meth c A Q ls hC hS hl hret
  have hC : db_Cx p s m args meth c Γ RX6 cX6_isLock 2 (some .boolean) := hC
  obtain ⟨hx, hb, hml, hr, hlocks, hown, hts, hK⟩ := id hC
  have hl : lv_has ls 2 [(0, .ref (L 0 0)), (1, .int t)] := hl
  refine lv_iload_n hx hb dX6_isLock_0 rfl (lv_at hl 1 rfl) ?_
  refine lv_if_lt (tgt := 17) hx hb dX6_isLock_1 (by decide) (fun c1 => ?_) (fun c1 => ?_)
  · refine lv_iconst (v := 0) hx hb dX6_isLock_17 (by decide) ?_
    exact hret _ _ _ _ _ _ hS (by simp [bb_isLock, c1]) (rfl) dX6_isLock_18
  · refine lv_iload_n hx hb dX6_isLock_4 rfl (lv_at hl 1 rfl) ?_
    refine lv_aload_n hx hb dX6_isLock_5 rfl (lv_at hl 0 rfl) ?_
    refine db_get hx hb hts hown hK hS 0 0 (bb_k 0 rfl) rfl db_c6 1 (by decide) wd_173 rfl dX6_isLock_6 ?_
    refine db_alen hx hb hK hS 3 0 (bb_k 3 rfl) 0 rfl rfl dX6_isLock_9 ?_
    refine lv_icmp_ge (tgt := 17) hx hb dX6_isLock_10 (by decide) (fun c10 => ?_) (fun c10 => ?_)
    · refine lv_iconst (v := 0) hx hb dX6_isLock_17 (by decide) ?_
      exact hret _ _ _ _ _ _ hS (by simp [bb_isLock, c1, c10]) (rfl) dX6_isLock_18
    · refine lv_iconst (v := 1) hx hb dX6_isLock_13 (by decide) ?_
      refine lv_goto (tgt := 18) hx hb dX6_isLock_14 (by decide) ?_
      exact hret _ _ _ _ _ _ hS (by simp [bb_isLock, c1, c10]) (rfl) dX6_isLock_18

set_option maxHeartbeats 4000000 in
set_option maxRecDepth 100000 in
theorem c_X6_hasJob (l : Launch) (Γ : db_G) (N : Nat → Nat) (L : Nat → Nat → Nat) (cnt : Nat) (X : db_X) (hN : bb_N N) (t : Int32) : db_C l Γ yX6_hasJob cX6_hasJob 2 (some .boolean) (db_rm 1 21) [.ref (L 0 0), .int t] L (bb_ok (N 0) cnt) (bb_cel Γ N L) X (some (.int (bb_hasJob N X t))) X := by
  have hn0 : N 0 < 2 ^ 31 := by have := hN.2.1; omega
  have hn1 : N 1 < 2 ^ 31 := by have := hN.2.2.1; omega
  have hn2 : N 2 < 2 ^ 31 := by have := hN.2.2.2.1; omega
  have hn3 : N 3 < 2 ^ 31 := by have := hN.2.2.2.2; omega
  refine db_introZ (by decide +kernel) (Nat.le_of_ble_eq_true rfl) bb_hasJob01 ?_
  intro p e s m args below meth c A Q ls hC hS hl hret
  have hC : db_Cx p s m args meth c Γ RX6 cX6_hasJob 2 (some .boolean) := hC
  obtain ⟨hx, hb, hml, hr, hlocks, hown, hts, hK⟩ := id hC
  have hl : lv_has ls 2 [(0, .ref (L 0 0)), (1, .int t)] := hl
  refine lv_aload_n hx hb dX6_hasJob_0 rfl (lv_at hl 0 rfl) ?_
  refine lv_iload_n hx hb dX6_hasJob_1 rfl (lv_at hl 1 rfl) ?_
  refine db_cV (As := [.int t]) (rest := []) (st1 := [.int (bb_isLive N X t)]) hC hS 0 0 (bb_k 0 rfl) rfl db_c6 (c_X6_isLive l Γ N L cnt X hN t ) (cw_X6_isLive (Nat.le_of_ble_eq_true rfl) (Nat.le_of_ble_eq_true rfl)) wd_209 wd_211 ws_1 rfl hl.1 rfl (Nat.le_of_ble_eq_true rfl) dX6_hasJob_2 ⟨Nat.le_of_ble_eq_true rfl, Nat.le_of_ble_eq_true rfl⟩ rfl (fun H locs hS => ?_)
  refine lv_if_eq (tgt := 27) hx hb dX6_hasJob_5 (by decide) (fun c5 => ?_) (fun c5 => ?_)
  · refine lv_iconst (v := 0) hx hb dX6_hasJob_27 (by decide) ?_
    exact hret _ _ _ _ _ _ hS (by simp [bb_hasJob, c5]) (rfl) dX6_hasJob_28
  · obtain ⟨j, hj, rfl⟩ := bb_isLive_ix hn0 c5
    refine lv_aload_n hx hb dX6_hasJob_8 rfl (lv_at hl 0 rfl) ?_
    refine db_get hx hb hts hown hK hS 0 0 (bb_k 0 rfl) rfl db_c6 0 (by decide) wd_172 rfl dX6_hasJob_9 ?_
    refine lv_iload_n hx hb dX6_hasJob_12 rfl (lv_at hl 1 rfl) ?_
    refine db_ald hx hb hK hS 11 0 (bb_k 11 rfl) 2 rfl rfl j rfl hj hn0 rfl dX6_hasJob_13 ?_
    refine db_getN hx hb hts hown hK hS 1 j (bb_kT hj) rfl db_c5 0 (by decide) wn_71 rfl dX6_hasJob_14 ?_
    refine db_getN hx hb hts hown hK hS 2 j (bb_kJ hj) rfl db_c0 0 (by decide) wn_42 rfl dX6_hasJob_17 ?_
    refine lv_if_eq (tgt := 27) hx hb dX6_hasJob_20 (by decide) (fun c20 => ?_) (fun c20 => ?_)
    · refine lv_iconst (v := 0) hx hb dX6_hasJob_27 (by decide) ?_
      exact hret _ _ _ _ _ _ hS (by simp [bb_hasJob, c5, c20, db_nIc hj hn0]) (rfl) dX6_hasJob_28
    · refine lv_iconst (v := 1) hx hb dX6_hasJob_23 (by decide) ?_
      refine lv_goto (tgt := 28) hx hb dX6_hasJob_24 (by decide) ?_
      exact hret _ _ _ _ _ _ hS (by simp [bb_hasJob, c5, c20, db_nIc hj hn0]) (rfl) dX6_hasJob_28

set_option maxHeartbeats 4000000 in
set_option maxRecDepth 100000 in
theorem c_X6_remaining (l : Launch) (Γ : db_G) (N : Nat → Nat) (L : Nat → Nat → Nat) (cnt : Nat) (X : db_X) (hN : bb_N N) (t : Int32) : db_C l Γ yX6_remaining cX6_remaining 2 (some .int) (db_rm 2 42) [.ref (L 0 0), .int t] L (bb_ok (N 0) cnt) (bb_cel Γ N L) X (some (.int (bb_remaining N X t))) X := by
  have hn0 : N 0 < 2 ^ 31 := by have := hN.2.1; omega
  have hn1 : N 1 < 2 ^ 31 := by have := hN.2.2.1; omega
  have hn2 : N 2 < 2 ^ 31 := by have := hN.2.2.2.1; omega
  have hn3 : N 3 < 2 ^ 31 := by have := hN.2.2.2.2; omega
  refine db_introI (by decide +kernel) (Nat.le_of_ble_eq_true rfl) ?_
  intro p e s m args below meth c A Q ls hC hS hl hret
  have hC : db_Cx p s m args meth c Γ RX6 cX6_remaining 2 (some .int) := hC
  obtain ⟨hx, hb, hml, hr, hlocks, hown, hts, hK⟩ := id hC
  have hl : lv_has ls 2 [(0, .ref (L 0 0)), (1, .int t)] := hl
  refine lv_aload_n hx hb dX6_remaining_0 rfl (lv_at hl 0 rfl) ?_
  refine lv_iload_n hx hb dX6_remaining_1 rfl (lv_at hl 1 rfl) ?_
  refine db_cV (As := [.int t]) (rest := []) (st1 := [.int (bb_hasJob N X t)]) hC hS 0 0 (bb_k 0 rfl) rfl db_c6 (c_X6_hasJob l Γ N L cnt X hN t ) (cw_X6_hasJob (Nat.le_of_ble_eq_true rfl) (Nat.le_of_ble_eq_true rfl)) wd_369 wd_371 ws_28 rfl hl.1 rfl (Nat.le_of_ble_eq_true rfl) dX6_remaining_2 ⟨Nat.le_of_ble_eq_true rfl, Nat.le_of_ble_eq_true rfl⟩ rfl (fun H locs hS => ?_)
  refine lv_if_eq (tgt := 33) hx hb dX6_remaining_5 (by decide) (fun c5 => ?_) (fun c5 => ?_)
  · refine lv_iconst (v := 0) hx hb dX6_remaining_33 (by decide) ?_
    exact hret _ _ _ _ _ _ hS (by simp [bb_remaining, c5]) (rfl) dX6_remaining_34
  · obtain ⟨j, hj, rfl⟩ := bb_hasJob_ix hn0 c5
    refine lv_aload_n hx hb dX6_remaining_8 rfl (lv_at hl 0 rfl) ?_
    refine db_get hx hb hts hown hK hS 0 0 (bb_k 0 rfl) rfl db_c6 0 (by decide) wd_172 rfl dX6_remaining_9 ?_
    refine lv_iload_n hx hb dX6_remaining_12 rfl (lv_at hl 1 rfl) ?_
    refine db_ald hx hb hK hS 11 0 (bb_k 11 rfl) 2 rfl rfl j rfl hj hn0 rfl dX6_remaining_13 ?_
    refine db_getN hx hb hts hown hK hS 1 j (bb_kT hj) rfl db_c5 3 (by decide) wn_77 rfl dX6_remaining_14 ?_
    refine lv_aload_n hx hb dX6_remaining_17 rfl (lv_at hl 0 rfl) ?_
    refine db_get hx hb hts hown hK hS 0 0 (bb_k 0 rfl) rfl db_c6 0 (by decide) wd_172 rfl dX6_remaining_18 ?_
    refine lv_iload_n hx hb dX6_remaining_21 rfl (lv_at hl 1 rfl) ?_
    refine db_ald hx hb hK hS 11 0 (bb_k 11 rfl) 2 rfl rfl j rfl hj hn0 rfl dX6_remaining_22 ?_
    refine db_getN hx hb hts hown hK hS 1 j (bb_kT hj) rfl db_c5 0 (by decide) wn_71 rfl dX6_remaining_23 ?_
    refine db_getN hx hb hts hown hK hS 2 j (bb_kJ hj) rfl db_c0 3 (by decide) wn_49 rfl dX6_remaining_26 ?_
    refine lv_isub hx hb dX6_remaining_29 ?_
    refine lv_goto (tgt := 34) hx hb dX6_remaining_30 (by decide) ?_
    exact hret _ _ _ _ _ _ hS (by simp [bb_remaining, c5, db_nIc hj hn0]) (rfl) dX6_remaining_34

set_option maxHeartbeats 4000000 in
set_option maxRecDepth 100000 in
theorem c_X6_deadlineOf (l : Launch) (Γ : db_G) (N : Nat → Nat) (L : Nat → Nat → Nat) (cnt : Nat) (X : db_X) (hN : bb_N N) (t : Int32) : db_C l Γ yX6_deadlineOf cX6_deadlineOf 2 (some .int) (db_rm 2 42) [.ref (L 0 0), .int t] L (bb_ok (N 0) cnt) (bb_cel Γ N L) X (some (.int (bb_deadlineOf N X t))) X := by
  have hn0 : N 0 < 2 ^ 31 := by have := hN.2.1; omega
  have hn1 : N 1 < 2 ^ 31 := by have := hN.2.2.1; omega
  have hn2 : N 2 < 2 ^ 31 := by have := hN.2.2.2.1; omega
  have hn3 : N 3 < 2 ^ 31 := by have := hN.2.2.2.2; omega
  refine db_introI (by decide +kernel) (Nat.le_of_ble_eq_true rfl) ?_
  intro p e s m args below meth c A Q ls hC hS hl hret
  have hC : db_Cx p s m args meth c Γ RX6 cX6_deadlineOf 2 (some .int) := hC
  obtain ⟨hx, hb, hml, hr, hlocks, hown, hts, hK⟩ := id hC
  have hl : lv_has ls 2 [(0, .ref (L 0 0)), (1, .int t)] := hl
  refine lv_aload_n hx hb dX6_deadlineOf_0 rfl (lv_at hl 0 rfl) ?_
  refine lv_iload_n hx hb dX6_deadlineOf_1 rfl (lv_at hl 1 rfl) ?_
  refine db_cV (As := [.int t]) (rest := []) (st1 := [.int (bb_hasJob N X t)]) hC hS 0 0 (bb_k 0 rfl) rfl db_c6 (c_X6_hasJob l Γ N L cnt X hN t ) (cw_X6_hasJob (Nat.le_of_ble_eq_true rfl) (Nat.le_of_ble_eq_true rfl)) wd_369 wd_371 ws_28 rfl hl.1 rfl (Nat.le_of_ble_eq_true rfl) dX6_deadlineOf_2 ⟨Nat.le_of_ble_eq_true rfl, Nat.le_of_ble_eq_true rfl⟩ rfl (fun H locs hS => ?_)
  refine lv_if_eq (tgt := 23) hx hb dX6_deadlineOf_5 (by decide) (fun c5 => ?_) (fun c5 => ?_)
  · refine lv_iconst (v := -1) hx hb dX6_deadlineOf_23 (by decide) ?_
    exact hret _ _ _ _ _ _ hS (by simp [bb_deadlineOf, c5]) (rfl) dX6_deadlineOf_24
  · obtain ⟨j, hj, rfl⟩ := bb_hasJob_ix hn0 c5
    refine lv_aload_n hx hb dX6_deadlineOf_8 rfl (lv_at hl 0 rfl) ?_
    refine db_get hx hb hts hown hK hS 0 0 (bb_k 0 rfl) rfl db_c6 0 (by decide) wd_172 rfl dX6_deadlineOf_9 ?_
    refine lv_iload_n hx hb dX6_deadlineOf_12 rfl (lv_at hl 1 rfl) ?_
    refine db_ald hx hb hK hS 11 0 (bb_k 11 rfl) 2 rfl rfl j rfl hj hn0 rfl dX6_deadlineOf_13 ?_
    refine db_getN hx hb hts hown hK hS 1 j (bb_kT hj) rfl db_c5 0 (by decide) wn_71 rfl dX6_deadlineOf_14 ?_
    refine db_getN hx hb hts hown hK hS 2 j (bb_kJ hj) rfl db_c0 2 (by decide) wn_47 rfl dX6_deadlineOf_17 ?_
    refine lv_goto (tgt := 24) hx hb dX6_deadlineOf_20 (by decide) ?_
    exact hret _ _ _ _ _ _ hS (by simp [bb_deadlineOf, c5, db_nIc hj hn0]) (rfl) dX6_deadlineOf_24

set_option maxHeartbeats 4000000 in
set_option maxRecDepth 100000 in
theorem c_X6_waitsFor (l : Launch) (Γ : db_G) (N : Nat → Nat) (L : Nat → Nat → Nat) (cnt : Nat) (X : db_X) (hN : bb_N N) (t : Int32) : db_C l Γ yX6_waitsFor cX6_waitsFor 2 (some .int) (db_rm 2 42) [.ref (L 0 0), .int t] L (bb_ok (N 0) cnt) (bb_cel Γ N L) X (some (.int (bb_waitsFor N X t))) X := by
  have hn0 : N 0 < 2 ^ 31 := by have := hN.2.1; omega
  have hn1 : N 1 < 2 ^ 31 := by have := hN.2.2.1; omega
  have hn2 : N 2 < 2 ^ 31 := by have := hN.2.2.2.1; omega
  have hn3 : N 3 < 2 ^ 31 := by have := hN.2.2.2.2; omega
  refine db_introI (by decide +kernel) (Nat.le_of_ble_eq_true rfl) ?_
  intro p e s m args below meth c A Q ls hC hS hl hret
  have hC : db_Cx p s m args meth c Γ RX6 cX6_waitsFor 2 (some .int) := hC
  obtain ⟨hx, hb, hml, hr, hlocks, hown, hts, hK⟩ := id hC
  have hl : lv_has ls 2 [(0, .ref (L 0 0)), (1, .int t)] := hl
  refine lv_aload_n hx hb dX6_waitsFor_0 rfl (lv_at hl 0 rfl) ?_
  refine lv_iload_n hx hb dX6_waitsFor_1 rfl (lv_at hl 1 rfl) ?_
  refine db_cV (As := [.int t]) (rest := []) (st1 := [.int (bb_hasJob N X t)]) hC hS 0 0 (bb_k 0 rfl) rfl db_c6 (c_X6_hasJob l Γ N L cnt X hN t ) (cw_X6_hasJob (Nat.le_of_ble_eq_true rfl) (Nat.le_of_ble_eq_true rfl)) wd_369 wd_371 ws_28 rfl hl.1 rfl (Nat.le_of_ble_eq_true rfl) dX6_waitsFor_2 ⟨Nat.le_of_ble_eq_true rfl, Nat.le_of_ble_eq_true rfl⟩ rfl (fun H locs hS => ?_)
  refine lv_if_eq (tgt := 23) hx hb dX6_waitsFor_5 (by decide) (fun c5 => ?_) (fun c5 => ?_)
  · refine lv_iconst (v := -1) hx hb dX6_waitsFor_23 (by decide) ?_
    exact hret _ _ _ _ _ _ hS (by simp [bb_waitsFor, c5]) (rfl) dX6_waitsFor_24
  · obtain ⟨j, hj, rfl⟩ := bb_hasJob_ix hn0 c5
    refine lv_aload_n hx hb dX6_waitsFor_8 rfl (lv_at hl 0 rfl) ?_
    refine db_get hx hb hts hown hK hS 0 0 (bb_k 0 rfl) rfl db_c6 0 (by decide) wd_172 rfl dX6_waitsFor_9 ?_
    refine lv_iload_n hx hb dX6_waitsFor_12 rfl (lv_at hl 1 rfl) ?_
    refine db_ald hx hb hK hS 11 0 (bb_k 11 rfl) 2 rfl rfl j rfl hj hn0 rfl dX6_waitsFor_13 ?_
    refine db_getN hx hb hts hown hK hS 1 j (bb_kT hj) rfl db_c5 0 (by decide) wn_71 rfl dX6_waitsFor_14 ?_
    refine db_getN hx hb hts hown hK hS 2 j (bb_kJ hj) rfl db_c0 4 (by decide) wn_51 rfl dX6_waitsFor_17 ?_
    refine lv_goto (tgt := 24) hx hb dX6_waitsFor_20 (by decide) ?_
    exact hret _ _ _ _ _ _ hS (by simp [bb_waitsFor, c5, db_nIc hj hn0]) (rfl) dX6_waitsFor_24

set_option maxHeartbeats 4000000 in
set_option maxRecDepth 100000 in
theorem c_X6_owner (l : Launch) (Γ : db_G) (N : Nat → Nat) (L : Nat → Nat → Nat) (cnt : Nat) (X : db_X) (hN : bb_N N) (t : Int32) : db_C l Γ yX6_owner cX6_owner 2 (some .int) (db_rm 1 21) [.ref (L 0 0), .int t] L (bb_ok (N 0) cnt) (bb_cel Γ N L) X (some (.int (bb_owner N X t))) X := by
  have hn0 : N 0 < 2 ^ 31 := by have := hN.2.1; omega
  have hn1 : N 1 < 2 ^ 31 := by have := hN.2.2.1; omega
  have hn2 : N 2 < 2 ^ 31 := by have := hN.2.2.2.1; omega
  have hn3 : N 3 < 2 ^ 31 := by have := hN.2.2.2.2; omega
  refine db_introI (by decide +kernel) (Nat.le_of_ble_eq_true rfl) ?_
  intro p e s m args below meth c A Q ls hC hS hl hret
  have hC : db_Cx p s m args meth c Γ RX6 cX6_owner 2 (some .int) := hC
  obtain ⟨hx, hb, hml, hr, hlocks, hown, hts, hK⟩ := id hC
  have hl : lv_has ls 2 [(0, .ref (L 0 0)), (1, .int t)] := hl
  refine lv_aload_n hx hb dX6_owner_0 rfl (lv_at hl 0 rfl) ?_
  refine lv_iload_n hx hb dX6_owner_1 rfl (lv_at hl 1 rfl) ?_
  refine db_cV (As := [.int t]) (rest := []) (st1 := [.int (bb_isLock N t)]) hC hS 0 0 (bb_k 0 rfl) rfl db_c6 (c_X6_isLock l Γ N L cnt X hN t ) (cw_X6_isLock (Nat.le_of_ble_eq_true rfl) (Nat.le_of_ble_eq_true rfl)) wd_213 wd_215 ws_2 rfl hl.1 rfl (Nat.le_of_ble_eq_true rfl) dX6_owner_2 ⟨Nat.le_of_ble_eq_true rfl, Nat.le_of_ble_eq_true rfl⟩ rfl (fun H locs hS => ?_)
  refine lv_if_eq (tgt := 17) hx hb dX6_owner_5 (by decide) (fun c5 => ?_) (fun c5 => ?_)
  · refine lv_iconst (v := -1) hx hb dX6_owner_17 (by decide) ?_
    exact hret _ _ _ _ _ _ hS (by simp [bb_owner, c5]) (rfl) dX6_owner_18
  · obtain ⟨j, hj, rfl⟩ := bb_isLock_ix hn1 c5
    refine lv_aload_n hx hb dX6_owner_8 rfl (lv_at hl 0 rfl) ?_
    refine db_get hx hb hts hown hK hS 0 0 (bb_k 0 rfl) rfl db_c6 1 (by decide) wd_173 rfl dX6_owner_9 ?_
    refine lv_iload_n hx hb dX6_owner_12 rfl (lv_at hl 1 rfl) ?_
    refine db_ild hx hb hK hS 3 0 (bb_k 3 rfl) rfl j rfl hj hn1 dX6_owner_13 ?_
    refine lv_goto (tgt := 18) hx hb dX6_owner_14 (by decide) ?_
    exact hret _ _ _ _ _ _ hS (by simp [bb_owner, c5, db_nIc hj hn1]) (rfl) dX6_owner_18

set_option maxHeartbeats 4000000 in
set_option maxRecDepth 100000 in
theorem c_X6_holderAwaitedBy (l : Launch) (Γ : db_G) (N : Nat → Nat) (L : Nat → Nat → Nat) (cnt : Nat) (X : db_X) (hN : bb_N N) (i : Nat) (hW : bb_W N X) (hi : i < N 0) : db_C l Γ yX6_holderAwaitedBy cX6_holderAwaitedBy 3 (some .int) (db_rm 0 0) [.ref (L 0 0), .int (nI i)] L (bb_ok (N 0) cnt) (bb_cel Γ N L) X (some (.int (bb_hab X i))) X := by
  have hn0 : N 0 < 2 ^ 31 := by have := hN.2.1; omega
  have hn1 : N 1 < 2 ^ 31 := by have := hN.2.2.1; omega
  have hn2 : N 2 < 2 ^ 31 := by have := hN.2.2.2.1; omega
  have hn3 : N 3 < 2 ^ 31 := by have := hN.2.2.2.2; omega
  refine db_introI (by decide +kernel) (Nat.le_of_ble_eq_true rfl) ?_
  intro p e s m args below meth c A Q ls hC hS hl hret
  have hC : db_Cx p s m args meth c Γ RX6 cX6_holderAwaitedBy 3 (some .int) := hC
  obtain ⟨hx, hb, hml, hr, hlocks, hown, hts, hK⟩ := id hC
  have hl : lv_has ls 3 [(0, .ref (L 0 0)), (1, .int (nI i))] := hl
  refine lv_aload_n hx hb dX6_holderAwaitedBy_0 rfl (lv_at hl 0 rfl) ?_
  refine db_get hx hb hts hown hK hS 0 0 (bb_k 0 rfl) rfl db_c6 0 (by decide) wd_172 rfl dX6_holderAwaitedBy_1 ?_
  refine lv_iload_n hx hb dX6_holderAwaitedBy_4 rfl (lv_at hl 1 rfl) ?_
  refine db_ald hx hb hK hS 11 0 (bb_k 11 rfl) 2 rfl rfl i rfl hi hn0 rfl dX6_holderAwaitedBy_5 ?_
  refine db_getN hx hb hts hown hK hS 1 i (bb_kT hi) rfl db_c5 0 (by decide) wn_71 rfl dX6_holderAwaitedBy_6 ?_
  refine db_getN hx hb hts hown hK hS 2 i (bb_kJ hi) rfl db_c0 4 (by decide) wn_51 rfl dX6_holderAwaitedBy_9 ?_
  refine lv_istore_n (lv' := [(2, .int (X 2 i 4)), (0, .ref (L 0 0)), (1, .int (nI i))]) hx hb dX6_holderAwaitedBy_12 rfl hl (by decide) rfl (fun ls hl => ?_)
  refine lv_iload_n hx hb dX6_holderAwaitedBy_13 rfl (lv_at hl 0 rfl) ?_
  refine lv_iconst (v := -1) hx hb dX6_holderAwaitedBy_14 (by decide) ?_
  refine lv_icmp_ne (tgt := 22) hx hb dX6_holderAwaitedBy_15 (by decide) (fun c15 => ?_) (fun c15 => ?_)
  · obtain ⟨w, hw, ew⟩ := (hW i hi).resolve_left c15
    refine lv_aload_n hx hb dX6_holderAwaitedBy_22 rfl (lv_at hl 1 rfl) ?_
    refine db_get hx hb hts hown hK hS 0 0 (bb_k 0 rfl) rfl db_c6 1 (by decide) wd_173 rfl dX6_holderAwaitedBy_23 ?_
    refine lv_iload_n hx hb dX6_holderAwaitedBy_26 rfl (lv_at hl 0 rfl) ?_
    refine db_ild hx hb hK hS 3 0 (bb_k 3 rfl) rfl w ew hw hn1 dX6_holderAwaitedBy_27 ?_
    exact hret _ _ _ _ _ _ hS (by rw [bb_hab, if_neg c15, ew, db_nIc hw hn1]) (rfl) dX6_holderAwaitedBy_28
  · refine lv_iconst (v := -1) hx hb dX6_holderAwaitedBy_18 (by decide) ?_
    refine lv_goto (tgt := 28) hx hb dX6_holderAwaitedBy_19 (by decide) ?_
    exact hret _ _ _ _ _ _ hS (by simp [bb_hab, c15]) (rfl) dX6_holderAwaitedBy_28

set_option maxHeartbeats 4000000 in
set_option maxRecDepth 100000 in
theorem c_X6_liveTasks (l : Launch) (Γ : db_G) (N : Nat → Nat) (L : Nat → Nat → Nat) (cnt : Nat) (X : db_X) (hN : bb_N N) : db_C l Γ yX6_liveTasks cX6_liveTasks 6 (some .int) (db_rm 0 0) [.ref (L 0 0)] L (bb_ok (N 0) cnt) (bb_cel Γ N L) X (some (.int (bb_liveTasks N X))) X := by
  have hn0 : N 0 < 2 ^ 31 := by have := hN.2.1; omega
  have hn1 : N 1 < 2 ^ 31 := by have := hN.2.2.1; omega
  have hn2 : N 2 < 2 ^ 31 := by have := hN.2.2.2.1; omega
  have hn3 : N 3 < 2 ^ 31 := by have := hN.2.2.2.2; omega
  refine db_introI (by decide +kernel) (Nat.le_of_ble_eq_true rfl) ?_
  intro p e s m args below meth c A Q ls hC hS hl hret
  have hC : db_Cx p s m args meth c Γ RX6 cX6_liveTasks 6 (some .int) := hC
  obtain ⟨hx, hb, hml, hr, hlocks, hown, hts, hK⟩ := id hC
  have hl : lv_has ls 6 [(0, .ref (L 0 0))] := hl
  refine lv_iconst (v := 0) hx hb dX6_liveTasks_0 (by decide) ?_
  refine lv_istore_n (lv' := [(1, .int 0), (0, .ref (L 0 0))]) hx hb dX6_liveTasks_1 rfl hl (by decide) rfl (fun ls hl => ?_)
  refine lv_aload_n hx hb dX6_liveTasks_2 rfl (lv_at hl 1 rfl) ?_
  refine db_get hx hb hts hown hK hS 0 0 (bb_k 0 rfl) rfl db_c6 0 (by decide) wd_172 rfl dX6_liveTasks_3 ?_
  refine lv_astore_n (lv' := [(2, .ref (L 11 0)), (1, .int 0), (0, .ref (L 0 0))]) hx hb dX6_liveTasks_6 rfl hl (by decide) rfl (fun ls hl => ?_)
  refine lv_aload_n hx hb dX6_liveTasks_7 rfl (lv_at hl 0 rfl) ?_
  refine db_alen hx hb hK hS 11 0 (bb_k 11 rfl) 2 rfl rfl dX6_liveTasks_8 ?_
  refine lv_istore_n (lv' := [(3, .int (nI (N 0))), (2, .ref (L 11 0)), (1, .int 0), (0, .ref (L 0 0))]) hx hb dX6_liveTasks_9 rfl hl (by decide) rfl (fun ls hl => ?_)
  refine lv_iconst (v := 0) hx hb dX6_liveTasks_10 (by decide) ?_
  refine lv_istore (lv' := [(4, .int 0), (3, .int (nI (N 0))), (2, .ref (L 11 0)), (1, .int 0), (0, .ref (L 0 0))]) hx hb dX6_liveTasks_11 hl (by decide) rfl (fun ls hl => ?_)
  have K13 : ∀ (q : Nat) (j : Nat) (acc : Int32) (hq : N 0 + 1 - j ≤ q) (hj0 : j ≤ N 0) (hacc : acc = db_cnt (fun j => decide (¬ X 1 j 1 = 0)) j) (H : Heap) (locs : List Loc) (hS : db_S Γ A s.heap L (bb_ok (N 0) cnt) (bb_cel Γ N L) X H locs) (ls : Array Slot) (hl : lv_has ls 6 [(0, .ref (L 0 0)), (2, .ref (L 11 0)), (3, .int (nI (N 0))), (4, .int (nI j)), (1, .int acc)]), W p l e (db_rm 0 0) s m args below meth c H locs 0 0 Q (F0 m 13 ls []) := by
    intro q13
    induction q13 with
    | zero =>
      intro j acc hq13 hj0 hacc
      exact absurd hq13 (by omega)
    | succ q13 ih13 =>
      intro j acc hq13 hj0 hacc H locs hS ls hl
      refine lv_iload hx hb dX6_liveTasks_13 (lv_at hl 3 rfl) ?_
      refine lv_iload_n hx hb dX6_liveTasks_15 rfl (lv_at hl 2 rfl) ?_
      refine lv_icmp_ge (tgt := 42) hx hb dX6_liveTasks_16 (by decide) (fun c16 => ?_) (fun c16 => ?_)
      · have hj : j = N 0 := by
          rcases Nat.lt_or_ge j (N 0) with q | q
          · exact absurd c16 (nI_ge q hn0)
          · omega
        subst hj
        refine lv_iload_n hx hb dX6_liveTasks_42 rfl (lv_at hl 4 rfl) ?_
        exact hret _ _ _ _ _ _ hS (by simp [bb_liveTasks, hacc]) (rfl) dX6_liveTasks_43
      · have hj : j < N 0 := by
          rcases Nat.lt_or_ge j (N 0) with q | q
          · exact q
          · exact absurd (nI_le q (by omega)) c16
        refine lv_aload_n hx hb dX6_liveTasks_19 rfl (lv_at hl 1 rfl) ?_
        refine lv_iload hx hb dX6_liveTasks_20 (lv_at hl 3 rfl) ?_
        refine db_ald hx hb hK hS 11 0 (bb_k 11 rfl) 2 rfl rfl j rfl hj hn0 rfl dX6_liveTasks_22 ?_
        refine lv_astore (lv' := [(5, .ref (L 1 j)), (0, .ref (L 0 0)), (2, .ref (L 11 0)), (3, .int (nI (N 0))), (4, .int (nI j)), (1, .int acc)]) hx hb dX6_liveTasks_23 hl (by decide) rfl (fun ls hl => ?_)
        refine lv_aload hx hb dX6_liveTasks_25 (lv_at hl 0 rfl) ?_
        refine db_getN hx hb hts hown hK hS 1 j (bb_kT hj) rfl db_c5 1 (by decide) wn_73 rfl dX6_liveTasks_27 ?_
        refine lv_if_eq (tgt := 36) hx hb dX6_liveTasks_30 (by decide) (fun c30 => ?_) (fun c30 => ?_)
        · refine lv_iinc (v := (nI (j + 1))) (lv' := [(4, .int (nI (j + 1))), (5, .ref (L 1 j)), (0, .ref (L 0 0)), (2, .ref (L 11 0)), (3, .int (nI (N 0))), (1, .int acc)]) hx hb dX6_liveTasks_36 hl (k := 4) rfl (nI_1 _) (by decide) rfl (fun ls hl => ?_)
          refine lv_goto (tgt := 13) hx hb dX6_liveTasks_39 (by decide) ?_
          exact ih13 (j + 1) acc (by omega) hj (by simp [db_cnt, hacc, c16, c30]) _ _ hS _ (lv_sub hl [2, 3, 4, 0, 5] rfl)
        · refine lv_iinc (v := (acc + 1)) (lv' := [(1, .int (acc + 1)), (5, .ref (L 1 j)), (0, .ref (L 0 0)), (2, .ref (L 11 0)), (3, .int (nI (N 0))), (4, .int (nI j))]) hx hb dX6_liveTasks_33 hl (k := 5) rfl rfl (by decide) rfl (fun ls hl => ?_)
          refine lv_iinc (v := (nI (j + 1))) (lv' := [(4, .int (nI (j + 1))), (1, .int (acc + 1)), (5, .ref (L 1 j)), (0, .ref (L 0 0)), (2, .ref (L 11 0)), (3, .int (nI (N 0)))]) hx hb dX6_liveTasks_36 hl (k := 5) rfl (nI_1 _) (by decide) rfl (fun ls hl => ?_)
          refine lv_goto (tgt := 13) hx hb dX6_liveTasks_39 (by decide) ?_
          exact ih13 (j + 1) (acc + 1) (by omega) hj (by simp [db_cnt, hacc, c16, c30]) _ _ hS _ (lv_sub hl [3, 4, 5, 0, 1] rfl)
  exact K13 _ 0 0 (Nat.le_refl _) (Nat.zero_le _) rfl _ _ hS _ (lv_sub hl [4, 2, 1, 0, 3] rfl)

set_option maxHeartbeats 4000000 in
set_option maxRecDepth 100000 in
theorem c_X6_pendingJobs (l : Launch) (Γ : db_G) (N : Nat → Nat) (L : Nat → Nat → Nat) (cnt : Nat) (X : db_X) (hN : bb_N N) : db_C l Γ yX6_pendingJobs cX6_pendingJobs 6 (some .int) (db_rm 0 0) [.ref (L 0 0)] L (bb_ok (N 0) cnt) (bb_cel Γ N L) X (some (.int (bb_pendingJobs N X))) X := by
  have hn0 : N 0 < 2 ^ 31 := by have := hN.2.1; omega
  have hn1 : N 1 < 2 ^ 31 := by have := hN.2.2.1; omega
  have hn2 : N 2 < 2 ^ 31 := by have := hN.2.2.2.1; omega
  have hn3 : N 3 < 2 ^ 31 := by have := hN.2.2.2.2; omega
  refine db_introI (by decide +kernel) (Nat.le_of_ble_eq_true rfl) ?_
  intro p e s m args below meth c A Q ls hC hS hl hret
  have hC : db_Cx p s m args meth c Γ RX6 cX6_pendingJobs 6 (some .int) := hC
  obtain ⟨hx, hb, hml, hr, hlocks, hown, hts, hK⟩ := id hC
  have hl : lv_has ls 6 [(0, .ref (L 0 0))] := hl
  refine lv_iconst (v := 0) hx hb dX6_pendingJobs_0 (by decide) ?_
  refine lv_istore_n (lv' := [(1, .int 0), (0, .ref (L 0 0))]) hx hb dX6_pendingJobs_1 rfl hl (by decide) rfl (fun ls hl => ?_)
  refine lv_aload_n hx hb dX6_pendingJobs_2 rfl (lv_at hl 1 rfl) ?_
  refine db_get hx hb hts hown hK hS 0 0 (bb_k 0 rfl) rfl db_c6 0 (by decide) wd_172 rfl dX6_pendingJobs_3 ?_
  refine lv_astore_n (lv' := [(2, .ref (L 11 0)), (1, .int 0), (0, .ref (L 0 0))]) hx hb dX6_pendingJobs_6 rfl hl (by decide) rfl (fun ls hl => ?_)
  refine lv_aload_n hx hb dX6_pendingJobs_7 rfl (lv_at hl 0 rfl) ?_
  refine db_alen hx hb hK hS 11 0 (bb_k 11 rfl) 2 rfl rfl dX6_pendingJobs_8 ?_
  refine lv_istore_n (lv' := [(3, .int (nI (N 0))), (2, .ref (L 11 0)), (1, .int 0), (0, .ref (L 0 0))]) hx hb dX6_pendingJobs_9 rfl hl (by decide) rfl (fun ls hl => ?_)
  refine lv_iconst (v := 0) hx hb dX6_pendingJobs_10 (by decide) ?_
  refine lv_istore (lv' := [(4, .int 0), (3, .int (nI (N 0))), (2, .ref (L 11 0)), (1, .int 0), (0, .ref (L 0 0))]) hx hb dX6_pendingJobs_11 hl (by decide) rfl (fun ls hl => ?_)
  have K13 : ∀ (q : Nat) (j : Nat) (acc : Int32) (hq : N 0 + 1 - j ≤ q) (hj0 : j ≤ N 0) (hacc : acc = db_cnt (fun j => decide (¬ X 2 j 0 = 0)) j) (H : Heap) (locs : List Loc) (hS : db_S Γ A s.heap L (bb_ok (N 0) cnt) (bb_cel Γ N L) X H locs) (ls : Array Slot) (hl : lv_has ls 6 [(0, .ref (L 0 0)), (2, .ref (L 11 0)), (3, .int (nI (N 0))), (4, .int (nI j)), (1, .int acc)]), W p l e (db_rm 0 0) s m args below meth c H locs 0 0 Q (F0 m 13 ls []) := by
    intro q13
    induction q13 with
    | zero =>
      intro j acc hq13 hj0 hacc
      exact absurd hq13 (by omega)
    | succ q13 ih13 =>
      intro j acc hq13 hj0 hacc H locs hS ls hl
      refine lv_iload hx hb dX6_pendingJobs_13 (lv_at hl 3 rfl) ?_
      refine lv_iload_n hx hb dX6_pendingJobs_15 rfl (lv_at hl 2 rfl) ?_
      refine lv_icmp_ge (tgt := 45) hx hb dX6_pendingJobs_16 (by decide) (fun c16 => ?_) (fun c16 => ?_)
      · have hj : j = N 0 := by
          rcases Nat.lt_or_ge j (N 0) with q | q
          · exact absurd c16 (nI_ge q hn0)
          · omega
        subst hj
        refine lv_iload_n hx hb dX6_pendingJobs_45 rfl (lv_at hl 4 rfl) ?_
        exact hret _ _ _ _ _ _ hS (by simp [bb_pendingJobs, hacc]) (rfl) dX6_pendingJobs_46
      · have hj : j < N 0 := by
          rcases Nat.lt_or_ge j (N 0) with q | q
          · exact q
          · exact absurd (nI_le q (by omega)) c16
        refine lv_aload_n hx hb dX6_pendingJobs_19 rfl (lv_at hl 1 rfl) ?_
        refine lv_iload hx hb dX6_pendingJobs_20 (lv_at hl 3 rfl) ?_
        refine db_ald hx hb hK hS 11 0 (bb_k 11 rfl) 2 rfl rfl j rfl hj hn0 rfl dX6_pendingJobs_22 ?_
        refine lv_astore (lv' := [(5, .ref (L 1 j)), (0, .ref (L 0 0)), (2, .ref (L 11 0)), (3, .int (nI (N 0))), (4, .int (nI j)), (1, .int acc)]) hx hb dX6_pendingJobs_23 hl (by decide) rfl (fun ls hl => ?_)
        refine lv_aload hx hb dX6_pendingJobs_25 (lv_at hl 0 rfl) ?_
        refine db_getN hx hb hts hown hK hS 1 j (bb_kT hj) rfl db_c5 0 (by decide) wn_71 rfl dX6_pendingJobs_27 ?_
        refine db_getN hx hb hts hown hK hS 2 j (bb_kJ hj) rfl db_c0 0 (by decide) wn_42 rfl dX6_pendingJobs_30 ?_
        refine lv_if_eq (tgt := 39) hx hb dX6_pendingJobs_33 (by decide) (fun c33 => ?_) (fun c33 => ?_)
        · refine lv_iinc (v := (nI (j + 1))) (lv' := [(4, .int (nI (j + 1))), (5, .ref (L 1 j)), (0, .ref (L 0 0)), (2, .ref (L 11 0)), (3, .int (nI (N 0))), (1, .int acc)]) hx hb dX6_pendingJobs_39 hl (k := 4) rfl (nI_1 _) (by decide) rfl (fun ls hl => ?_)
          refine lv_goto (tgt := 13) hx hb dX6_pendingJobs_42 (by decide) ?_
          exact ih13 (j + 1) acc (by omega) hj (by simp [db_cnt, hacc, c16, c33]) _ _ hS _ (lv_sub hl [2, 3, 4, 0, 5] rfl)
        · refine lv_iinc (v := (acc + 1)) (lv' := [(1, .int (acc + 1)), (5, .ref (L 1 j)), (0, .ref (L 0 0)), (2, .ref (L 11 0)), (3, .int (nI (N 0))), (4, .int (nI j))]) hx hb dX6_pendingJobs_36 hl (k := 5) rfl rfl (by decide) rfl (fun ls hl => ?_)
          refine lv_iinc (v := (nI (j + 1))) (lv' := [(4, .int (nI (j + 1))), (1, .int (acc + 1)), (5, .ref (L 1 j)), (0, .ref (L 0 0)), (2, .ref (L 11 0)), (3, .int (nI (N 0)))]) hx hb dX6_pendingJobs_39 hl (k := 5) rfl (nI_1 _) (by decide) rfl (fun ls hl => ?_)
          refine lv_goto (tgt := 13) hx hb dX6_pendingJobs_42 (by decide) ?_
          exact ih13 (j + 1) (acc + 1) (by omega) hj (by simp [db_cnt, hacc, c16, c33]) _ _ hS _ (lv_sub hl [3, 4, 5, 0, 1] rfl)
  exact K13 _ 0 0 (Nat.le_refl _) (Nat.zero_le _) rfl _ _ hS _ (lv_sub hl [4, 2, 1, 0, 3] rfl)

set_option maxHeartbeats 4000000 in
set_option maxRecDepth 100000 in
theorem c_X6_heldLocks (l : Launch) (Γ : db_G) (N : Nat → Nat) (L : Nat → Nat → Nat) (cnt : Nat) (X : db_X) (hN : bb_N N) : db_C l Γ yX6_heldLocks cX6_heldLocks 6 (some .int) (db_rm 0 0) [.ref (L 0 0)] L (bb_ok (N 0) cnt) (bb_cel Γ N L) X (some (.int (bb_heldLocks N X))) X := by
  have hn0 : N 0 < 2 ^ 31 := by have := hN.2.1; omega
  have hn1 : N 1 < 2 ^ 31 := by have := hN.2.2.1; omega
  have hn2 : N 2 < 2 ^ 31 := by have := hN.2.2.2.1; omega
  have hn3 : N 3 < 2 ^ 31 := by have := hN.2.2.2.2; omega
  refine db_introI (by decide +kernel) (Nat.le_of_ble_eq_true rfl) ?_
  intro p e s m args below meth c A Q ls hC hS hl hret
  have hC : db_Cx p s m args meth c Γ RX6 cX6_heldLocks 6 (some .int) := hC
  obtain ⟨hx, hb, hml, hr, hlocks, hown, hts, hK⟩ := id hC
  have hl : lv_has ls 6 [(0, .ref (L 0 0))] := hl
  refine lv_iconst (v := 0) hx hb dX6_heldLocks_0 (by decide) ?_
  refine lv_istore_n (lv' := [(1, .int 0), (0, .ref (L 0 0))]) hx hb dX6_heldLocks_1 rfl hl (by decide) rfl (fun ls hl => ?_)
  refine lv_aload_n hx hb dX6_heldLocks_2 rfl (lv_at hl 1 rfl) ?_
  refine db_get hx hb hts hown hK hS 0 0 (bb_k 0 rfl) rfl db_c6 1 (by decide) wd_173 rfl dX6_heldLocks_3 ?_
  refine lv_astore_n (lv' := [(2, .ref (L 3 0)), (1, .int 0), (0, .ref (L 0 0))]) hx hb dX6_heldLocks_6 rfl hl (by decide) rfl (fun ls hl => ?_)
  refine lv_aload_n hx hb dX6_heldLocks_7 rfl (lv_at hl 0 rfl) ?_
  refine db_alen hx hb hK hS 3 0 (bb_k 3 rfl) 0 rfl rfl dX6_heldLocks_8 ?_
  refine lv_istore_n (lv' := [(3, .int (nI (N 1))), (2, .ref (L 3 0)), (1, .int 0), (0, .ref (L 0 0))]) hx hb dX6_heldLocks_9 rfl hl (by decide) rfl (fun ls hl => ?_)
  refine lv_iconst (v := 0) hx hb dX6_heldLocks_10 (by decide) ?_
  refine lv_istore (lv' := [(4, .int 0), (3, .int (nI (N 1))), (2, .ref (L 3 0)), (1, .int 0), (0, .ref (L 0 0))]) hx hb dX6_heldLocks_11 hl (by decide) rfl (fun ls hl => ?_)
  have K13 : ∀ (q : Nat) (j : Nat) (acc : Int32) (hq : N 1 + 1 - j ≤ q) (hj0 : j ≤ N 1) (hacc : acc = db_cnt (fun j => decide (¬ X 3 0 j = -1)) j) (H : Heap) (locs : List Loc) (hS : db_S Γ A s.heap L (bb_ok (N 0) cnt) (bb_cel Γ N L) X H locs) (ls : Array Slot) (hl : lv_has ls 6 [(0, .ref (L 0 0)), (2, .ref (L 3 0)), (3, .int (nI (N 1))), (4, .int (nI j)), (1, .int acc)]), W p l e (db_rm 0 0) s m args below meth c H locs 0 0 Q (F0 m 13 ls []) := by
    intro q13
    induction q13 with
    | zero =>
      intro j acc hq13 hj0 hacc
      exact absurd hq13 (by omega)
    | succ q13 ih13 =>
      intro j acc hq13 hj0 hacc H locs hS ls hl
      refine lv_iload hx hb dX6_heldLocks_13 (lv_at hl 3 rfl) ?_
      refine lv_iload_n hx hb dX6_heldLocks_15 rfl (lv_at hl 2 rfl) ?_
      refine lv_icmp_ge (tgt := 40) hx hb dX6_heldLocks_16 (by decide) (fun c16 => ?_) (fun c16 => ?_)
      · have hj : j = N 1 := by
          rcases Nat.lt_or_ge j (N 1) with q | q
          · exact absurd c16 (nI_ge q hn1)
          · omega
        subst hj
        refine lv_iload_n hx hb dX6_heldLocks_40 rfl (lv_at hl 4 rfl) ?_
        exact hret _ _ _ _ _ _ hS (by simp [bb_heldLocks, hacc]) (rfl) dX6_heldLocks_41
      · have hj : j < N 1 := by
          rcases Nat.lt_or_ge j (N 1) with q | q
          · exact q
          · exact absurd (nI_le q (by omega)) c16
        refine lv_aload_n hx hb dX6_heldLocks_19 rfl (lv_at hl 1 rfl) ?_
        refine lv_iload hx hb dX6_heldLocks_20 (lv_at hl 3 rfl) ?_
        refine db_ild hx hb hK hS 3 0 (bb_k 3 rfl) rfl j rfl hj hn1 dX6_heldLocks_22 ?_
        refine lv_istore (lv' := [(5, .int (X 3 0 j)), (0, .ref (L 0 0)), (2, .ref (L 3 0)), (3, .int (nI (N 1))), (4, .int (nI j)), (1, .int acc)]) hx hb dX6_heldLocks_23 hl (by decide) rfl (fun ls hl => ?_)
        refine lv_iload hx hb dX6_heldLocks_25 (lv_at hl 0 rfl) ?_
        refine lv_iconst (v := -1) hx hb dX6_heldLocks_27 (by decide) ?_
        refine lv_icmp_eq (tgt := 34) hx hb dX6_heldLocks_28 (by decide) (fun c28 => ?_) (fun c28 => ?_)
        · refine lv_iinc (v := (nI (j + 1))) (lv' := [(4, .int (nI (j + 1))), (5, .int (X 3 0 j)), (0, .ref (L 0 0)), (2, .ref (L 3 0)), (3, .int (nI (N 1))), (1, .int acc)]) hx hb dX6_heldLocks_34 hl (k := 4) rfl (nI_1 _) (by decide) rfl (fun ls hl => ?_)
          refine lv_goto (tgt := 13) hx hb dX6_heldLocks_37 (by decide) ?_
          exact ih13 (j + 1) acc (by omega) hj (by simp [db_cnt, hacc, c16, c28]) _ _ hS _ (lv_sub hl [2, 3, 4, 0, 5] rfl)
        · refine lv_iinc (v := (acc + 1)) (lv' := [(1, .int (acc + 1)), (5, .int (X 3 0 j)), (0, .ref (L 0 0)), (2, .ref (L 3 0)), (3, .int (nI (N 1))), (4, .int (nI j))]) hx hb dX6_heldLocks_31 hl (k := 5) rfl rfl (by decide) rfl (fun ls hl => ?_)
          refine lv_iinc (v := (nI (j + 1))) (lv' := [(4, .int (nI (j + 1))), (1, .int (acc + 1)), (5, .int (X 3 0 j)), (0, .ref (L 0 0)), (2, .ref (L 3 0)), (3, .int (nI (N 1)))]) hx hb dX6_heldLocks_34 hl (k := 5) rfl (nI_1 _) (by decide) rfl (fun ls hl => ?_)
          refine lv_goto (tgt := 13) hx hb dX6_heldLocks_37 (by decide) ?_
          exact ih13 (j + 1) (acc + 1) (by omega) hj (by simp [db_cnt, hacc, c16, c28]) _ _ hS _ (lv_sub hl [3, 4, 5, 0, 1] rfl)
  exact K13 _ 0 0 (Nat.le_refl _) (Nat.zero_le _) rfl _ _ hS _ (lv_sub hl [4, 2, 1, 0, 3] rfl)
end
section
set_option maxHeartbeats 4000000 in
set_option maxRecDepth 100000 in
theorem c_X0_begin (l : Launch) (Γ : db_G) (N : Nat → Nat) (L : Nat → Nat → Nat) (cnt : Nat) (X : db_X) (hN : bb_N N) (r : Int32) (d : Int32) (i : Nat) (hi : i < N 0) : db_C l Γ yX0_begin cX0_begin 3 (none) (db_rm 0 0) [.ref (L 2 i), .int r, .int d] L (bb_ok (N 0) cnt) (bb_cel Γ N L) X none (bb_begin X i r d) := by
  have hn0 : N 0 < 2 ^ 31 := by have := hN.2.1; omega
  have hn1 : N 1 < 2 ^ 31 := by have := hN.2.2.1; omega
  have hn2 : N 2 < 2 ^ 31 := by have := hN.2.2.2.1; omega
  have hn3 : N 3 < 2 ^ 31 := by have := hN.2.2.2.2; omega
  refine db_introV (by decide +kernel) (Nat.le_of_ble_eq_true rfl) ?_
  intro p e s m args below meth c A Q ls hC hS hl hret
  have hC : db_Cx p s m args meth c Γ RX0 cX0_begin 3 (none) := hC
  obtain ⟨hx, hb, hml, hr, hlocks, hown, hts, hK⟩ := id hC
  have hl : lv_has ls 3 [(0, .ref (L 2 i)), (1, .int r), (2, .int d)] := hl
  refine lv_aload_n hx hb dX0_begin_0 rfl (lv_at hl 0 rfl) ?_
  refine lv_iconst (v := 1) hx hb dX0_begin_1 (by decide) ?_
  refine db_put hx hb hts hown hK hS 2 i (bb_kJ hi) rfl db_c0 0 (by decide) wd_41 rfl (db_nz (Or.inr rfl)) (db_fz (Or.inr rfl)) (Nat.le_of_ble_eq_true rfl) rfl dX0_begin_2 (fun H locs hS => ?_)
  obtain ⟨X1, eX1⟩ : ∃ z, z = db_up X 2 i 0 1 := ⟨_, rfl⟩
  rw [← eX1] at hS
  refine lv_aload_n hx hb dX0_begin_5 rfl (lv_at hl 0 rfl) ?_
  refine lv_iload_n hx hb dX0_begin_6 rfl (lv_at hl 1 rfl) ?_
  refine db_put hx hb hts hown hK hS 2 i (bb_kJ hi) rfl db_c0 1 (by decide) wd_44 rfl rfl rfl (Nat.le_of_ble_eq_true rfl) rfl dX0_begin_7 (fun H locs hS => ?_)
  obtain ⟨X2, eX2⟩ : ∃ z, z = db_up X1 2 i 1 r := ⟨_, rfl⟩
  rw [← eX2] at hS
  refine lv_aload_n hx hb dX0_begin_10 rfl (lv_at hl 0 rfl) ?_
  refine lv_iload_n hx hb dX0_begin_11 rfl (lv_at hl 2 rfl) ?_
  refine db_put hx hb hts hown hK hS 2 i (bb_kJ hi) rfl db_c0 2 (by decide) wd_46 rfl rfl rfl (Nat.le_of_ble_eq_true rfl) rfl dX0_begin_12 (fun H locs hS => ?_)
  obtain ⟨X3, eX3⟩ : ∃ z, z = db_up X2 2 i 2 d := ⟨_, rfl⟩
  rw [← eX3] at hS
  refine lv_aload_n hx hb dX0_begin_15 rfl (lv_at hl 0 rfl) ?_
  refine lv_iconst (v := 0) hx hb dX0_begin_16 (by decide) ?_
  refine db_put hx hb hts hown hK hS 2 i (bb_kJ hi) rfl db_c0 3 (by decide) wd_48 rfl rfl rfl (Nat.le_of_ble_eq_true rfl) rfl dX0_begin_17 (fun H locs hS => ?_)
  obtain ⟨X4, eX4⟩ : ∃ z, z = db_up X3 2 i 3 0 := ⟨_, rfl⟩
  rw [← eX4] at hS
  refine lv_aload_n hx hb dX0_begin_20 rfl (lv_at hl 0 rfl) ?_
  refine lv_iconst (v := -1) hx hb dX0_begin_21 (by decide) ?_
  refine db_put hx hb hts hown hK hS 2 i (bb_kJ hi) rfl db_c0 4 (by decide) wd_50 rfl rfl rfl (Nat.le_of_ble_eq_true rfl) rfl dX0_begin_22 (fun H locs hS => ?_)
  obtain ⟨X5, eX5⟩ : ∃ z, z = db_up X4 2 i 4 (-1) := ⟨_, rfl⟩
  rw [← eX5] at hS
  refine lv_aload_n hx hb dX0_begin_25 rfl (lv_at hl 0 rfl) ?_
  refine lv_iconst (v := 0) hx hb dX0_begin_26 (by decide) ?_
  refine db_put hx hb hts hown hK hS 2 i (bb_kJ hi) rfl db_c0 6 (by decide) wd_53 rfl (db_nz (Or.inl rfl)) (db_fz (Or.inl rfl)) (Nat.le_of_ble_eq_true rfl) rfl dX0_begin_27 (fun H locs hS => ?_)
  obtain ⟨X6, eX6⟩ : ∃ z, z = db_up X5 2 i 6 0 := ⟨_, rfl⟩
  rw [← eX6] at hS
  exact hret _ _ _ _ _ hS (by rw [eX6, eX5, eX4, eX3, eX2, eX1]; rfl) dX0_begin_30

set_option maxHeartbeats 4000000 in
set_option maxRecDepth 100000 in
theorem c_X5_enter (l : Launch) (Γ : db_G) (N : Nat → Nat) (L : Nat → Nat → Nat) (cnt : Nat) (X : db_X) (hN : bb_N N) (p1 : Int32) (w : Int32) (d : Int32) (n : Int32) (i : Nat) (hi : i < N 0) : db_C l Γ yX5_enter cX5_enter 5 (none) (db_rm 0 0) [.ref (L 1 i), .int p1, .int w, .int d, .int n] L (bb_ok (N 0) cnt) (bb_cel Γ N L) X none (bb_enter X i p1 w d n) := by
  have hn0 : N 0 < 2 ^ 31 := by have := hN.2.1; omega
  have hn1 : N 1 < 2 ^ 31 := by have := hN.2.2.1; omega
  have hn2 : N 2 < 2 ^ 31 := by have := hN.2.2.2.1; omega
  have hn3 : N 3 < 2 ^ 31 := by have := hN.2.2.2.2; omega
  refine db_introV (by decide +kernel) (Nat.le_of_ble_eq_true rfl) ?_
  intro p e s m args below meth c A Q ls hC hS hl hret
  have hC : db_Cx p s m args meth c Γ RX5 cX5_enter 5 (none) := hC
  obtain ⟨hx, hb, hml, hr, hlocks, hown, hts, hK⟩ := id hC
  have hl : lv_has ls 5 [(0, .ref (L 1 i)), (1, .int p1), (2, .int w), (3, .int d), (4, .int n)] := hl
  refine lv_aload_n hx hb dX5_enter_0 rfl (lv_at hl 0 rfl) ?_
  refine lv_iconst (v := 1) hx hb dX5_enter_1 (by decide) ?_
  refine db_put hx hb hts hown hK hS 1 i (bb_kT hi) rfl db_c5 1 (by decide) wd_72 rfl (db_nz (Or.inr rfl)) (db_fz (Or.inr rfl)) (Nat.le_of_ble_eq_true rfl) rfl dX5_enter_2 (fun H locs hS => ?_)
  obtain ⟨X1, eX1⟩ : ∃ z, z = db_up X 1 i 1 1 := ⟨_, rfl⟩
  rw [← eX1] at hS
  refine lv_aload_n hx hb dX5_enter_5 rfl (lv_at hl 0 rfl) ?_
  refine lv_iload_n hx hb dX5_enter_6 rfl (lv_at hl 1 rfl) ?_
  refine db_put hx hb hts hown hK hS 1 i (bb_kT hi) rfl db_c5 2 (by decide) wd_74 rfl rfl rfl (Nat.le_of_ble_eq_true rfl) rfl dX5_enter_7 (fun H locs hS => ?_)
  obtain ⟨X2, eX2⟩ : ∃ z, z = db_up X1 1 i 2 p1 := ⟨_, rfl⟩
  rw [← eX2] at hS
  refine lv_aload_n hx hb dX5_enter_10 rfl (lv_at hl 0 rfl) ?_
  refine lv_iload_n hx hb dX5_enter_11 rfl (lv_at hl 2 rfl) ?_
  refine db_put hx hb hts hown hK hS 1 i (bb_kT hi) rfl db_c5 3 (by decide) wd_76 rfl rfl rfl (Nat.le_of_ble_eq_true rfl) rfl dX5_enter_12 (fun H locs hS => ?_)
  obtain ⟨X3, eX3⟩ : ∃ z, z = db_up X2 1 i 3 w := ⟨_, rfl⟩
  rw [← eX3] at hS
  refine lv_aload_n hx hb dX5_enter_15 rfl (lv_at hl 0 rfl) ?_
  refine lv_iload_n hx hb dX5_enter_16 rfl (lv_at hl 3 rfl) ?_
  refine db_put hx hb hts hown hK hS 1 i (bb_kT hi) rfl db_c5 4 (by decide) wd_78 rfl rfl rfl (Nat.le_of_ble_eq_true rfl) rfl dX5_enter_17 (fun H locs hS => ?_)
  obtain ⟨X4, eX4⟩ : ∃ z, z = db_up X3 1 i 4 d := ⟨_, rfl⟩
  rw [← eX4] at hS
  refine lv_aload_n hx hb dX5_enter_20 rfl (lv_at hl 0 rfl) ?_
  refine lv_iload hx hb dX5_enter_21 (lv_at hl 4 rfl) ?_
  refine db_put hx hb hts hown hK hS 1 i (bb_kT hi) rfl db_c5 5 (by decide) wd_80 rfl rfl rfl (Nat.le_of_ble_eq_true rfl) rfl dX5_enter_23 (fun H locs hS => ?_)
  obtain ⟨X5, eX5⟩ : ∃ z, z = db_up X4 1 i 5 n := ⟨_, rfl⟩
  rw [← eX5] at hS
  refine lv_aload_n hx hb dX5_enter_26 rfl (lv_at hl 0 rfl) ?_
  refine lv_iconst (v := 0) hx hb dX5_enter_27 (by decide) ?_
  refine db_put hx hb hts hown hK hS 1 i (bb_kT hi) rfl db_c5 6 (by decide) wd_82 rfl rfl rfl (Nat.le_of_ble_eq_true rfl) rfl dX5_enter_28 (fun H locs hS => ?_)
  obtain ⟨X6, eX6⟩ : ∃ z, z = db_up X5 1 i 6 0 := ⟨_, rfl⟩
  rw [← eX6] at hS
  refine lv_aload_n hx hb dX5_enter_31 rfl (lv_at hl 0 rfl) ?_
  refine lv_iconst (v := 0) hx hb dX5_enter_32 (by decide) ?_
  refine db_put hx hb hts hown hK hS 1 i (bb_kT hi) rfl db_c5 7 (by decide) wd_84 rfl rfl rfl (Nat.le_of_ble_eq_true rfl) rfl dX5_enter_33 (fun H locs hS => ?_)
  obtain ⟨X7, eX7⟩ : ∃ z, z = db_up X6 1 i 7 0 := ⟨_, rfl⟩
  rw [← eX7] at hS
  refine lv_aload_n hx hb dX5_enter_36 rfl (lv_at hl 0 rfl) ?_
  refine lv_iconst (v := 0) hx hb dX5_enter_37 (by decide) ?_
  refine db_put hx hb hts hown hK hS 1 i (bb_kT hi) rfl db_c5 8 (by decide) wd_86 rfl rfl rfl (Nat.le_of_ble_eq_true rfl) rfl dX5_enter_38 (fun H locs hS => ?_)
  obtain ⟨X8, eX8⟩ : ∃ z, z = db_up X7 1 i 8 0 := ⟨_, rfl⟩
  rw [← eX8] at hS
  refine lv_aload_n hx hb dX5_enter_41 rfl (lv_at hl 0 rfl) ?_
  refine lv_iconst (v := 0) hx hb dX5_enter_42 (by decide) ?_
  refine db_put hx hb hts hown hK hS 1 i (bb_kT hi) rfl db_c5 9 (by decide) wd_88 rfl rfl rfl (Nat.le_of_ble_eq_true rfl) rfl dX5_enter_43 (fun H locs hS => ?_)
  obtain ⟨X9, eX9⟩ : ∃ z, z = db_up X8 1 i 9 0 := ⟨_, rfl⟩
  rw [← eX9] at hS
  refine lv_aload_n hx hb dX5_enter_46 rfl (lv_at hl 0 rfl) ?_
  refine lv_iconst (v := 0) hx hb dX5_enter_47 (by decide) ?_
  refine db_put hx hb hts hown hK hS 1 i (bb_kT hi) rfl db_c5 10 (by decide) wd_90 rfl rfl rfl (Nat.le_of_ble_eq_true rfl) rfl dX5_enter_48 (fun H locs hS => ?_)
  obtain ⟨X10, eX10⟩ : ∃ z, z = db_up X9 1 i 10 0 := ⟨_, rfl⟩
  rw [← eX10] at hS
  refine lv_aload_n hx hb dX5_enter_51 rfl (lv_at hl 0 rfl) ?_
  refine lv_iconst (v := 0) hx hb dX5_enter_52 (by decide) ?_
  refine db_put hx hb hts hown hK hS 1 i (bb_kT hi) rfl db_c5 11 (by decide) wd_92 rfl rfl rfl (Nat.le_of_ble_eq_true rfl) rfl dX5_enter_53 (fun H locs hS => ?_)
  obtain ⟨X11, eX11⟩ : ∃ z, z = db_up X10 1 i 11 0 := ⟨_, rfl⟩
  rw [← eX11] at hS
  exact hret _ _ _ _ _ hS (by rw [eX11, eX10, eX9, eX8, eX7, eX6, eX5, eX4, eX3, eX2, eX1]; rfl) dX5_enter_56

set_option maxHeartbeats 4000000 in
set_option maxRecDepth 100000 in
theorem c_X5_releaseJob (l : Launch) (Γ : db_G) (N : Nat → Nat) (L : Nat → Nat → Nat) (cnt : Nat) (X : db_X) (hN : bb_N N) (i : Nat) (hi : i < N 0) : db_C l Γ yX5_releaseJob cX5_releaseJob 1 (none) (db_rm 1 22) [.ref (L 1 i)] L (bb_ok (N 0) cnt) (bb_cel Γ N L) X none (bb_rel X i) := by
  have hn0 : N 0 < 2 ^ 31 := by have := hN.2.1; omega
  have hn1 : N 1 < 2 ^ 31 := by have := hN.2.2.1; omega
  have hn2 : N 2 < 2 ^ 31 := by have := hN.2.2.2.1; omega
  have hn3 : N 3 < 2 ^ 31 := by have := hN.2.2.2.2; omega
  refine db_introV (by decide +kernel) (Nat.le_of_ble_eq_true rfl) ?_
  intro p e s m args below meth c A Q ls hC hS hl hret
  have hC : db_Cx p s m args meth c Γ RX5 cX5_releaseJob 1 (none) := hC
  obtain ⟨hx, hb, hml, hr, hlocks, hown, hts, hK⟩ := id hC
  have hl : lv_has ls 1 [(0, .ref (L 1 i))] := hl
  refine lv_aload_n hx hb dX5_releaseJob_0 rfl (lv_at hl 0 rfl) ?_
  refine db_get hx hb hts hown hK hS 1 i (bb_kT hi) rfl db_c5 0 (by decide) wd_70 rfl dX5_releaseJob_1 ?_
  refine lv_aload_n hx hb dX5_releaseJob_4 rfl (lv_at hl 0 rfl) ?_
  refine db_get hx hb hts hown hK hS 1 i (bb_kT hi) rfl db_c5 5 (by decide) wd_80 rfl dX5_releaseJob_5 ?_
  refine lv_aload_n hx hb dX5_releaseJob_8 rfl (lv_at hl 0 rfl) ?_
  refine db_get hx hb hts hown hK hS 1 i (bb_kT hi) rfl db_c5 5 (by decide) wd_80 rfl dX5_releaseJob_9 ?_
  refine lv_aload_n hx hb dX5_releaseJob_12 rfl (lv_at hl 0 rfl) ?_
  refine db_get hx hb hts hown hK hS 1 i (bb_kT hi) rfl db_c5 4 (by decide) wd_78 rfl dX5_releaseJob_13 ?_
  refine lv_iadd hx hb dX5_releaseJob_16 ?_
  refine db_cVN (As := [.int (X 1 i 5), .int ((X 1 i 5) + (X 1 i 4))]) (rest := []) (st1 := []) hC hS 2 i (bb_kJ hi) rfl db_c0 (c_X0_begin l Γ N L cnt X hN (X 1 i 5) ((X 1 i 5) + (X 1 i 4)) i hi) (cw_X0_begin (Nat.le_of_ble_eq_true rfl) (Nat.le_of_ble_eq_true rfl)) wn_324 wd_326 ws_20 rfl hl.1 rfl (Nat.le_of_ble_eq_true rfl) dX5_releaseJob_17 ⟨Nat.le_of_ble_eq_true rfl, Nat.le_of_ble_eq_true rfl⟩ rfl (fun H locs hS => ?_)
  obtain ⟨X1, eX1⟩ : ∃ z, z = bb_begin X i (X 1 i 5) ((X 1 i 5) + (X 1 i 4)) := ⟨_, rfl⟩
  rw [← eX1] at hS
  refine lv_aload_n hx hb dX5_releaseJob_20 rfl (lv_at hl 0 rfl) ?_
  refine lv_dup hx hb dX5_releaseJob_21 rfl ?_
  refine db_get hx hb hts hown hK hS 1 i (bb_kT hi) rfl db_c5 6 (by decide) wd_82 rfl dX5_releaseJob_22 ?_
  refine lv_iconst (v := 1) hx hb dX5_releaseJob_25 (by decide) ?_
  refine lv_iadd hx hb dX5_releaseJob_26 ?_
  refine db_put hx hb hts hown hK hS 1 i (bb_kT hi) rfl db_c5 6 (by decide) wd_82 rfl rfl rfl (Nat.le_of_ble_eq_true rfl) rfl dX5_releaseJob_27 (fun H locs hS => ?_)
  obtain ⟨X2, eX2⟩ : ∃ z, z = db_up X1 1 i 6 ((X1 1 i 6) + 1) := ⟨_, rfl⟩
  rw [← eX2] at hS
  refine lv_aload_n hx hb dX5_releaseJob_30 rfl (lv_at hl 0 rfl) ?_
  refine lv_dup hx hb dX5_releaseJob_31 rfl ?_
  refine db_get hx hb hts hown hK hS 1 i (bb_kT hi) rfl db_c5 5 (by decide) wd_80 rfl dX5_releaseJob_32 ?_
  refine lv_aload_n hx hb dX5_releaseJob_35 rfl (lv_at hl 0 rfl) ?_
  refine db_get hx hb hts hown hK hS 1 i (bb_kT hi) rfl db_c5 2 (by decide) wd_74 rfl dX5_releaseJob_36 ?_
  refine lv_iadd hx hb dX5_releaseJob_39 ?_
  refine db_put hx hb hts hown hK hS 1 i (bb_kT hi) rfl db_c5 5 (by decide) wd_80 rfl rfl rfl (Nat.le_of_ble_eq_true rfl) rfl dX5_releaseJob_40 (fun H locs hS => ?_)
  obtain ⟨X3, eX3⟩ : ∃ z, z = db_up X2 1 i 5 ((X2 1 i 5) + (X2 1 i 2)) := ⟨_, rfl⟩
  rw [← eX3] at hS
  exact hret _ _ _ _ _ hS (by rw [eX3, eX2, eX1]; rfl) dX5_releaseJob_43

set_option maxHeartbeats 4000000 in
set_option maxRecDepth 100000 in
theorem c_X5_endJob (l : Launch) (Γ : db_G) (N : Nat → Nat) (L : Nat → Nat → Nat) (cnt : Nat) (X : db_X) (hN : bb_N N) (t : Int32) (i : Nat) (hi : i < N 0) : db_C l Γ yX5_endJob cX5_endJob 2 (none) (db_rm 1 24) [.ref (L 1 i), .int t] L (bb_ok (N 0) cnt) (bb_cel Γ N L) X none (bb_endJ X i t) := by
  have hn0 : N 0 < 2 ^ 31 := by have := hN.2.1; omega
  have hn1 : N 1 < 2 ^ 31 := by have := hN.2.2.1; omega
  have hn2 : N 2 < 2 ^ 31 := by have := hN.2.2.2.1; omega
  have hn3 : N 3 < 2 ^ 31 := by have := hN.2.2.2.2; omega
  refine db_introV (by decide +kernel) (Nat.le_of_ble_eq_true rfl) ?_
  intro p e s m args below meth c A Q ls hC hS hl hret
  have hC : db_Cx p s m args meth c Γ RX5 cX5_endJob 2 (none) := hC
  obtain ⟨hx, hb, hml, hr, hlocks, hown, hts, hK⟩ := id hC
  have hl : lv_has ls 2 [(0, .ref (L 1 i)), (1, .int t)] := hl
  refine lv_aload_n hx hb dX5_endJob_0 rfl (lv_at hl 0 rfl) ?_
  refine db_get hx hb hts hown hK hS 1 i (bb_kT hi) rfl db_c5 0 (by decide) wd_70 rfl dX5_endJob_1 ?_
  refine lv_iconst (v := 0) hx hb dX5_endJob_4 (by decide) ?_
  refine db_putN hx hb hts hown hK hS 2 i (bb_kJ hi) rfl db_c0 0 (by decide) wn_43 rfl (db_nz (Or.inl rfl)) (db_fz (Or.inl rfl)) (Nat.le_of_ble_eq_true rfl) rfl dX5_endJob_5 (fun H locs hS => ?_)
  obtain ⟨X1, eX1⟩ : ∃ z, z = db_up X 2 i 0 0 := ⟨_, rfl⟩
  rw [← eX1] at hS
  refine lv_aload_n hx hb dX5_endJob_8 rfl (lv_at hl 0 rfl) ?_
  refine lv_dup hx hb dX5_endJob_9 rfl ?_
  refine db_get hx hb hts hown hK hS 1 i (bb_kT hi) rfl db_c5 7 (by decide) wd_84 rfl dX5_endJob_10 ?_
  refine lv_iconst (v := 1) hx hb dX5_endJob_13 (by decide) ?_
  refine lv_iadd hx hb dX5_endJob_14 ?_
  refine db_put hx hb hts hown hK hS 1 i (bb_kT hi) rfl db_c5 7 (by decide) wd_84 rfl rfl rfl (Nat.le_of_ble_eq_true rfl) rfl dX5_endJob_15 (fun H locs hS => ?_)
  obtain ⟨X2, eX2⟩ : ∃ z, z = db_up X1 1 i 7 ((X1 1 i 7) + 1) := ⟨_, rfl⟩
  rw [← eX2] at hS
  refine lv_aload_n hx hb dX5_endJob_18 rfl (lv_at hl 0 rfl) ?_
  refine lv_aload_n hx hb dX5_endJob_19 rfl (lv_at hl 0 rfl) ?_
  refine db_get hx hb hts hown hK hS 1 i (bb_kT hi) rfl db_c5 11 (by decide) wd_92 rfl dX5_endJob_20 ?_
  refine lv_iload_n hx hb dX5_endJob_23 rfl (lv_at hl 1 rfl) ?_
  refine lv_aload_n hx hb dX5_endJob_24 rfl (lv_at hl 0 rfl) ?_
  refine db_get hx hb hts hown hK hS 1 i (bb_kT hi) rfl db_c5 0 (by decide) wd_70 rfl dX5_endJob_25 ?_
  refine db_getN hx hb hts hown hK hS 2 i (bb_kJ hi) rfl db_c0 1 (by decide) wn_45 rfl dX5_endJob_28 ?_
  refine lv_isub hx hb dX5_endJob_31 ?_
  refine db_mmax hC hl.1 wd_344 (by decide) (Nat.le_of_ble_eq_true rfl) dX5_endJob_32 ?_
  refine db_put hx hb hts hown hK hS 1 i (bb_kT hi) rfl db_c5 11 (by decide) wd_92 rfl rfl rfl (Nat.le_of_ble_eq_true rfl) rfl dX5_endJob_35 (fun H locs hS => ?_)
  obtain ⟨X3, eX3⟩ : ∃ z, z = db_up X2 1 i 11 (if (X2 1 i 11) < (t - (X2 2 i 1)) then t - (X2 2 i 1) else X2 1 i 11) := ⟨_, rfl⟩
  rw [← eX3] at hS
  exact hret _ _ _ _ _ hS (by rw [eX3, eX2, eX1]; rfl) dX5_endJob_38

set_option maxHeartbeats 4000000 in
set_option maxRecDepth 100000 in
theorem c_X1_note (l : Launch) (Γ : db_G) (N : Nat → Nat) (L : Nat → Nat → Nat) (cnt : Nat) (X : db_X) (hN : bb_N N) (n : Int32) (t : Int32) (h0 : ¬ X 6 0 2 < 0) : db_C l Γ yX1_note cX1_note 3 (none) (db_rm 0 0) [.ref (L 6 0), .int n, .int t] L (bb_ok (N 0) cnt) (bb_cel Γ N L) X none (bb_note N X n t) := by
  have hn0 : N 0 < 2 ^ 31 := by have := hN.2.1; omega
  have hn1 : N 1 < 2 ^ 31 := by have := hN.2.2.1; omega
  have hn2 : N 2 < 2 ^ 31 := by have := hN.2.2.2.1; omega
  have hn3 : N 3 < 2 ^ 31 := by have := hN.2.2.2.2; omega
  refine db_introV (by decide +kernel) (Nat.le_of_ble_eq_true rfl) ?_
  intro p e s m args below meth c A Q ls hC hS hl hret
  have hC : db_Cx p s m args meth c Γ RX1 cX1_note 3 (none) := hC
  obtain ⟨hx, hb, hml, hr, hlocks, hown, hts, hK⟩ := id hC
  have hl : lv_has ls 3 [(0, .ref (L 6 0)), (1, .int n), (2, .int t)] := hl
  have K32 : ∀ (Xa : db_X) (eXa : bb_note N X n t = bb_note3 Xa) (H : Heap) (locs : List Loc) (hS : db_S Γ A s.heap L (bb_ok (N 0) cnt) (bb_cel Γ N L) Xa H locs) (ls : Array Slot) (hl : lv_has ls 3 [(0, .ref (L 6 0))]), W p l e (db_rm 0 0) s m args below meth c H locs 0 0 Q (F0 m 32 ls []) := by
    intro Xa eXa H locs hS ls hl
    refine lv_aload_n hx hb dX1_note_32 rfl (lv_at hl 0 rfl) ?_
    refine lv_dup hx hb dX1_note_33 rfl ?_
    refine db_get hx hb hts hown hK hS 6 0 (bb_k 6 rfl) rfl db_c1 2 (by decide) wd_150 rfl dX1_note_34 ?_
    refine lv_iconst (v := 1) hx hb dX1_note_37 (by decide) ?_
    refine lv_iadd hx hb dX1_note_38 ?_
    refine db_put hx hb hts hown hK hS 6 0 (bb_k 6 rfl) rfl db_c1 2 (by decide) wd_150 rfl rfl rfl (Nat.le_of_ble_eq_true rfl) rfl dX1_note_39 (fun H locs hS => ?_)
    obtain ⟨X1, eX1⟩ : ∃ z, z = db_up Xa 6 0 2 ((Xa 6 0 2) + 1) := ⟨_, rfl⟩
    rw [← eX1] at hS
    exact hret _ _ _ _ _ hS (by rw [eXa, eX1]; rfl) dX1_note_42
  refine lv_aload_n hx hb dX1_note_0 rfl (lv_at hl 0 rfl) ?_
  refine db_get hx hb hts hown hK hS 6 0 (bb_k 6 rfl) rfl db_c1 2 (by decide) wd_150 rfl dX1_note_1 ?_
  refine lv_aload_n hx hb dX1_note_4 rfl (lv_at hl 0 rfl) ?_
  refine db_get hx hb hts hown hK hS 6 0 (bb_k 6 rfl) rfl db_c1 0 (by decide) wd_146 rfl dX1_note_5 ?_
  refine db_alen hx hb hK hS 7 0 (bb_k 7 rfl) 0 rfl rfl dX1_note_8 ?_
  refine lv_icmp_ge (tgt := 32) hx hb dX1_note_9 (by decide) (fun c9 => ?_) (fun c9 => ?_)
  · exact K32 X (by rw [bb_note, if_pos c9]) _ _ hS _ (lv_sub hl [0] rfl)
  · have h9 : db_in (X 6 0 2) (N 3) := db_ix hn3 h0 c9
    refine lv_aload_n hx hb dX1_note_12 rfl (lv_at hl 0 rfl) ?_
    refine db_get hx hb hts hown hK hS 6 0 (bb_k 6 rfl) rfl db_c1 0 (by decide) wd_146 rfl dX1_note_13 ?_
    refine lv_aload_n hx hb dX1_note_16 rfl (lv_at hl 0 rfl) ?_
    refine db_get hx hb hts hown hK hS 6 0 (bb_k 6 rfl) rfl db_c1 2 (by decide) wd_150 rfl dX1_note_17 ?_
    refine lv_iload_n hx hb dX1_note_20 rfl (lv_at hl 1 rfl) ?_
    refine db_ist hx hb hK hS 7 0 (bb_k 7 rfl) (fun _ => rfl) ((X 6 0 2).toNatClampNeg) (h9.eq hn3) (h9.lt hn3) hn3 dX1_note_21 (fun H locs hS => ?_)
    obtain ⟨X2, eX2⟩ : ∃ z, z = db_up X 7 0 ((X 6 0 2).toNatClampNeg) n := ⟨_, rfl⟩
    rw [← eX2] at hS
    have h91 : X2 6 0 2 = X 6 0 2 := by rw [eX2]; simp [db_up]
    have h9b : db_in (X2 6 0 2) (N 3) := by rw [h91]; exact h9
    refine lv_aload_n hx hb dX1_note_22 rfl (lv_at hl 0 rfl) ?_
    refine db_get hx hb hts hown hK hS 6 0 (bb_k 6 rfl) rfl db_c1 1 (by decide) wd_148 rfl dX1_note_23 ?_
    refine lv_aload_n hx hb dX1_note_26 rfl (lv_at hl 0 rfl) ?_
    refine db_get hx hb hts hown hK hS 6 0 (bb_k 6 rfl) rfl db_c1 2 (by decide) wd_150 rfl dX1_note_27 ?_
    refine lv_iload_n hx hb dX1_note_30 rfl (lv_at hl 2 rfl) ?_
    refine db_ist hx hb hK hS 8 0 (bb_k 8 rfl) (fun _ => rfl) ((X2 6 0 2).toNatClampNeg) (h9b.eq hn3) (h9b.lt hn3) hn3 dX1_note_31 (fun H locs hS => ?_)
    obtain ⟨X3, eX3⟩ : ∃ z, z = db_up X2 8 0 ((X2 6 0 2).toNatClampNeg) t := ⟨_, rfl⟩
    rw [← eX3] at hS
    exact K32 X3 (by rw [bb_note, if_neg c9, eX3, eX2]; rfl) _ _ hS _ (lv_sub hl [0] rfl)

set_option maxHeartbeats 4000000 in
set_option maxRecDepth 100000 in
theorem c_X1_keeps (l : Launch) (Γ : db_G) (N : Nat → Nat) (L : Nat → Nat → Nat) (cnt : Nat) (X : db_X) (hN : bb_N N) (i : Int32) : db_C l Γ yX1_keeps cX1_keeps 2 (some .boolean) (db_rm 0 0) [.ref (L 6 0), .int i] L (bb_ok (N 0) cnt) (bb_cel Γ N L) X (some (.int (bb_keeps N X i))) X := by
  have hn0 : N 0 < 2 ^ 31 := by have := hN.2.1; omega
  have hn1 : N 1 < 2 ^ 31 := by have := hN.2.2.1; omega
  have hn2 : N 2 < 2 ^ 31 := by have := hN.2.2.2.1; omega
  have hn3 : N 3 < 2 ^ 31 := by have := hN.2.2.2.2; omega
  refine db_introZ (by decide +kernel) (Nat.le_of_ble_eq_true rfl) (db_01 (Or.inl rfl) (db_01 (Or.inl rfl) (db_01 (Or.inl rfl) (Or.inr rfl)))) ?_
  intro p e s m args below meth c A Q ls hC hS hl hret
  have hC : db_Cx p s m args meth c Γ RX1 cX1_keeps 2 (some .boolean) := hC
  obtain ⟨hx, hb, hml, hr, hlocks, hown, hts, hK⟩ := id hC
  have hl : lv_has ls 2 [(0, .ref (L 6 0)), (1, .int i)] := hl
  refine lv_iload_n hx hb dX1_keeps_0 rfl (lv_at hl 1 rfl) ?_
  refine lv_if_lt (tgt := 25) hx hb dX1_keeps_1 (by decide) (fun c1 => ?_) (fun c1 => ?_)
  · refine lv_iconst (v := 0) hx hb dX1_keeps_25 (by decide) ?_
    exact hret _ _ _ _ _ _ hS (by simp [bb_keeps, c1]) (rfl) dX1_keeps_26
  · refine lv_iload_n hx hb dX1_keeps_4 rfl (lv_at hl 1 rfl) ?_
    refine lv_aload_n hx hb dX1_keeps_5 rfl (lv_at hl 0 rfl) ?_
    refine db_get hx hb hts hown hK hS 6 0 (bb_k 6 rfl) rfl db_c1 2 (by decide) wd_150 rfl dX1_keeps_6 ?_
    refine lv_icmp_ge (tgt := 25) hx hb dX1_keeps_9 (by decide) (fun c9 => ?_) (fun c9 => ?_)
    · refine lv_iconst (v := 0) hx hb dX1_keeps_25 (by decide) ?_
      exact hret _ _ _ _ _ _ hS (by simp [bb_keeps, c1, c9]) (rfl) dX1_keeps_26
    · refine lv_iload_n hx hb dX1_keeps_12 rfl (lv_at hl 1 rfl) ?_
      refine lv_aload_n hx hb dX1_keeps_13 rfl (lv_at hl 0 rfl) ?_
      refine db_get hx hb hts hown hK hS 6 0 (bb_k 6 rfl) rfl db_c1 0 (by decide) wd_146 rfl dX1_keeps_14 ?_
      refine db_alen hx hb hK hS 7 0 (bb_k 7 rfl) 0 rfl rfl dX1_keeps_17 ?_
      refine lv_icmp_ge (tgt := 25) hx hb dX1_keeps_18 (by decide) (fun c18 => ?_) (fun c18 => ?_)
      · refine lv_iconst (v := 0) hx hb dX1_keeps_25 (by decide) ?_
        exact hret _ _ _ _ _ _ hS (by simp [bb_keeps, c1, c9, c18]) (rfl) dX1_keeps_26
      · refine lv_iconst (v := 1) hx hb dX1_keeps_21 (by decide) ?_
        refine lv_goto (tgt := 26) hx hb dX1_keeps_22 (by decide) ?_
        exact hret _ _ _ _ _ _ hS (by simp [bb_keeps, c1, c9, c18]) (rfl) dX1_keeps_26

set_option maxHeartbeats 4000000 in
set_option maxRecDepth 100000 in
theorem c_X2_note (l : Launch) (Γ : db_G) (N : Nat → Nat) (L : Nat → Nat → Nat) (cnt : Nat) (X : db_X) (hN : bb_N N) (r : Int32) (th : Nat) (hth : X 9 0 1 = nI th) (hth2 : th < 2 ^ 31) : db_C l Γ yX2_note cX2_note 2 (none) (db_rm 0 0) [.ref (L 9 0), .int r] L (bb_ok (N 0) cnt) (bb_cel Γ N L) X none (bb_hn X th r) := by
  have hn0 : N 0 < 2 ^ 31 := by have := hN.2.1; omega
  have hn1 : N 1 < 2 ^ 31 := by have := hN.2.2.1; omega
  have hn2 : N 2 < 2 ^ 31 := by have := hN.2.2.2.1; omega
  have hn3 : N 3 < 2 ^ 31 := by have := hN.2.2.2.2; omega
  refine db_introV (by decide +kernel) (Nat.le_of_ble_eq_true rfl) ?_
  intro p e s m args below meth c A Q ls hC hS hl hret
  have hC : db_Cx p s m args meth c Γ RX2 cX2_note 2 (none) := hC
  obtain ⟨hx, hb, hml, hr, hlocks, hown, hts, hK⟩ := id hC
  have hl : lv_has ls 2 [(0, .ref (L 9 0)), (1, .int r)] := hl
  refine lv_aload_n hx hb dX2_note_0 rfl (lv_at hl 0 rfl) ?_
  refine db_get hx hb hts hown hK hS 9 0 (bb_k 9 rfl) rfl db_c2 0 (by decide) wd_165 rfl dX2_note_1 ?_
  refine lv_aload_n hx hb dX2_note_4 rfl (lv_at hl 0 rfl) ?_
  refine db_get hx hb hts hown hK hS 9 0 (bb_k 9 rfl) rfl db_c2 1 (by decide) wd_166 rfl dX2_note_5 ?_
  refine lv_bipush (v := 100) hx hb dX2_note_8 (by decide) ?_
  refine lv_irem hx hb dX2_note_10 (by decide) ?_
  refine lv_iload_n hx hb dX2_note_11 rfl (lv_at hl 1 rfl) ?_
  refine db_ist hx hb hK hS 10 0 (bb_k 10 rfl) (fun _ => rfl) (th % 100) (by rw [hth]; exact pk_rem hth2 (by decide) (by decide)) (Nat.mod_lt _ (by decide)) (by decide) dX2_note_12 (fun H locs hS => ?_)
  obtain ⟨X1, eX1⟩ : ∃ z, z = db_up X 10 0 (th % 100) r := ⟨_, rfl⟩
  rw [← eX1] at hS
  refine lv_aload_n hx hb dX2_note_13 rfl (lv_at hl 0 rfl) ?_
  refine lv_dup hx hb dX2_note_14 rfl ?_
  refine db_get hx hb hts hown hK hS 9 0 (bb_k 9 rfl) rfl db_c2 1 (by decide) wd_166 rfl dX2_note_15 ?_
  refine lv_iconst (v := 1) hx hb dX2_note_18 (by decide) ?_
  refine lv_iadd hx hb dX2_note_19 ?_
  refine db_put hx hb hts hown hK hS 9 0 (bb_k 9 rfl) rfl db_c2 1 (by decide) wd_166 rfl rfl rfl (Nat.le_of_ble_eq_true rfl) rfl dX2_note_20 (fun H locs hS => ?_)
  obtain ⟨X2, eX2⟩ : ∃ z, z = db_up X1 9 0 1 ((X1 9 0 1) + 1) := ⟨_, rfl⟩
  rw [← eX2] at hS
  exact hret _ _ _ _ _ hS (by rw [eX2, eX1]; rfl) dX2_note_23

set_option maxHeartbeats 4000000 in
set_option maxRecDepth 100000 in
theorem c_X2_runnerBack (l : Launch) (Γ : db_G) (N : Nat → Nat) (L : Nat → Nat → Nat) (cnt : Nat) (X : db_X) (hN : bb_N N) (k : Int32) (th : Nat) (hth : X 9 0 1 = nI th) (hth2 : th < 2 ^ 31) : db_C l Γ yX2_runnerBack cX2_runnerBack 2 (some .int) (db_rm 0 0) [.ref (L 9 0), .int k] L (bb_ok (N 0) cnt) (bb_cel Γ N L) X (some (.int (bb_back X th k))) X := by
  have hn0 : N 0 < 2 ^ 31 := by have := hN.2.1; omega
  have hn1 : N 1 < 2 ^ 31 := by have := hN.2.2.1; omega
  have hn2 : N 2 < 2 ^ 31 := by have := hN.2.2.2.1; omega
  have hn3 : N 3 < 2 ^ 31 := by have := hN.2.2.2.2; omega
  refine db_introI (by decide +kernel) (Nat.le_of_ble_eq_true rfl) ?_
  intro p e s m args below meth c A Q ls hC hS hl hret
  have hC : db_Cx p s m args meth c Γ RX2 cX2_runnerBack 2 (some .int) := hC
  obtain ⟨hx, hb, hml, hr, hlocks, hown, hts, hK⟩ := id hC
  have hl : lv_has ls 2 [(0, .ref (L 9 0)), (1, .int k)] := hl
  have K18 : ∀ (h18 : bb_back X th k = -2) (H : Heap) (locs : List Loc) (hS : db_S Γ A s.heap L (bb_ok (N 0) cnt) (bb_cel Γ N L) X H locs) (ls : Array Slot) (hl : lv_has ls 2 []), W p l e (db_rm 0 0) s m args below meth c H locs 0 0 Q (F0 m 18 ls []) := by
    intro  h18 H locs hS ls hl
    refine lv_bipush (v := -2) hx hb dX2_runnerBack_18 (by decide) ?_
    exact hret _ _ _ _ _ _ hS (h18.symm) (rfl) dX2_runnerBack_20
  refine lv_iload_n hx hb dX2_runnerBack_0 rfl (lv_at hl 1 rfl) ?_
  refine lv_if_lt (tgt := 18) hx hb dX2_runnerBack_1 (by decide) (fun c1 => ?_) (fun c1 => ?_)
  · exact K18  (by simp [bb_back, c1]) _ _ hS _ (lv_sub hl [] rfl)
  · refine lv_iload_n hx hb dX2_runnerBack_4 rfl (lv_at hl 1 rfl) ?_
    refine lv_bipush (v := 100) hx hb dX2_runnerBack_5 (by decide) ?_
    refine lv_icmp_ge (tgt := 18) hx hb dX2_runnerBack_7 (by decide) (fun c7 => ?_) (fun c7 => ?_)
    · exact K18  (by simp [bb_back, c1, c7]) _ _ hS _ (lv_sub hl [] rfl)
    · refine lv_iload_n hx hb dX2_runnerBack_10 rfl (lv_at hl 1 rfl) ?_
      refine lv_aload_n hx hb dX2_runnerBack_11 rfl (lv_at hl 0 rfl) ?_
      refine db_get hx hb hts hown hK hS 9 0 (bb_k 9 rfl) rfl db_c2 1 (by decide) wd_166 rfl dX2_runnerBack_12 ?_
      refine lv_icmp_lt (tgt := 21) hx hb dX2_runnerBack_15 (by decide) (fun c15 => ?_) (fun c15 => ?_)
      · obtain ⟨j, hj, rfl⟩ : ∃ j : Nat, j < th ∧ k = nI j := by
          obtain ⟨j, hj, ej⟩ := nI_of (x := k) c1
          refine ⟨j, ?_, ej⟩
          rw [ej, hth] at c15
          exact (nI_ltI hj hth2).mp c15
        refine lv_aload_n hx hb dX2_runnerBack_21 rfl (lv_at hl 0 rfl) ?_
        refine db_get hx hb hts hown hK hS 9 0 (bb_k 9 rfl) rfl db_c2 0 (by decide) wd_165 rfl dX2_runnerBack_22 ?_
        refine lv_aload_n hx hb dX2_runnerBack_25 rfl (lv_at hl 0 rfl) ?_
        refine db_get hx hb hts hown hK hS 9 0 (bb_k 9 rfl) rfl db_c2 1 (by decide) wd_166 rfl dX2_runnerBack_26 ?_
        refine lv_iconst (v := 1) hx hb dX2_runnerBack_29 (by decide) ?_
        refine lv_isub hx hb dX2_runnerBack_30 ?_
        refine lv_iload_n hx hb dX2_runnerBack_31 rfl (lv_at hl 1 rfl) ?_
        refine lv_isub hx hb dX2_runnerBack_32 ?_
        refine lv_bipush (v := 100) hx hb dX2_runnerBack_33 (by decide) ?_
        refine lv_irem hx hb dX2_runnerBack_35 (by decide) ?_
        have h36 : X 9 0 1 - 1 - nI j = nI (th - 1 - j) := by
          rw [hth, show (1 : Int32) = nI 1 from rfl, pk_sub (by omega), pk_sub (by omega)]
        refine db_ild hx hb hK hS 10 0 (bb_k 10 rfl) rfl ((th - 1 - j) % 100) (by rw [h36]; exact pk_rem (by omega) (by decide) (by decide)) (Nat.mod_lt _ (by decide)) (by decide) dX2_runnerBack_36 ?_
        exact hret _ _ _ _ _ _ hS (by simp [bb_back, c1, c7, c15, nI_clamp (show j < 2 ^ 31 by omega)]) (rfl) dX2_runnerBack_37
      · exact K18  (by simp [bb_back, c1, c7, c15]) _ _ hS _ (lv_sub hl [] rfl)
end
section
theorem c_X6_holderAwaitedBy' (l : Launch) (Γ : db_G) (N : Nat → Nat) (L : Nat → Nat → Nat) (cnt : Nat) (X : db_X) (hN : bb_N N) (t : Int32) (hW : bb_W N X) (ht : db_in t (N 0)) : db_C l Γ yX6_holderAwaitedBy cX6_holderAwaitedBy 3 (some .int) (db_rm 0 0) [.ref (L 0 0), .int t] L (bb_ok (N 0) cnt) (bb_cel Γ N L) X (some (.int (bb_hab X t.toNatClampNeg))) X := by
  have hn0 : N 0 < 2 ^ 31 := by have := hN.2.1; omega
  have h := c_X6_holderAwaitedBy l Γ N L cnt X hN t.toNatClampNeg hW (ht.lt hn0)
  rw [← ht.eq hn0] at h
  exact h

theorem bb_ch_none (due : Int32) : ∀ (k : Nat) (X : db_X), bb_ch due k (-1) X = X
  | 0, _ => rfl
  | _ + 1, _ => by rw [bb_ch, if_pos rfl]

set_option maxHeartbeats 4000000 in
set_option maxRecDepth 100000 in
theorem c_X6_inheritDeadlines (l : Launch) (Γ : db_G) (N : Nat → Nat) (L : Nat → Nat → Nat) (cnt : Nat) (X : db_X) (hN : bb_N N) (sz : Nat) (hI : bb_I N cnt sz X) : db_C l Γ yX6_inheritDeadlines cX6_inheritDeadlines 6 (none) (db_rm 1 24) [.ref (L 0 0)] L (bb_ok (N 0) cnt) (bb_cel Γ N L) X none (bb_inh N X) := by
  have hn0 : N 0 < 2 ^ 31 := by have := hN.2.1; omega
  have hn1 : N 1 < 2 ^ 31 := by have := hN.2.2.1; omega
  have hn2 : N 2 < 2 ^ 31 := by have := hN.2.2.2.1; omega
  have hn3 : N 3 < 2 ^ 31 := by have := hN.2.2.2.2; omega
  refine db_introV (by decide +kernel) (Nat.le_of_ble_eq_true rfl) ?_
  intro p e s m args below meth c A Q ls hC hS hl hret
  have hC : db_Cx p s m args meth c Γ RX6 cX6_inheritDeadlines 6 (none) := hC
  obtain ⟨hx, hb, hml, hr, hlocks, hown, hts, hK⟩ := id hC
  have hl : lv_has ls 6 [(0, .ref (L 0 0))] := hl
  refine lv_aload_n hx hb dX6_inheritDeadlines_0 rfl (lv_at hl 0 rfl) ?_
  refine db_get hx hb hts hown hK hS 0 0 (bb_k 0 rfl) rfl db_c6 0 (by decide) wd_172 rfl dX6_inheritDeadlines_1 ?_
  refine lv_astore_n (lv' := [(1, .ref (L 11 0)), (0, .ref (L 0 0))]) hx hb dX6_inheritDeadlines_4 rfl hl (by decide) rfl (fun ls hl => ?_)
  refine lv_aload_n hx hb dX6_inheritDeadlines_5 rfl (lv_at hl 0 rfl) ?_
  refine db_alen hx hb hK hS 11 0 (bb_k 11 rfl) 2 rfl rfl dX6_inheritDeadlines_6 ?_
  refine lv_istore_n (lv' := [(2, .int (nI (N 0))), (1, .ref (L 11 0)), (0, .ref (L 0 0))]) hx hb dX6_inheritDeadlines_7 rfl hl (by decide) rfl (fun ls hl => ?_)
  refine lv_iconst (v := 0) hx hb dX6_inheritDeadlines_8 (by decide) ?_
  refine lv_istore_n (lv' := [(3, .int 0), (2, .int (nI (N 0))), (1, .ref (L 11 0)), (0, .ref (L 0 0))]) hx hb dX6_inheritDeadlines_9 rfl hl (by decide) rfl (fun ls hl => ?_)
  have K10 : ∀ (q : Nat) (j : Nat) (Xa : db_X) (hq : N 0 + 1 - j ≤ q) (hj0 : j ≤ N 0) (eXa : Xa = bb_in1 X j) (H : Heap) (locs : List Loc) (hS : db_S Γ A s.heap L (bb_ok (N 0) cnt) (bb_cel Γ N L) Xa H locs) (ls : Array Slot) (hl : lv_has ls 6 [(0, .ref (L 0 0)), (1, .ref (L 11 0)), (2, .int (nI (N 0))), (3, .int (nI j))]), W p l e (db_rm 1 24) s m args below meth c H locs 0 0 Q (F0 m 10 ls []) := by
    intro q10
    induction q10 with
    | zero =>
      intro j Xa hq10 hj0 eXa
      exact absurd hq10 (by omega)
    | succ q10 ih10 =>
      intro j Xa hq10 hj0 eXa H locs hS ls hl
      refine lv_iload_n hx hb dX6_inheritDeadlines_10 rfl (lv_at hl 3 rfl) ?_
      refine lv_iload_n hx hb dX6_inheritDeadlines_11 rfl (lv_at hl 2 rfl) ?_
      refine lv_icmp_ge (tgt := 42) hx hb dX6_inheritDeadlines_12 (by decide) (fun c12 => ?_) (fun c12 => ?_)
      · have hj : j = N 0 := by
          rcases Nat.lt_or_ge j (N 0) with q9 | q9
          · exact absurd c12 (nI_ge q9 hn0)
          · omega
        refine lv_iconst (v := 0) hx hb dX6_inheritDeadlines_42 (by decide) ?_
        refine lv_istore_n (lv' := [(1, .int 0), (0, .ref (L 0 0)), (2, .int (nI (N 0))), (3, .int (nI j))]) hx hb dX6_inheritDeadlines_43 rfl hl (by decide) rfl (fun ls hl => ?_)
        have K44 : ∀ (q : Nat) (i : Nat) (Xb : db_X) (hq : N 0 + 1 - i ≤ q) (hi0 : i ≤ N 0) (eXb : Xb = bb_in2 N (bb_in1 X (N 0)) i) (H : Heap) (locs : List Loc) (hS : db_S Γ A s.heap L (bb_ok (N 0) cnt) (bb_cel Γ N L) Xb H locs) (ls : Array Slot) (hl : lv_has ls 6 [(0, .ref (L 0 0)), (1, .int (nI i))]), W p l e (db_rm 1 24) s m args below meth c H locs 0 0 Q (F0 m 44 ls []) := by
          intro q44
          induction q44 with
          | zero =>
            intro i Xb hq44 hi0 eXb
            exact absurd hq44 (by omega)
          | succ q44 ih44 =>
            intro i Xb hq44 hi0 eXb H locs hS ls hl
            have h5b : bb_s5 Xb X := by rw [eXb]; exact (bb_in2_s5 _).tr (bb_in1_s5 _)
            have hWb : bb_W N Xb := h5b.W hI.1
            have hOb : bb_O N Xb := h5b.O hI.2.1
            refine lv_iload_n hx hb dX6_inheritDeadlines_44 rfl (lv_at hl 1 rfl) ?_
            refine lv_aload_n hx hb dX6_inheritDeadlines_45 rfl (lv_at hl 0 rfl) ?_
            refine db_get hx hb hts hown hK hS 0 0 (bb_k 0 rfl) rfl db_c6 0 (by decide) wd_172 rfl dX6_inheritDeadlines_46 ?_
            refine db_alen hx hb hK hS 11 0 (bb_k 11 rfl) 2 rfl rfl dX6_inheritDeadlines_49 ?_
            refine lv_icmp_ge (tgt := 133) hx hb dX6_inheritDeadlines_50 (by decide) (fun c50 => ?_) (fun c50 => ?_)
            · have hi : i = N 0 := by
                rcases Nat.lt_or_ge i (N 0) with q9 | q9
                · exact absurd c50 (nI_ge q9 hn0)
                · omega
              exact hret _ _ _ _ _ hS (by rw [eXb, hi]; rfl) dX6_inheritDeadlines_133
            · have hi : i < N 0 := by
                rcases Nat.lt_or_ge i (N 0) with q9 | q9
                · exact q9
                · exact absurd (nI_le q9 (by omega)) c50
              refine lv_aload_n hx hb dX6_inheritDeadlines_53 rfl (lv_at hl 0 rfl) ?_
              refine db_get hx hb hts hown hK hS 0 0 (bb_k 0 rfl) rfl db_c6 0 (by decide) wd_172 rfl dX6_inheritDeadlines_54 ?_
              refine lv_iload_n hx hb dX6_inheritDeadlines_57 rfl (lv_at hl 1 rfl) ?_
              refine db_ald hx hb hK hS 11 0 (bb_k 11 rfl) 2 rfl rfl i rfl hi hn0 rfl dX6_inheritDeadlines_58 ?_
              refine db_getN hx hb hts hown hK hS 1 i (bb_kT hi) rfl db_c5 0 (by decide) wn_71 rfl dX6_inheritDeadlines_59 ?_
              refine db_getN hx hb hts hown hK hS 2 i (bb_kJ hi) rfl db_c0 2 (by decide) wn_47 rfl dX6_inheritDeadlines_62 ?_
              refine lv_istore_n (lv' := [(2, .int (Xb 2 i 2)), (0, .ref (L 0 0)), (1, .int (nI i))]) hx hb dX6_inheritDeadlines_65 rfl hl (by decide) rfl (fun ls hl => ?_)
              refine lv_aload_n hx hb dX6_inheritDeadlines_66 rfl (lv_at hl 1 rfl) ?_
              refine lv_iload_n hx hb dX6_inheritDeadlines_67 rfl (lv_at hl 2 rfl) ?_
              refine db_cV (As := [.int (nI i)]) (rest := []) (st1 := [.int (bb_hab Xb i)]) hC hS 0 0 (bb_k 0 rfl) rfl db_c6 (c_X6_holderAwaitedBy l Γ N L cnt Xb hN i hWb hi) (cw_X6_holderAwaitedBy (Nat.le_of_ble_eq_true rfl) (Nat.le_of_ble_eq_true rfl)) wd_280 wd_282 ws_11 rfl hl.1 rfl (Nat.le_of_ble_eq_true rfl) dX6_inheritDeadlines_68 ⟨Nat.le_of_ble_eq_true rfl, Nat.le_of_ble_eq_true rfl⟩ rfl (fun H locs hS => ?_)
              refine lv_istore_n (lv' := [(3, .int (bb_hab Xb i)), (2, .int (Xb 2 i 2)), (0, .ref (L 0 0)), (1, .int (nI i))]) hx hb dX6_inheritDeadlines_71 rfl hl (by decide) rfl (fun ls hl => ?_)
              refine lv_iconst (v := 0) hx hb dX6_inheritDeadlines_72 (by decide) ?_
              refine lv_istore (lv' := [(4, .int 0), (3, .int (bb_hab Xb i)), (2, .int (Xb 2 i 2)), (0, .ref (L 0 0)), (1, .int (nI i))]) hx hb dX6_inheritDeadlines_73 hl (by decide) rfl (fun ls hl => ?_)
              have K75 : ∀ (q : Nat) (st : Nat) (hd : Int32) (Xc : db_X) (hq : N 0 + 1 - st ≤ q) (hst0 : st ≤ N 0) (hhd : hd = -1 ∨ db_in hd (N 0)) (hsc : bb_s5 Xc Xb) (hrem : bb_ch (Xb 2 i 2) (N 0) (bb_hab Xb i) Xb = bb_ch (Xb 2 i 2) (N 0 - st) hd Xc) (H : Heap) (locs : List Loc) (hS : db_S Γ A s.heap L (bb_ok (N 0) cnt) (bb_cel Γ N L) Xc H locs) (ls : Array Slot) (hl : lv_has ls 6 [(0, .ref (L 0 0)), (1, .int (nI i)), (2, .int (Xb 2 i 2)), (3, .int hd), (4, .int (nI st))]), W p l e (db_rm 1 24) s m args below meth c H locs 0 0 Q (F0 m 75 ls []) := by
                intro q75
                induction q75 with
                | zero =>
                  intro st hd Xc hq75 hst0 hhd hsc hrem
                  exact absurd hq75 (by omega)
                | succ q75 ih75 =>
                  intro st hd Xc hq75 hst0 hhd hsc hrem H locs hS ls hl
                  refine lv_iload hx hb dX6_inheritDeadlines_75 (lv_at hl 4 rfl) ?_
                  refine lv_aload_n hx hb dX6_inheritDeadlines_77 rfl (lv_at hl 0 rfl) ?_
                  refine db_get hx hb hts hown hK hS 0 0 (bb_k 0 rfl) rfl db_c6 0 (by decide) wd_172 rfl dX6_inheritDeadlines_78 ?_
                  refine db_alen hx hb hK hS 11 0 (bb_k 11 rfl) 2 rfl rfl dX6_inheritDeadlines_81 ?_
                  refine lv_icmp_ge (tgt := 127) hx hb dX6_inheritDeadlines_82 (by decide) (fun c82 => ?_) (fun c82 => ?_)
                  · have hst : st = N 0 := by
                      rcases Nat.lt_or_ge st (N 0) with q9 | q9
                      · exact absurd c82 (nI_ge q9 hn0)
                      · omega
                    refine lv_iinc (v := (nI (i + 1))) (lv' := [(1, .int (nI (i + 1))), (0, .ref (L 0 0)), (2, .int (Xb 2 i 2)), (3, .int hd), (4, .int (nI st))]) hx hb dX6_inheritDeadlines_127 hl (k := 1) rfl (nI_1 _) (by decide) rfl (fun ls hl => ?_)
                    refine lv_goto (tgt := 44) hx hb dX6_inheritDeadlines_130 (by decide) ?_
                    exact ih44 (i + 1) Xc (by omega) hi (by rw [bb_in2, ← eXb, hrem, hst, Nat.sub_self]; rfl) _ _ hS _ (lv_sub hl [1, 0] rfl)
                  · have hst : st < N 0 := by
                      rcases Nat.lt_or_ge st (N 0) with q9 | q9
                      · exact q9
                      · exact absurd (nI_le q9 (by omega)) c82
                    refine lv_iload_n hx hb dX6_inheritDeadlines_85 rfl (lv_at hl 3 rfl) ?_
                    refine lv_iconst (v := -1) hx hb dX6_inheritDeadlines_86 (by decide) ?_
                    refine lv_icmp_eq (tgt := 127) hx hb dX6_inheritDeadlines_87 (by decide) (fun c87 => ?_) (fun c87 => ?_)
                    · refine lv_iinc (v := (nI (i + 1))) (lv' := [(1, .int (nI (i + 1))), (0, .ref (L 0 0)), (2, .int (Xb 2 i 2)), (3, .int hd), (4, .int (nI st))]) hx hb dX6_inheritDeadlines_127 hl (k := 1) rfl (nI_1 _) (by decide) rfl (fun ls hl => ?_)
                      refine lv_goto (tgt := 44) hx hb dX6_inheritDeadlines_130 (by decide) ?_
                      exact ih44 (i + 1) Xc (by omega) hi (by rw [bb_in2, ← eXb, hrem, c87]; exact (bb_ch_none _ _ _).symm) _ _ hS _ (lv_sub hl [1, 0] rfl)
                    · have hin : db_in hd (N 0) := hhd.resolve_left c87
                      refine lv_aload_n hx hb dX6_inheritDeadlines_90 rfl (lv_at hl 0 rfl) ?_
                      refine db_get hx hb hts hown hK hS 0 0 (bb_k 0 rfl) rfl db_c6 0 (by decide) wd_172 rfl dX6_inheritDeadlines_91 ?_
                      refine lv_iload_n hx hb dX6_inheritDeadlines_94 rfl (lv_at hl 3 rfl) ?_
                      refine db_ald hx hb hK hS 11 0 (bb_k 11 rfl) 2 rfl rfl hd.toNatClampNeg (hin.eq hn0) (hin.lt hn0) hn0 rfl dX6_inheritDeadlines_95 ?_
                      refine db_getN hx hb hts hown hK hS 1 hd.toNatClampNeg (bb_kT (hin.lt hn0)) rfl db_c5 0 (by decide) wn_71 rfl dX6_inheritDeadlines_96 ?_
                      refine lv_astore (lv' := [(5, .ref (L 2 hd.toNatClampNeg)), (0, .ref (L 0 0)), (1, .int (nI i)), (2, .int (Xb 2 i 2)), (3, .int hd), (4, .int (nI st))]) hx hb dX6_inheritDeadlines_99 hl (by decide) rfl (fun ls hl => ?_)
                      refine lv_aload hx hb dX6_inheritDeadlines_101 (lv_at hl 0 rfl) ?_
                      refine lv_aload hx hb dX6_inheritDeadlines_103 (lv_at hl 0 rfl) ?_
                      refine db_getN hx hb hts hown hK hS 2 hd.toNatClampNeg (bb_kJ (hin.lt hn0)) rfl db_c0 5 (by decide) wn_52 rfl dX6_inheritDeadlines_105 ?_
                      refine lv_iload_n hx hb dX6_inheritDeadlines_108 rfl (lv_at hl 3 rfl) ?_
                      refine db_mmin hC hl.1 wd_22 (by decide) (Nat.le_of_ble_eq_true rfl) dX6_inheritDeadlines_109 ?_
                      refine db_putN hx hb hts hown hK hS 2 hd.toNatClampNeg (bb_kJ (hin.lt hn0)) rfl db_c0 5 (by decide) wn_52 rfl rfl rfl (Nat.le_of_ble_eq_true rfl) rfl dX6_inheritDeadlines_112 (fun H locs hS => ?_)
                      obtain ⟨X1, eX1⟩ : ∃ z, z = db_up Xc 2 hd.toNatClampNeg 5 (if (Xb 2 i 2) < (Xc 2 hd.toNatClampNeg 5) then Xb 2 i 2 else Xc 2 hd.toNatClampNeg 5) := ⟨_, rfl⟩
                      rw [← eX1] at hS
                      have h5c : bb_s5 X1 Xb := by rw [eX1]; exact bb_s5.up.tr hsc
                      have hWc : bb_W N X1 := h5c.W hWb
                      have hOc : bb_O N X1 := h5c.O hOb
                      refine lv_aload_n hx hb dX6_inheritDeadlines_115 rfl (lv_at hl 1 rfl) ?_
                      refine lv_iload_n hx hb dX6_inheritDeadlines_116 rfl (lv_at hl 4 rfl) ?_
                      refine db_cV (As := [.int hd]) (rest := []) (st1 := [.int (bb_hab X1 hd.toNatClampNeg)]) hC hS 0 0 (bb_k 0 rfl) rfl db_c6 (c_X6_holderAwaitedBy' l Γ N L cnt X1 hN hd hWc hin) (cw_X6_holderAwaitedBy (Nat.le_of_ble_eq_true rfl) (Nat.le_of_ble_eq_true rfl)) wd_280 wd_282 ws_11 rfl hl.1 rfl (Nat.le_of_ble_eq_true rfl) dX6_inheritDeadlines_117 ⟨Nat.le_of_ble_eq_true rfl, Nat.le_of_ble_eq_true rfl⟩ rfl (fun H locs hS => ?_)
                      refine lv_istore_n (lv' := [(3, .int (bb_hab X1 hd.toNatClampNeg)), (5, .ref (L 2 hd.toNatClampNeg)), (0, .ref (L 0 0)), (1, .int (nI i)), (2, .int (Xb 2 i 2)), (4, .int (nI st))]) hx hb dX6_inheritDeadlines_120 rfl hl (by decide) rfl (fun ls hl => ?_)
                      refine lv_iinc (v := (nI (st + 1))) (lv' := [(4, .int (nI (st + 1))), (3, .int (bb_hab X1 hd.toNatClampNeg)), (5, .ref (L 2 hd.toNatClampNeg)), (0, .ref (L 0 0)), (1, .int (nI i)), (2, .int (Xb 2 i 2))]) hx hb dX6_inheritDeadlines_121 hl (k := 5) rfl (nI_1 _) (by decide) rfl (fun ls hl => ?_)
                      refine lv_goto (tgt := 75) hx hb dX6_inheritDeadlines_124 (by decide) ?_
                      exact ih75 (st + 1) (bb_hab X1 hd.toNatClampNeg) X1 (by omega) hst (bb_hab_cases hN hWc hOc (hin.lt hn0)) h5c (by rw [hrem, show N 0 - st = (N 0 - (st + 1)) + 1 by omega, bb_ch, if_neg c87, eX1]; rfl) _ _ hS _ (lv_sub hl [3, 4, 5, 1, 0] rfl)
              exact K75 _ 0 (bb_hab Xb i) Xb (Nat.le_refl _) (Nat.zero_le _) (bb_hab_cases hN hWb hOb hi) bb_s5.rf rfl _ _ hS _ (lv_sub hl [3, 4, 2, 1, 0] rfl)
        exact K44 _ 0 Xa (Nat.le_refl _) (Nat.zero_le _) (by rw [eXa, hj]; rfl) _ _ hS _ (lv_sub hl [1, 0] rfl)
      · have hj : j < N 0 := by
          rcases Nat.lt_or_ge j (N 0) with q9 | q9
          · exact q9
          · exact absurd (nI_le q9 (by omega)) c12
        refine lv_aload_n hx hb dX6_inheritDeadlines_15 rfl (lv_at hl 1 rfl) ?_
        refine lv_iload_n hx hb dX6_inheritDeadlines_16 rfl (lv_at hl 3 rfl) ?_
        refine db_ald hx hb hK hS 11 0 (bb_k 11 rfl) 2 rfl rfl j rfl hj hn0 rfl dX6_inheritDeadlines_17 ?_
        refine lv_astore (lv' := [(4, .ref (L 1 j)), (0, .ref (L 0 0)), (1, .ref (L 11 0)), (2, .int (nI (N 0))), (3, .int (nI j))]) hx hb dX6_inheritDeadlines_18 hl (by decide) rfl (fun ls hl => ?_)
        refine lv_aload hx hb dX6_inheritDeadlines_20 (lv_at hl 0 rfl) ?_
        refine db_getN hx hb hts hown hK hS 1 j (bb_kT hj) rfl db_c5 0 (by decide) wn_71 rfl dX6_inheritDeadlines_22 ?_
        refine lv_aload hx hb dX6_inheritDeadlines_25 (lv_at hl 0 rfl) ?_
        refine db_getN hx hb hts hown hK hS 1 j (bb_kT hj) rfl db_c5 0 (by decide) wn_71 rfl dX6_inheritDeadlines_27 ?_
        refine db_getN hx hb hts hown hK hS 2 j (bb_kJ hj) rfl db_c0 2 (by decide) wn_47 rfl dX6_inheritDeadlines_30 ?_
        refine db_putN hx hb hts hown hK hS 2 j (bb_kJ hj) rfl db_c0 5 (by decide) wn_52 rfl rfl rfl (Nat.le_of_ble_eq_true rfl) rfl dX6_inheritDeadlines_33 (fun H locs hS => ?_)
        obtain ⟨X2, eX2⟩ : ∃ z, z = db_up Xa 2 j 5 (Xa 2 j 2) := ⟨_, rfl⟩
        rw [← eX2] at hS
        refine lv_iinc (v := (nI (j + 1))) (lv' := [(3, .int (nI (j + 1))), (4, .ref (L 1 j)), (0, .ref (L 0 0)), (1, .ref (L 11 0)), (2, .int (nI (N 0)))]) hx hb dX6_inheritDeadlines_36 hl (k := 4) rfl (nI_1 _) (by decide) rfl (fun ls hl => ?_)
        refine lv_goto (tgt := 10) hx hb dX6_inheritDeadlines_39 (by decide) ?_
        exact ih10 (j + 1) X2 (by omega) hj (by rw [eX2, eXa]; rfl) _ _ hS _ (lv_sub hl [2, 3, 4, 0] rfl)
  exact K10 _ 0 X (Nat.le_refl _) (Nat.zero_le _) rfl _ _ hS _ (lv_sub hl [3, 2, 1, 0] rfl)

set_option maxHeartbeats 4000000 in
set_option maxRecDepth 100000 in
theorem c_X6_aheadOfAll (l : Launch) (Γ : db_G) (N : Nat → Nat) (L : Nat → Nat → Nat) (cnt : Nat) (X : db_X) (hN : bb_N N) (a : Int32) : db_C l Γ yX6_aheadOfAll cX6_aheadOfAll 5 (some .int) (db_rm 0 0) [.ref (L 0 0), .int a] L (bb_ok (N 0) cnt) (bb_cel Γ N L) X (some (.int (bb_ahead N X a))) X := by
  have hn0 : N 0 < 2 ^ 31 := by have := hN.2.1; omega
  have hn1 : N 1 < 2 ^ 31 := by have := hN.2.2.1; omega
  have hn2 : N 2 < 2 ^ 31 := by have := hN.2.2.2.1; omega
  have hn3 : N 3 < 2 ^ 31 := by have := hN.2.2.2.2; omega
  refine db_introI (by decide +kernel) (Nat.le_of_ble_eq_true rfl) ?_
  intro p e s m args below meth c A Q ls hC hS hl hret
  have hC : db_Cx p s m args meth c Γ RX6 cX6_aheadOfAll 5 (some .int) := hC
  obtain ⟨hx, hb, hml, hr, hlocks, hown, hts, hK⟩ := id hC
  have hl : lv_has ls 5 [(0, .ref (L 0 0)), (1, .int a)] := hl
  refine lv_iconst (v := -1) hx hb dX6_aheadOfAll_0 (by decide) ?_
  refine lv_istore_n (lv' := [(2, .int (-1)), (0, .ref (L 0 0)), (1, .int a)]) hx hb dX6_aheadOfAll_1 rfl hl (by decide) rfl (fun ls hl => ?_)
  refine lv_iconst (v := 0) hx hb dX6_aheadOfAll_2 (by decide) ?_
  refine lv_istore_n (lv' := [(3, .int 0), (2, .int (-1)), (0, .ref (L 0 0)), (1, .int a)]) hx hb dX6_aheadOfAll_3 rfl hl (by decide) rfl (fun ls hl => ?_)
  have K4 : ∀ (q : Nat) (j : Nat) (f : Int32) (hq : N 0 + 1 - j ≤ q) (hj0 : j ≤ N 0) (ef : f = db_ah (fun j => decide (¬ X 2 j 0 = 0 ∧ X 2 j 4 = a)) (fun j => X 2 j 5) j) (H : Heap) (locs : List Loc) (hS : db_S Γ A s.heap L (bb_ok (N 0) cnt) (bb_cel Γ N L) X H locs) (ls : Array Slot) (hl : lv_has ls 5 [(0, .ref (L 0 0)), (1, .int a), (2, .int f), (3, .int (nI j))]), W p l e (db_rm 0 0) s m args below meth c H locs 0 0 Q (F0 m 4 ls []) := by
    intro q4
    induction q4 with
    | zero =>
      intro j f hq4 hj0 ef
      exact absurd hq4 (by omega)
    | succ q4 ih4 =>
      intro j f hq4 hj0 ef H locs hS ls hl
      refine lv_iload_n hx hb dX6_aheadOfAll_4 rfl (lv_at hl 3 rfl) ?_
      refine lv_aload_n hx hb dX6_aheadOfAll_5 rfl (lv_at hl 0 rfl) ?_
      refine db_get hx hb hts hown hK hS 0 0 (bb_k 0 rfl) rfl db_c6 0 (by decide) wd_172 rfl dX6_aheadOfAll_6 ?_
      refine db_alen hx hb hK hS 11 0 (bb_k 11 rfl) 2 rfl rfl dX6_aheadOfAll_9 ?_
      refine lv_icmp_ge (tgt := 77) hx hb dX6_aheadOfAll_10 (by decide) (fun c10 => ?_) (fun c10 => ?_)
      · have hj : j = N 0 := by
          rcases Nat.lt_or_ge j (N 0) with q9 | q9
          · exact absurd c10 (nI_ge q9 hn0)
          · omega
        refine lv_iload_n hx hb dX6_aheadOfAll_77 rfl (lv_at hl 2 rfl) ?_
        exact hret _ _ _ _ _ _ hS (by rw [ef, hj]; rfl) (rfl) dX6_aheadOfAll_78
      · have hj : j < N 0 := by
          rcases Nat.lt_or_ge j (N 0) with q9 | q9
          · exact q9
          · exact absurd (nI_le q9 (by omega)) c10
        refine lv_aload_n hx hb dX6_aheadOfAll_13 rfl (lv_at hl 0 rfl) ?_
        refine db_get hx hb hts hown hK hS 0 0 (bb_k 0 rfl) rfl db_c6 0 (by decide) wd_172 rfl dX6_aheadOfAll_14 ?_
        refine lv_iload_n hx hb dX6_aheadOfAll_17 rfl (lv_at hl 3 rfl) ?_
        refine db_ald hx hb hK hS 11 0 (bb_k 11 rfl) 2 rfl rfl j rfl hj hn0 rfl dX6_aheadOfAll_18 ?_
        refine db_getN hx hb hts hown hK hS 1 j (bb_kT hj) rfl db_c5 0 (by decide) wn_71 rfl dX6_aheadOfAll_19 ?_
        refine lv_astore (lv' := [(4, .ref (L 2 j)), (0, .ref (L 0 0)), (1, .int a), (2, .int f), (3, .int (nI j))]) hx hb dX6_aheadOfAll_22 hl (by decide) rfl (fun ls hl => ?_)
        refine lv_aload hx hb dX6_aheadOfAll_24 (lv_at hl 0 rfl) ?_
        refine db_getN hx hb hts hown hK hS 2 j (bb_kJ hj) rfl db_c0 0 (by decide) wn_42 rfl dX6_aheadOfAll_26 ?_
        refine lv_if_eq (tgt := 71) hx hb dX6_aheadOfAll_29 (by decide) (fun c29 => ?_) (fun c29 => ?_)
        · refine lv_iinc (v := (nI (j + 1))) (lv' := [(3, .int (nI (j + 1))), (4, .ref (L 2 j)), (0, .ref (L 0 0)), (1, .int a), (2, .int f)]) hx hb dX6_aheadOfAll_71 hl (k := 4) rfl (nI_1 _) (by decide) rfl (fun ls hl => ?_)
          refine lv_goto (tgt := 4) hx hb dX6_aheadOfAll_74 (by decide) ?_
          exact ih4 (j + 1) f (by omega) hj (by rw [db_ah, ← ef, if_neg (by simp [c29])]) _ _ hS _ (lv_sub hl [2, 3, 4, 0] rfl)
        · refine lv_aload hx hb dX6_aheadOfAll_32 (lv_at hl 0 rfl) ?_
          refine db_getN hx hb hts hown hK hS 2 j (bb_kJ hj) rfl db_c0 4 (by decide) wn_51 rfl dX6_aheadOfAll_34 ?_
          refine lv_iload_n hx hb dX6_aheadOfAll_37 rfl (lv_at hl 2 rfl) ?_
          refine lv_icmp_eq (tgt := 44) hx hb dX6_aheadOfAll_38 (by decide) (fun c38 => ?_) (fun c38 => ?_)
          · refine lv_iload_n hx hb dX6_aheadOfAll_44 rfl (lv_at hl 3 rfl) ?_
            refine lv_iconst (v := -1) hx hb dX6_aheadOfAll_45 (by decide) ?_
            refine lv_icmp_eq (tgt := 69) hx hb dX6_aheadOfAll_46 (by decide) (fun c46 => ?_) (fun c46 => ?_)
            · refine lv_iload_n hx hb dX6_aheadOfAll_69 rfl (lv_at hl 4 rfl) ?_
              refine lv_istore_n (lv' := [(2, .int (nI j)), (4, .ref (L 2 j)), (0, .ref (L 0 0)), (1, .int a), (3, .int (nI j))]) hx hb dX6_aheadOfAll_70 rfl hl (by decide) rfl (fun ls hl => ?_)
              refine lv_iinc (v := (nI (j + 1))) (lv' := [(3, .int (nI (j + 1))), (2, .int (nI j)), (4, .ref (L 2 j)), (0, .ref (L 0 0)), (1, .int a)]) hx hb dX6_aheadOfAll_71 hl (k := 4) rfl (nI_1 _) (by decide) rfl (fun ls hl => ?_)
              refine lv_goto (tgt := 4) hx hb dX6_aheadOfAll_74 (by decide) ?_
              exact ih4 (j + 1) (nI j) (by omega) hj (by rw [db_ah, ← ef, if_pos (by simp [c29, c38]), if_pos c46]) _ _ hS _ (lv_sub hl [3, 4, 1, 0] rfl)
            · have hin : db_in f (N 0) := by
                rcases db_ah_in (sel := fun j => decide (¬ X 2 j 0 = 0 ∧ X 2 j 4 = a)) (ef := fun j => X 2 j 5) j with q9 | ⟨w, q1, q2, -⟩
                · exact absurd (ef.trans q9) c46
                · exact ⟨w, by omega, ef.trans q2⟩
              refine lv_aload hx hb dX6_aheadOfAll_49 (lv_at hl 0 rfl) ?_
              refine db_getN hx hb hts hown hK hS 2 j (bb_kJ hj) rfl db_c0 5 (by decide) wn_52 rfl dX6_aheadOfAll_51 ?_
              refine lv_aload_n hx hb dX6_aheadOfAll_54 rfl (lv_at hl 1 rfl) ?_
              refine db_get hx hb hts hown hK hS 0 0 (bb_k 0 rfl) rfl db_c6 0 (by decide) wd_172 rfl dX6_aheadOfAll_55 ?_
              refine lv_iload_n hx hb dX6_aheadOfAll_58 rfl (lv_at hl 3 rfl) ?_
              refine db_ald hx hb hK hS 11 0 (bb_k 11 rfl) 2 rfl rfl f.toNatClampNeg (hin.eq hn0) (hin.lt hn0) hn0 rfl dX6_aheadOfAll_59 ?_
              refine db_getN hx hb hts hown hK hS 1 f.toNatClampNeg (bb_kT (hin.lt hn0)) rfl db_c5 0 (by decide) wn_71 rfl dX6_aheadOfAll_60 ?_
              refine db_getN hx hb hts hown hK hS 2 f.toNatClampNeg (bb_kJ (hin.lt hn0)) rfl db_c0 5 (by decide) wn_52 rfl dX6_aheadOfAll_63 ?_
              refine lv_icmp_ge (tgt := 71) hx hb dX6_aheadOfAll_66 (by decide) (fun c66 => ?_) (fun c66 => ?_)
              · refine lv_iinc (v := (nI (j + 1))) (lv' := [(3, .int (nI (j + 1))), (4, .ref (L 2 j)), (0, .ref (L 0 0)), (1, .int a), (2, .int f)]) hx hb dX6_aheadOfAll_71 hl (k := 4) rfl (nI_1 _) (by decide) rfl (fun ls hl => ?_)
                refine lv_goto (tgt := 4) hx hb dX6_aheadOfAll_74 (by decide) ?_
                exact ih4 (j + 1) f (by omega) hj (by rw [db_ah, ← ef, if_pos (by simp [c29, c38]), if_neg c46, if_neg (Int32.not_lt.mpr c66)]) _ _ hS _ (lv_sub hl [2, 3, 4, 0] rfl)
              · refine lv_iload_n hx hb dX6_aheadOfAll_69 rfl (lv_at hl 4 rfl) ?_
                refine lv_istore_n (lv' := [(2, .int (nI j)), (4, .ref (L 2 j)), (0, .ref (L 0 0)), (1, .int a), (3, .int (nI j))]) hx hb dX6_aheadOfAll_70 rfl hl (by decide) rfl (fun ls hl => ?_)
                refine lv_iinc (v := (nI (j + 1))) (lv' := [(3, .int (nI (j + 1))), (2, .int (nI j)), (4, .ref (L 2 j)), (0, .ref (L 0 0)), (1, .int a)]) hx hb dX6_aheadOfAll_71 hl (k := 4) rfl (nI_1 _) (by decide) rfl (fun ls hl => ?_)
                refine lv_goto (tgt := 4) hx hb dX6_aheadOfAll_74 (by decide) ?_
                exact ih4 (j + 1) (nI j) (by omega) hj (by rw [db_ah, ← ef, if_pos (by simp [c29, c38]), if_neg c46, if_pos (Int32.not_le.mp c66)]) _ _ hS _ (lv_sub hl [3, 4, 1, 0] rfl)
          · refine lv_goto (tgt := 71) hx hb dX6_aheadOfAll_41 (by decide) ?_
            refine lv_iinc (v := (nI (j + 1))) (lv' := [(3, .int (nI (j + 1))), (4, .ref (L 2 j)), (0, .ref (L 0 0)), (1, .int a), (2, .int f)]) hx hb dX6_aheadOfAll_71 hl (k := 4) rfl (nI_1 _) (by decide) rfl (fun ls hl => ?_)
            refine lv_goto (tgt := 4) hx hb dX6_aheadOfAll_74 (by decide) ?_
            exact ih4 (j + 1) f (by omega) hj (by rw [db_ah, ← ef, if_neg (by simp [c38])]) _ _ hS _ (lv_sub hl [2, 3, 4, 0] rfl)
  exact K4 _ 0 (-1) (Nat.le_refl _) (Nat.zero_le _) rfl _ _ hS _ (lv_sub hl [2, 3, 1, 0] rfl)

set_option maxHeartbeats 4000000 in
set_option maxRecDepth 100000 in
theorem c_X6_letGo (l : Launch) (Γ : db_G) (N : Nat → Nat) (L : Nat → Nat → Nat) (cnt : Nat) (X : db_X) (hN : bb_N N) (sz k : Nat) (hI : bb_I N cnt sz X) (hk : k < N 1) : db_C l Γ yX6_letGo cX6_letGo 3 (none) (db_rm 2 49) [.ref (L 0 0), .int (nI k)] L (bb_ok (N 0) cnt) (bb_cel Γ N L) X none (bb_letGo N X k) := by
  have hn0 : N 0 < 2 ^ 31 := by have := hN.2.1; omega
  have hn1 : N 1 < 2 ^ 31 := by have := hN.2.2.1; omega
  have hn2 : N 2 < 2 ^ 31 := by have := hN.2.2.2.1; omega
  have hn3 : N 3 < 2 ^ 31 := by have := hN.2.2.2.2; omega
  refine db_introV (by decide +kernel) (Nat.le_of_ble_eq_true rfl) ?_
  intro p e s m args below meth c A Q ls hC hS hl hret
  have hC : db_Cx p s m args meth c Γ RX6 cX6_letGo 3 (none) := hC
  obtain ⟨hx, hb, hml, hr, hlocks, hown, hts, hK⟩ := id hC
  have hl : lv_has ls 3 [(0, .ref (L 0 0)), (1, .int (nI k))] := hl
  refine lv_aload_n hx hb dX6_letGo_0 rfl (lv_at hl 0 rfl) ?_
  refine db_get hx hb hts hown hK hS 0 0 (bb_k 0 rfl) rfl db_c6 1 (by decide) wd_173 rfl dX6_letGo_1 ?_
  refine lv_iload_n hx hb dX6_letGo_4 rfl (lv_at hl 1 rfl) ?_
  refine lv_iconst (v := -1) hx hb dX6_letGo_5 (by decide) ?_
  refine db_ist hx hb hK hS 3 0 (bb_k 3 rfl) (fun _ => rfl) k rfl hk hn1 dX6_letGo_6 (fun H locs hS => ?_)
  obtain ⟨X1, eX1⟩ : ∃ z, z = db_up X 3 0 k (-1) := ⟨_, rfl⟩
  rw [← eX1] at hS
  have hI1 : bb_I N cnt sz X1 := by rw [eX1]; exact hI.up3 (Or.inl rfl)
  refine lv_aload_n hx hb dX6_letGo_7 rfl (lv_at hl 0 rfl) ?_
  refine db_cV (As := []) (rest := []) (st1 := []) hC hS 0 0 (bb_k 0 rfl) rfl db_c6 (c_X6_inheritDeadlines l Γ N L cnt X1 hN sz hI1) (cw_X6_inheritDeadlines (Nat.le_of_ble_eq_true rfl) (Nat.le_of_ble_eq_true rfl)) wd_276 wd_278 ws_10 rfl hl.1 rfl (Nat.le_of_ble_eq_true rfl) dX6_letGo_8 ⟨Nat.le_of_ble_eq_true rfl, Nat.le_of_ble_eq_true rfl⟩ rfl (fun H locs hS => ?_)
  obtain ⟨X2, eX2⟩ : ∃ z, z = bb_inh N X1 := ⟨_, rfl⟩
  rw [← eX2] at hS
  refine lv_aload_n hx hb dX6_letGo_11 rfl (lv_at hl 0 rfl) ?_
  refine lv_iload_n hx hb dX6_letGo_12 rfl (lv_at hl 1 rfl) ?_
  refine db_cV (As := [.int (nI k)]) (rest := []) (st1 := [.int (bb_ahead N X2 (nI k))]) hC hS 0 0 (bb_k 0 rfl) rfl db_c6 (c_X6_aheadOfAll l Γ N L cnt X2 hN (nI k)) (cw_X6_aheadOfAll (Nat.le_of_ble_eq_true rfl) (Nat.le_of_ble_eq_true rfl)) wd_284 wd_286 ws_12 rfl hl.1 rfl (Nat.le_of_ble_eq_true rfl) dX6_letGo_13 ⟨Nat.le_of_ble_eq_true rfl, Nat.le_of_ble_eq_true rfl⟩ rfl (fun H locs hS => ?_)
  refine lv_istore_n (lv' := [(2, .int (bb_ahead N X2 (nI k))), (0, .ref (L 0 0)), (1, .int (nI k))]) hx hb dX6_letGo_16 rfl hl (by decide) rfl (fun ls hl => ?_)
  refine lv_iload_n hx hb dX6_letGo_17 rfl (lv_at hl 0 rfl) ?_
  refine lv_iconst (v := -1) hx hb dX6_letGo_18 (by decide) ?_
  refine lv_icmp_eq (tgt := 42) hx hb dX6_letGo_19 (by decide) (fun c19 => ?_) (fun c19 => ?_)
  · exact hret _ _ _ _ _ hS (by rw [bb_letGo, bb_lg2, eX2, eX1]; rw [if_pos (by rw [← eX1, ← eX2]; exact c19)]) dX6_letGo_42
  · have hin : db_in (bb_ahead N X2 (nI k)) (N 0) := bb_ahead_in c19
    refine lv_aload_n hx hb dX6_letGo_22 rfl (lv_at hl 1 rfl) ?_
    refine db_get hx hb hts hown hK hS 0 0 (bb_k 0 rfl) rfl db_c6 1 (by decide) wd_173 rfl dX6_letGo_23 ?_
    refine lv_iload_n hx hb dX6_letGo_26 rfl (lv_at hl 2 rfl) ?_
    refine lv_iload_n hx hb dX6_letGo_27 rfl (lv_at hl 0 rfl) ?_
    refine db_ist hx hb hK hS 3 0 (bb_k 3 rfl) (fun _ => rfl) k rfl hk hn1 dX6_letGo_28 (fun H locs hS => ?_)
    obtain ⟨X3, eX3⟩ : ∃ z, z = db_up X2 3 0 k (bb_ahead N X2 (nI k)) := ⟨_, rfl⟩
    rw [← eX3] at hS
    refine lv_aload_n hx hb dX6_letGo_29 rfl (lv_at hl 1 rfl) ?_
    refine db_get hx hb hts hown hK hS 0 0 (bb_k 0 rfl) rfl db_c6 0 (by decide) wd_172 rfl dX6_letGo_30 ?_
    refine lv_iload_n hx hb dX6_letGo_33 rfl (lv_at hl 0 rfl) ?_
    refine db_ald hx hb hK hS 11 0 (bb_k 11 rfl) 2 rfl rfl ((bb_ahead N X2 (nI k)).toNatClampNeg) (hin.eq hn0) (hin.lt hn0) hn0 rfl dX6_letGo_34 ?_
    refine db_getN hx hb hts hown hK hS 1 ((bb_ahead N X2 (nI k)).toNatClampNeg) (bb_kT (hin.lt hn0)) rfl db_c5 0 (by decide) wn_71 rfl dX6_letGo_35 ?_
    refine lv_iconst (v := -1) hx hb dX6_letGo_38 (by decide) ?_
    refine db_putN hx hb hts hown hK hS 2 ((bb_ahead N X2 (nI k)).toNatClampNeg) (bb_kJ (hin.lt hn0)) rfl db_c0 4 (by decide) wn_51 rfl rfl rfl (Nat.le_of_ble_eq_true rfl) rfl dX6_letGo_39 (fun H locs hS => ?_)
    obtain ⟨X4, eX4⟩ : ∃ z, z = db_up X3 2 ((bb_ahead N X2 (nI k)).toNatClampNeg) 4 (-1) := ⟨_, rfl⟩
    rw [← eX4] at hS
    exact hret _ _ _ _ _ hS (by rw [bb_letGo, bb_lg2, eX4, eX3, eX2, eX1]; rw [if_neg (by rw [← eX1, ← eX2]; exact c19)]; rfl) dX6_letGo_42

theorem c_X6_letGo' (l : Launch) (Γ : db_G) (N : Nat → Nat) (L : Nat → Nat → Nat) (cnt : Nat) (X : db_X) (hN : bb_N N) (t : Int32) (sz : Nat) (hI : bb_I N cnt sz X) (ht : db_in t (N 1)) : db_C l Γ yX6_letGo cX6_letGo 3 (none) (db_rm 2 49) [.ref (L 0 0), .int t] L (bb_ok (N 0) cnt) (bb_cel Γ N L) X none (bb_letGo N X t.toNatClampNeg) := by
  have hn1 : N 1 < 2 ^ 31 := by have := hN.2.2.1; omega
  have h := c_X6_letGo l Γ N L cnt X hN sz t.toNatClampNeg hI (ht.lt hn1)
  rw [← ht.eq hn1] at h
  exact h

set_option maxHeartbeats 4000000 in
set_option maxRecDepth 100000 in
theorem c_X6_dropJob (l : Launch) (Γ : db_G) (N : Nat → Nat) (L : Nat → Nat → Nat) (cnt : Nat) (X : db_X) (hN : bb_N N) (sz i : Nat) (hI : bb_I N cnt sz X) (hi : i < N 0) : db_C l Γ yX6_dropJob cX6_dropJob 3 (none) (db_rm 3 71) [.ref (L 0 0), .int (nI i)] L (bb_ok (N 0) cnt) (bb_cel Γ N L) X none (bb_drop N X i) := by
  have hn0 : N 0 < 2 ^ 31 := by have := hN.2.1; omega
  have hn1 : N 1 < 2 ^ 31 := by have := hN.2.2.1; omega
  have hn2 : N 2 < 2 ^ 31 := by have := hN.2.2.2.1; omega
  have hn3 : N 3 < 2 ^ 31 := by have := hN.2.2.2.2; omega
  refine db_introV (by decide +kernel) (Nat.le_of_ble_eq_true rfl) ?_
  intro p e s m args below meth c A Q ls hC hS hl hret
  have hC : db_Cx p s m args meth c Γ RX6 cX6_dropJob 3 (none) := hC
  obtain ⟨hx, hb, hml, hr, hlocks, hown, hts, hK⟩ := id hC
  have hl : lv_has ls 3 [(0, .ref (L 0 0)), (1, .int (nI i))] := hl
  refine lv_aload_n hx hb dX6_dropJob_0 rfl (lv_at hl 0 rfl) ?_
  refine db_get hx hb hts hown hK hS 0 0 (bb_k 0 rfl) rfl db_c6 0 (by decide) wd_172 rfl dX6_dropJob_1 ?_
  refine lv_iload_n hx hb dX6_dropJob_4 rfl (lv_at hl 1 rfl) ?_
  refine db_ald hx hb hK hS 11 0 (bb_k 11 rfl) 2 rfl rfl i rfl hi hn0 rfl dX6_dropJob_5 ?_
  refine db_getN hx hb hts hown hK hS 1 i (bb_kT hi) rfl db_c5 0 (by decide) wn_71 rfl dX6_dropJob_6 ?_
  refine lv_iconst (v := 0) hx hb dX6_dropJob_9 (by decide) ?_
  refine db_putN hx hb hts hown hK hS 2 i (bb_kJ hi) rfl db_c0 0 (by decide) wn_42 rfl (db_nz (Or.inl rfl)) (db_fz (Or.inl rfl)) (Nat.le_of_ble_eq_true rfl) rfl dX6_dropJob_10 (fun H locs hS => ?_)
  obtain ⟨X1, eX1⟩ : ∃ z, z = db_up X 2 i 0 0 := ⟨_, rfl⟩
  rw [← eX1] at hS
  refine lv_aload_n hx hb dX6_dropJob_13 rfl (lv_at hl 0 rfl) ?_
  refine db_get hx hb hts hown hK hS 0 0 (bb_k 0 rfl) rfl db_c6 0 (by decide) wd_172 rfl dX6_dropJob_14 ?_
  refine lv_iload_n hx hb dX6_dropJob_17 rfl (lv_at hl 1 rfl) ?_
  refine db_ald hx hb hK hS 11 0 (bb_k 11 rfl) 2 rfl rfl i rfl hi hn0 rfl dX6_dropJob_18 ?_
  refine db_getN hx hb hts hown hK hS 1 i (bb_kT hi) rfl db_c5 0 (by decide) wn_71 rfl dX6_dropJob_19 ?_
  refine lv_iconst (v := -1) hx hb dX6_dropJob_22 (by decide) ?_
  refine db_putN hx hb hts hown hK hS 2 i (bb_kJ hi) rfl db_c0 4 (by decide) wn_51 rfl rfl rfl (Nat.le_of_ble_eq_true rfl) rfl dX6_dropJob_23 (fun H locs hS => ?_)
  obtain ⟨X2, eX2⟩ : ∃ z, z = db_up X1 2 i 4 (-1) := ⟨_, rfl⟩
  rw [← eX2] at hS
  refine lv_iconst (v := 0) hx hb dX6_dropJob_26 (by decide) ?_
  refine lv_istore_n (lv' := [(2, .int 0), (0, .ref (L 0 0)), (1, .int (nI i))]) hx hb dX6_dropJob_27 rfl hl (by decide) rfl (fun ls hl => ?_)
  have K28 : ∀ (q : Nat) (k : Nat) (Xa : db_X) (hq : N 1 + 1 - k ≤ q) (hk0 : k ≤ N 1) (eXa : Xa = bb_dropL N (db_up (db_up X 2 i 0 0) 2 i 4 (-1)) i k) (H : Heap) (locs : List Loc) (hS : db_S Γ A s.heap L (bb_ok (N 0) cnt) (bb_cel Γ N L) Xa H locs) (ls : Array Slot) (hl : lv_has ls 3 [(0, .ref (L 0 0)), (1, .int (nI i)), (2, .int (nI k))]), W p l e (db_rm 3 71) s m args below meth c H locs 0 0 Q (F0 m 28 ls []) := by
    intro q28
    induction q28 with
    | zero =>
      intro k Xa hq28 hk0 eXa
      exact absurd hq28 (by omega)
    | succ q28 ih28 =>
      intro k Xa hq28 hk0 eXa H locs hS ls hl
      have hIa : bb_I N cnt sz Xa := by rw [eXa]; exact ((hI.up rfl).up4 (Or.inl rfl)).dropL k
      refine lv_iload_n hx hb dX6_dropJob_28 rfl (lv_at hl 2 rfl) ?_
      refine lv_aload_n hx hb dX6_dropJob_29 rfl (lv_at hl 0 rfl) ?_
      refine db_get hx hb hts hown hK hS 0 0 (bb_k 0 rfl) rfl db_c6 1 (by decide) wd_173 rfl dX6_dropJob_30 ?_
      refine db_alen hx hb hK hS 3 0 (bb_k 3 rfl) 0 rfl rfl dX6_dropJob_33 ?_
      refine lv_icmp_ge (tgt := 58) hx hb dX6_dropJob_34 (by decide) (fun c34 => ?_) (fun c34 => ?_)
      · have hk : k = N 1 := by
          rcases Nat.lt_or_ge k (N 1) with q9 | q9
          · exact absurd c34 (nI_ge q9 hn1)
          · omega
        exact hret _ _ _ _ _ hS (by rw [eXa, hk]; rfl) dX6_dropJob_58
      · have hk : k < N 1 := by
          rcases Nat.lt_or_ge k (N 1) with q9 | q9
          · exact q9
          · exact absurd (nI_le q9 (by omega)) c34
        refine lv_aload_n hx hb dX6_dropJob_37 rfl (lv_at hl 0 rfl) ?_
        refine db_get hx hb hts hown hK hS 0 0 (bb_k 0 rfl) rfl db_c6 1 (by decide) wd_173 rfl dX6_dropJob_38 ?_
        refine lv_iload_n hx hb dX6_dropJob_41 rfl (lv_at hl 2 rfl) ?_
        refine db_ild hx hb hK hS 3 0 (bb_k 3 rfl) rfl k rfl hk hn1 dX6_dropJob_42 ?_
        refine lv_iload_n hx hb dX6_dropJob_43 rfl (lv_at hl 1 rfl) ?_
        refine lv_icmp_ne (tgt := 52) hx hb dX6_dropJob_44 (by decide) (fun c44 => ?_) (fun c44 => ?_)
        · refine lv_iinc (v := (nI (k + 1))) (lv' := [(2, .int (nI (k + 1))), (0, .ref (L 0 0)), (1, .int (nI i))]) hx hb dX6_dropJob_52 hl (k := 2) rfl (nI_1 _) (by decide) rfl (fun ls hl => ?_)
          refine lv_goto (tgt := 28) hx hb dX6_dropJob_55 (by decide) ?_
          exact ih28 (k + 1) Xa (by omega) hk (by rw [bb_dropL, ← eXa, if_neg c44]) _ _ hS _ (lv_sub hl [1, 2, 0] rfl)
        · refine lv_aload_n hx hb dX6_dropJob_47 rfl (lv_at hl 0 rfl) ?_
          refine lv_iload_n hx hb dX6_dropJob_48 rfl (lv_at hl 2 rfl) ?_
          refine db_cV (As := [.int (nI k)]) (rest := []) (st1 := []) hC hS 0 0 (bb_k 0 rfl) rfl db_c6 (c_X6_letGo l Γ N L cnt Xa hN sz k hIa hk) (cw_X6_letGo (Nat.le_of_ble_eq_true rfl) (Nat.le_of_ble_eq_true rfl)) wd_272 wd_274 ws_9 rfl hl.1 rfl (Nat.le_of_ble_eq_true rfl) dX6_dropJob_49 ⟨Nat.le_of_ble_eq_true rfl, Nat.le_of_ble_eq_true rfl⟩ rfl (fun H locs hS => ?_)
          obtain ⟨X3, eX3⟩ : ∃ z, z = bb_letGo N Xa k := ⟨_, rfl⟩
          rw [← eX3] at hS
          refine lv_iinc (v := (nI (k + 1))) (lv' := [(2, .int (nI (k + 1))), (0, .ref (L 0 0)), (1, .int (nI i))]) hx hb dX6_dropJob_52 hl (k := 2) rfl (nI_1 _) (by decide) rfl (fun ls hl => ?_)
          refine lv_goto (tgt := 28) hx hb dX6_dropJob_55 (by decide) ?_
          exact ih28 (k + 1) X3 (by omega) hk (by rw [bb_dropL, ← eXa, if_pos c44, eX3]) _ _ hS _ (lv_sub hl [1, 2, 0] rfl)
  exact K28 _ 0 X2 (Nat.le_refl _) (Nat.zero_le _) (by rw [eX2, eX1]; rfl) _ _ hS _ (lv_sub hl [1, 2, 0] rfl)
end
section
set_option maxHeartbeats 4000000 in
set_option maxRecDepth 100000 in
theorem c_X6_dropLateJobs (l : Launch) (Γ : db_G) (N : Nat → Nat) (L : Nat → Nat → Nat) (cnt : Nat) (X : db_X) (hN : bb_N N) (sz tm : Nat) (hI : bb_I N cnt sz X) (htm : X 6 0 2 = nI tm) (htm2 : tm + 40 < 2 ^ 31) : db_C l Γ yX6_dropLateJobs cX6_dropLateJobs 2 (none) (db_rm 4 93) [.ref (L 0 0)] L (bb_ok (N 0) cnt) (bb_cel Γ N L) X none (bb_late N X (N 0)) := by
  have hn0 : N 0 < 2 ^ 31 := by have := hN.2.1; omega
  have hn1 : N 1 < 2 ^ 31 := by have := hN.2.2.1; omega
  have hn2 : N 2 < 2 ^ 31 := by have := hN.2.2.2.1; omega
  have hn3 : N 3 < 2 ^ 31 := by have := hN.2.2.2.2; omega
  refine db_introV (by decide +kernel) (Nat.le_of_ble_eq_true rfl) ?_
  intro p e s m args below meth c A Q ls hC hS hl hret
  have hC : db_Cx p s m args meth c Γ RX6 cX6_dropLateJobs 2 (none) := hC
  obtain ⟨hx, hb, hml, hr, hlocks, hown, hts, hK⟩ := id hC
  have hl : lv_has ls 2 [(0, .ref (L 0 0))] := hl
  have hN40 : N 0 ≤ 40 := hN.2.1
  refine lv_iconst (v := 0) hx hb dX6_dropLateJobs_0 (by decide) ?_
  refine lv_istore_n (lv' := [(1, .int 0), (0, .ref (L 0 0))]) hx hb dX6_dropLateJobs_1 rfl hl (by decide) rfl (fun ls hl => ?_)
  have K2 : ∀ (q : Nat) (i : Nat) (Xa : db_X) (hq : N 0 + 1 - i ≤ q) (hi0 : i ≤ N 0) (eXa : Xa = bb_late N X i) (H : Heap) (locs : List Loc) (hS : db_S Γ A s.heap L (bb_ok (N 0) cnt) (bb_cel Γ N L) Xa H locs) (ls : Array Slot) (hl : lv_has ls 2 [(0, .ref (L 0 0)), (1, .int (nI i))]), W p l e (db_rm 4 93) s m args below meth c H locs 0 0 Q (F0 m 2 ls []) := by
    intro q2
    induction q2 with
    | zero =>
      intro i Xa hq2 hi0 eXa
      exact absurd hq2 (by omega)
    | succ q2 ih2 =>
      intro i Xa hq2 hi0 eXa H locs hS ls hl
      have hIa : bb_I N cnt sz Xa := by rw [eXa]; exact hI.late i
      obtain ⟨ta, hta, eta⟩ := bb_late_tot (N := N) htm i
      have h0a : ¬ Xa 6 0 2 < 0 := by rw [eXa, eta]; exact nI_pos (by omega)
      refine lv_iload_n hx hb dX6_dropLateJobs_2 rfl (lv_at hl 1 rfl) ?_
      refine lv_aload_n hx hb dX6_dropLateJobs_3 rfl (lv_at hl 0 rfl) ?_
      refine db_get hx hb hts hown hK hS 0 0 (bb_k 0 rfl) rfl db_c6 0 (by decide) wd_172 rfl dX6_dropLateJobs_4 ?_
      refine db_alen hx hb hK hS 11 0 (bb_k 11 rfl) 2 rfl rfl dX6_dropLateJobs_7 ?_
      refine lv_icmp_ge (tgt := 83) hx hb dX6_dropLateJobs_8 (by decide) (fun c8 => ?_) (fun c8 => ?_)
      · have hi : i = N 0 := by
          rcases Nat.lt_or_ge i (N 0) with q9 | q9
          · exact absurd c8 (nI_ge q9 hn0)
          · omega
        exact hret _ _ _ _ _ hS (by rw [eXa, hi]) dX6_dropLateJobs_83
      · have hi : i < N 0 := by
          rcases Nat.lt_or_ge i (N 0) with q9 | q9
          · exact q9
          · exact absurd (nI_le q9 (by omega)) c8
        refine lv_aload_n hx hb dX6_dropLateJobs_11 rfl (lv_at hl 0 rfl) ?_
        refine db_get hx hb hts hown hK hS 0 0 (bb_k 0 rfl) rfl db_c6 0 (by decide) wd_172 rfl dX6_dropLateJobs_12 ?_
        refine lv_iload_n hx hb dX6_dropLateJobs_15 rfl (lv_at hl 1 rfl) ?_
        refine db_ald hx hb hK hS 11 0 (bb_k 11 rfl) 2 rfl rfl i rfl hi hn0 rfl dX6_dropLateJobs_16 ?_
        refine db_getN hx hb hts hown hK hS 1 i (bb_kT hi) rfl db_c5 0 (by decide) wn_71 rfl dX6_dropLateJobs_17 ?_
        refine db_getN hx hb hts hown hK hS 2 i (bb_kJ hi) rfl db_c0 0 (by decide) wn_42 rfl dX6_dropLateJobs_20 ?_
        refine lv_if_eq (tgt := 77) hx hb dX6_dropLateJobs_23 (by decide) (fun c23 => ?_) (fun c23 => ?_)
        · refine lv_iinc (v := (nI (i + 1))) (lv' := [(1, .int (nI (i + 1))), (0, .ref (L 0 0))]) hx hb dX6_dropLateJobs_77 hl (k := 1) rfl (nI_1 _) (by decide) rfl (fun ls hl => ?_)
          refine lv_goto (tgt := 2) hx hb dX6_dropLateJobs_80 (by decide) ?_
          exact ih2 (i + 1) Xa (by omega) hi (by rw [bb_late, bb_late1, ← eXa, if_pos c23]) _ _ hS _ (lv_sub hl [1, 0] rfl)
        · refine lv_aload_n hx hb dX6_dropLateJobs_26 rfl (lv_at hl 0 rfl) ?_
          refine db_get hx hb hts hown hK hS 0 0 (bb_k 0 rfl) rfl db_c6 0 (by decide) wd_172 rfl dX6_dropLateJobs_27 ?_
          refine lv_iload_n hx hb dX6_dropLateJobs_30 rfl (lv_at hl 1 rfl) ?_
          refine db_ald hx hb hK hS 11 0 (bb_k 11 rfl) 2 rfl rfl i rfl hi hn0 rfl dX6_dropLateJobs_31 ?_
          refine db_getN hx hb hts hown hK hS 1 i (bb_kT hi) rfl db_c5 0 (by decide) wn_71 rfl dX6_dropLateJobs_32 ?_
          refine db_getN hx hb hts hown hK hS 2 i (bb_kJ hi) rfl db_c0 2 (by decide) wn_47 rfl dX6_dropLateJobs_35 ?_
          refine lv_aload_n hx hb dX6_dropLateJobs_38 rfl (lv_at hl 0 rfl) ?_
          refine db_get hx hb hts hown hK hS 0 0 (bb_k 0 rfl) rfl db_c6 6 (by decide) wd_178 rfl dX6_dropLateJobs_39 ?_
          refine lv_icmp_ne (tgt := 77) hx hb dX6_dropLateJobs_42 (by decide) (fun c42 => ?_) (fun c42 => ?_)
          · refine lv_iinc (v := (nI (i + 1))) (lv' := [(1, .int (nI (i + 1))), (0, .ref (L 0 0))]) hx hb dX6_dropLateJobs_77 hl (k := 1) rfl (nI_1 _) (by decide) rfl (fun ls hl => ?_)
            refine lv_goto (tgt := 2) hx hb dX6_dropLateJobs_80 (by decide) ?_
            exact ih2 (i + 1) Xa (by omega) hi (by rw [bb_late, bb_late1, ← eXa, if_neg c23, if_neg c42]) _ _ hS _ (lv_sub hl [1, 0] rfl)
          · refine lv_aload_n hx hb dX6_dropLateJobs_45 rfl (lv_at hl 0 rfl) ?_
            refine db_get hx hb hts hown hK hS 0 0 (bb_k 0 rfl) rfl db_c6 3 (by decide) wd_175 rfl dX6_dropLateJobs_46 ?_
            refine lv_iload_n hx hb dX6_dropLateJobs_49 rfl (lv_at hl 1 rfl) ?_
            refine lv_aload_n hx hb dX6_dropLateJobs_50 rfl (lv_at hl 0 rfl) ?_
            refine db_get hx hb hts hown hK hS 0 0 (bb_k 0 rfl) rfl db_c6 6 (by decide) wd_178 rfl dX6_dropLateJobs_51 ?_
            refine db_cVN (As := [.int (nI i), .int (Xa 0 0 6)]) (rest := []) (st1 := []) hC hS 6 0 (bb_k 6 rfl) rfl db_c1 (c_X1_note l Γ N L cnt Xa hN (nI i) (Xa 0 0 6) h0a) (cw_X1_note (Nat.le_of_ble_eq_true rfl) (Nat.le_of_ble_eq_true rfl)) wn_312 wd_314 ws_17 rfl hl.1 rfl (Nat.le_of_ble_eq_true rfl) dX6_dropLateJobs_54 ⟨Nat.le_of_ble_eq_true rfl, Nat.le_of_ble_eq_true rfl⟩ rfl (fun H locs hS => ?_)
            obtain ⟨X1, eX1⟩ : ∃ z, z = bb_note N Xa (nI i) (Xa 0 0 6) := ⟨_, rfl⟩
            rw [← eX1] at hS
            refine lv_aload_n hx hb dX6_dropLateJobs_57 rfl (lv_at hl 0 rfl) ?_
            refine db_get hx hb hts hown hK hS 0 0 (bb_k 0 rfl) rfl db_c6 0 (by decide) wd_172 rfl dX6_dropLateJobs_58 ?_
            refine lv_iload_n hx hb dX6_dropLateJobs_61 rfl (lv_at hl 1 rfl) ?_
            refine db_ald hx hb hK hS 11 0 (bb_k 11 rfl) 2 rfl rfl i rfl hi hn0 rfl dX6_dropLateJobs_62 ?_
            refine lv_dup hx hb dX6_dropLateJobs_63 rfl ?_
            refine db_getN hx hb hts hown hK hS 1 i (bb_kT hi) rfl db_c5 8 (by decide) wn_87 rfl dX6_dropLateJobs_64 ?_
            refine lv_iconst (v := 1) hx hb dX6_dropLateJobs_67 (by decide) ?_
            refine lv_iadd hx hb dX6_dropLateJobs_68 ?_
            refine db_putN hx hb hts hown hK hS 1 i (bb_kT hi) rfl db_c5 8 (by decide) wn_87 rfl rfl rfl (Nat.le_of_ble_eq_true rfl) rfl dX6_dropLateJobs_69 (fun H locs hS => ?_)
            obtain ⟨X2, eX2⟩ : ∃ z, z = db_up X1 1 i 8 ((X1 1 i 8) + 1) := ⟨_, rfl⟩
            rw [← eX2] at hS
            have hIb : bb_I N cnt sz X2 := by rw [eX2, eX1]; exact hIa.note.up rfl
            refine lv_aload_n hx hb dX6_dropLateJobs_72 rfl (lv_at hl 0 rfl) ?_
            refine lv_iload_n hx hb dX6_dropLateJobs_73 rfl (lv_at hl 1 rfl) ?_
            refine db_cV (As := [.int (nI i)]) (rest := []) (st1 := []) hC hS 0 0 (bb_k 0 rfl) rfl db_c6 (c_X6_dropJob l Γ N L cnt X2 hN sz i hIb hi) (cw_X6_dropJob (Nat.le_of_ble_eq_true rfl) (Nat.le_of_ble_eq_true rfl)) wd_268 wd_270 ws_8 rfl hl.1 rfl (Nat.le_of_ble_eq_true rfl) dX6_dropLateJobs_74 ⟨Nat.le_of_ble_eq_true rfl, Nat.le_of_ble_eq_true rfl⟩ rfl (fun H locs hS => ?_)
            obtain ⟨X3, eX3⟩ : ∃ z, z = bb_drop N X2 i := ⟨_, rfl⟩
            rw [← eX3] at hS
            refine lv_iinc (v := (nI (i + 1))) (lv' := [(1, .int (nI (i + 1))), (0, .ref (L 0 0))]) hx hb dX6_dropLateJobs_77 hl (k := 1) rfl (nI_1 _) (by decide) rfl (fun ls hl => ?_)
            refine lv_goto (tgt := 2) hx hb dX6_dropLateJobs_80 (by decide) ?_
            exact ih2 (i + 1) X3 (by omega) hi (by rw [bb_late, bb_late1, ← eXa, if_neg c23, if_pos c42, eX3, eX2, eX1]; rfl) _ _ hS _ (lv_sub hl [1, 0] rfl)
  exact K2 _ 0 X (Nat.le_refl _) (Nat.zero_le _) rfl _ _ hS _ (lv_sub hl [1, 0] rfl)

set_option maxHeartbeats 4000000 in
set_option maxRecDepth 100000 in
theorem c_X6_releaseJobs (l : Launch) (Γ : db_G) (N : Nat → Nat) (L : Nat → Nat → Nat) (cnt : Nat) (X : db_X) (hN : bb_N N) : db_C l Γ yX6_releaseJobs cX6_releaseJobs 5 (none) (db_rm 2 42) [.ref (L 0 0)] L (bb_ok (N 0) cnt) (bb_cel Γ N L) X none (bb_rels X (N 0)) := by
  have hn0 : N 0 < 2 ^ 31 := by have := hN.2.1; omega
  have hn1 : N 1 < 2 ^ 31 := by have := hN.2.2.1; omega
  have hn2 : N 2 < 2 ^ 31 := by have := hN.2.2.2.1; omega
  have hn3 : N 3 < 2 ^ 31 := by have := hN.2.2.2.2; omega
  refine db_introV (by decide +kernel) (Nat.le_of_ble_eq_true rfl) ?_
  intro p e s m args below meth c A Q ls hC hS hl hret
  have hC : db_Cx p s m args meth c Γ RX6 cX6_releaseJobs 5 (none) := hC
  obtain ⟨hx, hb, hml, hr, hlocks, hown, hts, hK⟩ := id hC
  have hl : lv_has ls 5 [(0, .ref (L 0 0))] := hl
  refine lv_aload_n hx hb dX6_releaseJobs_0 rfl (lv_at hl 0 rfl) ?_
  refine db_get hx hb hts hown hK hS 0 0 (bb_k 0 rfl) rfl db_c6 0 (by decide) wd_172 rfl dX6_releaseJobs_1 ?_
  refine lv_astore_n (lv' := [(1, .ref (L 11 0)), (0, .ref (L 0 0))]) hx hb dX6_releaseJobs_4 rfl hl (by decide) rfl (fun ls hl => ?_)
  refine lv_aload_n hx hb dX6_releaseJobs_5 rfl (lv_at hl 0 rfl) ?_
  refine db_alen hx hb hK hS 11 0 (bb_k 11 rfl) 2 rfl rfl dX6_releaseJobs_6 ?_
  refine lv_istore_n (lv' := [(2, .int (nI (N 0))), (1, .ref (L 11 0)), (0, .ref (L 0 0))]) hx hb dX6_releaseJobs_7 rfl hl (by decide) rfl (fun ls hl => ?_)
  refine lv_iconst (v := 0) hx hb dX6_releaseJobs_8 (by decide) ?_
  refine lv_istore_n (lv' := [(3, .int 0), (2, .int (nI (N 0))), (1, .ref (L 11 0)), (0, .ref (L 0 0))]) hx hb dX6_releaseJobs_9 rfl hl (by decide) rfl (fun ls hl => ?_)
  have K10 : ∀ (q : Nat) (i : Nat) (Xa : db_X) (hq : N 0 + 1 - i ≤ q) (hi0 : i ≤ N 0) (eXa : Xa = bb_rels X i) (H : Heap) (locs : List Loc) (hS : db_S Γ A s.heap L (bb_ok (N 0) cnt) (bb_cel Γ N L) Xa H locs) (ls : Array Slot) (hl : lv_has ls 5 [(0, .ref (L 0 0)), (1, .ref (L 11 0)), (2, .int (nI (N 0))), (3, .int (nI i))]), W p l e (db_rm 2 42) s m args below meth c H locs 0 0 Q (F0 m 10 ls []) := by
    intro q10
    induction q10 with
    | zero =>
      intro i Xa hq10 hi0 eXa
      exact absurd hq10 (by omega)
    | succ q10 ih10 =>
      intro i Xa hq10 hi0 eXa H locs hS ls hl
      refine lv_iload_n hx hb dX6_releaseJobs_10 rfl (lv_at hl 3 rfl) ?_
      refine lv_iload_n hx hb dX6_releaseJobs_11 rfl (lv_at hl 2 rfl) ?_
      refine lv_icmp_ge (tgt := 51) hx hb dX6_releaseJobs_12 (by decide) (fun c12 => ?_) (fun c12 => ?_)
      · have hi : i = N 0 := by
          rcases Nat.lt_or_ge i (N 0) with q9 | q9
          · exact absurd c12 (nI_ge q9 hn0)
          · omega
        exact hret _ _ _ _ _ hS (by rw [eXa, hi]) dX6_releaseJobs_51
      · have hi : i < N 0 := by
          rcases Nat.lt_or_ge i (N 0) with q9 | q9
          · exact q9
          · exact absurd (nI_le q9 (by omega)) c12
        refine lv_aload_n hx hb dX6_releaseJobs_15 rfl (lv_at hl 1 rfl) ?_
        refine lv_iload_n hx hb dX6_releaseJobs_16 rfl (lv_at hl 3 rfl) ?_
        refine db_ald hx hb hK hS 11 0 (bb_k 11 rfl) 2 rfl rfl i rfl hi hn0 rfl dX6_releaseJobs_17 ?_
        refine lv_astore (lv' := [(4, .ref (L 1 i)), (0, .ref (L 0 0)), (1, .ref (L 11 0)), (2, .int (nI (N 0))), (3, .int (nI i))]) hx hb dX6_releaseJobs_18 hl (by decide) rfl (fun ls hl => ?_)
        refine lv_aload hx hb dX6_releaseJobs_20 (lv_at hl 0 rfl) ?_
        refine db_getN hx hb hts hown hK hS 1 i (bb_kT hi) rfl db_c5 1 (by decide) wn_73 rfl dX6_releaseJobs_22 ?_
        refine lv_if_eq (tgt := 45) hx hb dX6_releaseJobs_25 (by decide) (fun c25 => ?_) (fun c25 => ?_)
        · refine lv_iinc (v := (nI (i + 1))) (lv' := [(3, .int (nI (i + 1))), (4, .ref (L 1 i)), (0, .ref (L 0 0)), (1, .ref (L 11 0)), (2, .int (nI (N 0)))]) hx hb dX6_releaseJobs_45 hl (k := 4) rfl (nI_1 _) (by decide) rfl (fun ls hl => ?_)
          refine lv_goto (tgt := 10) hx hb dX6_releaseJobs_48 (by decide) ?_
          exact ih10 (i + 1) Xa (by omega) hi (by rw [bb_rels, bb_rels1, ← eXa, if_pos c25]) _ _ hS _ (lv_sub hl [2, 3, 4, 0] rfl)
        · refine lv_aload hx hb dX6_releaseJobs_28 (lv_at hl 0 rfl) ?_
          refine db_getN hx hb hts hown hK hS 1 i (bb_kT hi) rfl db_c5 5 (by decide) wn_81 rfl dX6_releaseJobs_30 ?_
          refine lv_aload_n hx hb dX6_releaseJobs_33 rfl (lv_at hl 1 rfl) ?_
          refine db_get hx hb hts hown hK hS 0 0 (bb_k 0 rfl) rfl db_c6 6 (by decide) wd_178 rfl dX6_releaseJobs_34 ?_
          refine lv_icmp_ne (tgt := 45) hx hb dX6_releaseJobs_37 (by decide) (fun c37 => ?_) (fun c37 => ?_)
          · refine lv_iinc (v := (nI (i + 1))) (lv' := [(3, .int (nI (i + 1))), (4, .ref (L 1 i)), (0, .ref (L 0 0)), (1, .ref (L 11 0)), (2, .int (nI (N 0)))]) hx hb dX6_releaseJobs_45 hl (k := 4) rfl (nI_1 _) (by decide) rfl (fun ls hl => ?_)
            refine lv_goto (tgt := 10) hx hb dX6_releaseJobs_48 (by decide) ?_
            exact ih10 (i + 1) Xa (by omega) hi (by rw [bb_rels, bb_rels1, ← eXa, if_neg c25, if_neg c37]) _ _ hS _ (lv_sub hl [2, 3, 4, 0] rfl)
          · refine lv_aload hx hb dX6_releaseJobs_40 (lv_at hl 0 rfl) ?_
            refine db_cVN (As := []) (rest := []) (st1 := []) hC hS 1 i (bb_kT hi) rfl db_c5 (c_X5_releaseJob l Γ N L cnt Xa hN i hi) (cw_X5_releaseJob (Nat.le_of_ble_eq_true rfl) (Nat.le_of_ble_eq_true rfl)) wn_320 wd_322 ws_19 rfl hl.1 rfl (Nat.le_of_ble_eq_true rfl) dX6_releaseJobs_42 ⟨Nat.le_of_ble_eq_true rfl, Nat.le_of_ble_eq_true rfl⟩ rfl (fun H locs hS => ?_)
            obtain ⟨X1, eX1⟩ : ∃ z, z = bb_rel Xa i := ⟨_, rfl⟩
            rw [← eX1] at hS
            refine lv_iinc (v := (nI (i + 1))) (lv' := [(3, .int (nI (i + 1))), (4, .ref (L 1 i)), (0, .ref (L 0 0)), (1, .ref (L 11 0)), (2, .int (nI (N 0)))]) hx hb dX6_releaseJobs_45 hl (k := 4) rfl (nI_1 _) (by decide) rfl (fun ls hl => ?_)
            refine lv_goto (tgt := 10) hx hb dX6_releaseJobs_48 (by decide) ?_
            exact ih10 (i + 1) X1 (by omega) hi (by rw [bb_rels, bb_rels1, ← eXa, if_neg c25, if_pos c37, eX1]) _ _ hS _ (lv_sub hl [2, 3, 4, 0] rfl)
  exact K10 _ 0 X (Nat.le_refl _) (Nat.zero_le _) rfl _ _ hS _ (lv_sub hl [3, 2, 1, 0] rfl)

theorem bb_take01 {i : Nat} : ∀ (q p : Nat) (X : db_X), (bb_takeF i q p X).1 = 0 ∨ (bb_takeF i q p X).1 = 1
  | 0, _, _ => Or.inr rfl
  | q + 1, p, X => by
    unfold bb_takeF
    split
    · exact bb_take01 q (p + 1) X
    · split
      · exact bb_take01 q (p + 1) X
      · split
        · exact bb_take01 q (p + 1) _
        · split
          · exact bb_take01 q (p + 1) X
          · exact Or.inl rfl

set_option maxHeartbeats 4000000 in
set_option maxRecDepth 100000 in
theorem c_X6_takeLocks (l : Launch) (Γ : db_G) (N : Nat → Nat) (L : Nat → Nat → Nat) (cnt : Nat) (X : db_X) (hN : bb_N N) (sz i : Nat) (hI : bb_I N cnt sz X) (hcn : cnt < 2 ^ 31) (hi : i < N 0) : db_C l Γ yX6_takeLocks cX6_takeLocks 5 (some .boolean) (db_rm 0 0) [.ref (L 0 0), .int (nI i)] L (bb_ok (N 0) cnt) (bb_cel Γ N L) X (some (.int ((bb_take X sz i).1))) ((bb_take X sz i).2) := by
  have hn0 : N 0 < 2 ^ 31 := by have := hN.2.1; omega
  have hn1 : N 1 < 2 ^ 31 := by have := hN.2.2.1; omega
  have hn2 : N 2 < 2 ^ 31 := by have := hN.2.2.2.1; omega
  have hn3 : N 3 < 2 ^ 31 := by have := hN.2.2.2.2; omega
  refine db_introZ (by decide +kernel) (Nat.le_of_ble_eq_true rfl) (bb_take01 _ _ _) ?_
  intro p e s m args below meth c A Q ls hC hS hl hret
  have hC : db_Cx p s m args meth c Γ RX6 cX6_takeLocks 5 (some .boolean) := hC
  obtain ⟨hx, hb, hml, hr, hlocks, hown, hts, hK⟩ := id hC
  have hl : lv_has ls 5 [(0, .ref (L 0 0)), (1, .int (nI i))] := hl
  refine lv_aload_n hx hb dX6_takeLocks_0 rfl (lv_at hl 0 rfl) ?_
  refine db_get hx hb hts hown hK hS 0 0 (bb_k 0 rfl) rfl db_c6 0 (by decide) wd_172 rfl dX6_takeLocks_1 ?_
  refine lv_iload_n hx hb dX6_takeLocks_4 rfl (lv_at hl 1 rfl) ?_
  refine db_ald hx hb hK hS 11 0 (bb_k 11 rfl) 2 rfl rfl i rfl hi hn0 rfl dX6_takeLocks_5 ?_
  refine db_getN hx hb hts hown hK hS 1 i (bb_kT hi) rfl db_c5 0 (by decide) wn_71 rfl dX6_takeLocks_6 ?_
  refine lv_astore_n (lv' := [(2, .ref (L 2 i)), (0, .ref (L 0 0)), (1, .int (nI i))]) hx hb dX6_takeLocks_9 rfl hl (by decide) rfl (fun ls hl => ?_)
  refine lv_iconst (v := 0) hx hb dX6_takeLocks_10 (by decide) ?_
  refine lv_istore_n (lv' := [(3, .int 0), (2, .ref (L 2 i)), (0, .ref (L 0 0)), (1, .int (nI i))]) hx hb dX6_takeLocks_11 rfl hl (by decide) rfl (fun ls hl => ?_)
  have K12 : ∀ (q : Nat) (u : Nat) (Xa : db_X) (hq : sz + 1 - u ≤ q) (hu0 : u ≤ sz) (hIa : bb_I N cnt sz Xa) (hrem : bb_take X sz i = bb_takeF i (sz - u) u Xa) (H : Heap) (locs : List Loc) (hS : db_S Γ A s.heap L (bb_ok (N 0) cnt) (bb_cel Γ N L) Xa H locs) (ls : Array Slot) (hl : lv_has ls 5 [(0, .ref (L 0 0)), (1, .int (nI i)), (2, .ref (L 2 i)), (3, .int (nI u))]), W p l e (db_rm 0 0) s m args below meth c H locs 0 0 Q (F0 m 12 ls []) := by
    intro q12
    induction q12 with
    | zero =>
      intro u Xa hq12 hu0 hIa hrem
      exact absurd hq12 (by omega)
    | succ q12 ih12 =>
      intro u Xa hq12 hu0 hIa hrem H locs hS ls hl
      have hsz : sz < 2 ^ 31 := by have := hIa.2.2.2.1; omega
      refine lv_iload_n hx hb dX6_takeLocks_12 rfl (lv_at hl 3 rfl) ?_
      refine lv_aload_n hx hb dX6_takeLocks_13 rfl (lv_at hl 0 rfl) ?_
      refine db_get hx hb hts hown hK hS 0 0 (bb_k 0 rfl) rfl db_c6 2 (by decide) wd_174 rfl dX6_takeLocks_14 ?_
      refine db_getN hx hb hts hown hK hS 4 0 (bb_k 4 rfl) rfl db_c4 1 (by decide) wn_133 rfl dX6_takeLocks_17 ?_
      rw [show Xa 4 0 1 = nI sz from hIa.2.2.1]
      refine lv_icmp_ge (tgt := 117) hx hb dX6_takeLocks_20 (by decide) (fun c20 => ?_) (fun c20 => ?_)
      · have hu : u = sz := by
          rcases Nat.lt_or_ge u (sz) with q9 | q9
          · exact absurd c20 (nI_ge q9 hsz)
          · omega
        refine lv_iconst (v := 1) hx hb dX6_takeLocks_117 (by decide) ?_
        exact hret _ _ _ _ _ _ hS (by rw [hrem, hu, Nat.sub_self]; rfl) (by rw [hrem, hu, Nat.sub_self]; rfl) dX6_takeLocks_118
      · have hu : u < sz := by
          rcases Nat.lt_or_ge u (sz) with q9 | q9
          · exact q9
          · exact absurd (nI_le q9 (by omega)) c20
        have hlk : db_in (bb_sec Xa u 2) (N 1) := (hIa.2.2.2.2 u hu).2
        refine lv_aload_n hx hb dX6_takeLocks_23 rfl (lv_at hl 0 rfl) ?_
        refine db_get hx hb hts hown hK hS 0 0 (bb_k 0 rfl) rfl db_c6 2 (by decide) wd_174 rfl dX6_takeLocks_24 ?_
        refine db_getN hx hb hts hown hK hS 4 0 (bb_k 4 rfl) rfl db_c4 0 (by decide) wn_131 rfl dX6_takeLocks_27 ?_
        refine lv_iload_n hx hb dX6_takeLocks_30 rfl (lv_at hl 3 rfl) ?_
        refine db_ald hx hb hK hS 5 0 (bb_k 5 rfl) 3 rfl rfl u rfl (Nat.lt_of_lt_of_le hu hIa.2.2.2.1) hn2 (bb_rowf (hIa.2.2.2.2 u hu).1 hcn) dX6_takeLocks_31 ?_
        refine lv_astore (lv' := [(4, .ref (L 12 ((Xa 5 0 u).toNatClampNeg))), (0, .ref (L 0 0)), (1, .int (nI i)), (2, .ref (L 2 i)), (3, .int (nI u))]) hx hb dX6_takeLocks_32 hl (by decide) rfl (fun ls hl => ?_)
        refine lv_aload hx hb dX6_takeLocks_34 (lv_at hl 0 rfl) ?_
        refine db_getN hx hb hts hown hK hS 12 ((Xa 5 0 u).toNatClampNeg) (bb_kS ((hIa.2.2.2.2 u hu).1.lt hcn)) rfl db_c3 0 (by decide) wn_225 rfl dX6_takeLocks_36 ?_
        refine lv_iload_n hx hb dX6_takeLocks_39 rfl (lv_at hl 2 rfl) ?_
        refine lv_icmp_ne (tgt := 111) hx hb dX6_takeLocks_40 (by decide) (fun c40 => ?_) (fun c40 => ?_)
        · have c40 : ¬ bb_sec Xa u 0 = nI i := c40
          refine lv_iinc (v := (nI (u + 1))) (lv' := [(3, .int (nI (u + 1))), (4, .ref (L 12 ((Xa 5 0 u).toNatClampNeg))), (0, .ref (L 0 0)), (1, .int (nI i)), (2, .ref (L 2 i))]) hx hb dX6_takeLocks_111 hl (k := 4) rfl (nI_1 _) (by decide) rfl (fun ls hl => ?_)
          refine lv_goto (tgt := 12) hx hb dX6_takeLocks_114 (by decide) ?_
          exact ih12 (u + 1) Xa (by omega) hu hIa (by rw [hrem, show sz - u = (sz - (u + 1)) + 1 by omega, bb_takeF, if_pos c40]) _ _ hS _ (lv_sub hl [2, 3, 4, 0] rfl)
        · have c40 : bb_sec Xa u 0 = nI i := c40
          refine lv_aload hx hb dX6_takeLocks_43 (lv_at hl 0 rfl) ?_
          refine db_getN hx hb hts hown hK hS 12 ((Xa 5 0 u).toNatClampNeg) (bb_kS ((hIa.2.2.2.2 u hu).1.lt hcn)) rfl db_c3 1 (by decide) wn_227 rfl dX6_takeLocks_45 ?_
          refine lv_aload_n hx hb dX6_takeLocks_48 rfl (lv_at hl 3 rfl) ?_
          refine db_getN hx hb hts hown hK hS 2 i (bb_kJ hi) rfl db_c0 3 (by decide) wn_49 rfl dX6_takeLocks_49 ?_
          refine lv_icmp_eq (tgt := 58) hx hb dX6_takeLocks_52 (by decide) (fun c52 => ?_) (fun c52 => ?_)
          · have c52 : bb_sec Xa u 1 = Xa 2 i 3 := c52
            refine lv_aload_n hx hb dX6_takeLocks_58 rfl (lv_at hl 1 rfl) ?_
            refine db_get hx hb hts hown hK hS 0 0 (bb_k 0 rfl) rfl db_c6 1 (by decide) wd_173 rfl dX6_takeLocks_59 ?_
            refine lv_aload hx hb dX6_takeLocks_62 (lv_at hl 0 rfl) ?_
            refine db_getN hx hb hts hown hK hS 12 ((Xa 5 0 u).toNatClampNeg) (bb_kS ((hIa.2.2.2.2 u hu).1.lt hcn)) rfl db_c3 2 (by decide) wn_229 rfl dX6_takeLocks_64 ?_
            refine db_ild hx hb hK hS 3 0 (bb_k 3 rfl) rfl ((Xa 12 ((Xa 5 0 u).toNatClampNeg) 2).toNatClampNeg) (hlk.eq hn1) (hlk.lt hn1) hn1 dX6_takeLocks_67 ?_
            refine lv_iconst (v := -1) hx hb dX6_takeLocks_68 (by decide) ?_
            refine lv_icmp_ne (tgt := 86) hx hb dX6_takeLocks_69 (by decide) (fun c69 => ?_) (fun c69 => ?_)
            · have c69 : ¬ Xa 3 0 (bb_sec Xa u 2).toNatClampNeg = -1 := c69
              refine lv_aload_n hx hb dX6_takeLocks_86 rfl (lv_at hl 1 rfl) ?_
              refine db_get hx hb hts hown hK hS 0 0 (bb_k 0 rfl) rfl db_c6 1 (by decide) wd_173 rfl dX6_takeLocks_87 ?_
              refine lv_aload hx hb dX6_takeLocks_90 (lv_at hl 0 rfl) ?_
              refine db_getN hx hb hts hown hK hS 12 ((Xa 5 0 u).toNatClampNeg) (bb_kS ((hIa.2.2.2.2 u hu).1.lt hcn)) rfl db_c3 2 (by decide) wn_229 rfl dX6_takeLocks_92 ?_
              refine db_ild hx hb hK hS 3 0 (bb_k 3 rfl) rfl ((Xa 12 ((Xa 5 0 u).toNatClampNeg) 2).toNatClampNeg) (hlk.eq hn1) (hlk.lt hn1) hn1 dX6_takeLocks_95 ?_
              refine lv_iload_n hx hb dX6_takeLocks_96 rfl (lv_at hl 2 rfl) ?_
              refine lv_icmp_eq (tgt := 111) hx hb dX6_takeLocks_97 (by decide) (fun c97 => ?_) (fun c97 => ?_)
              · have c97 : Xa 3 0 (bb_sec Xa u 2).toNatClampNeg = nI i := c97
                refine lv_iinc (v := (nI (u + 1))) (lv' := [(3, .int (nI (u + 1))), (4, .ref (L 12 ((Xa 5 0 u).toNatClampNeg))), (0, .ref (L 0 0)), (1, .int (nI i)), (2, .ref (L 2 i))]) hx hb dX6_takeLocks_111 hl (k := 4) rfl (nI_1 _) (by decide) rfl (fun ls hl => ?_)
                refine lv_goto (tgt := 12) hx hb dX6_takeLocks_114 (by decide) ?_
                exact ih12 (u + 1) Xa (by omega) hu hIa (by rw [hrem, show sz - u = (sz - (u + 1)) + 1 by omega, bb_takeF, if_neg (fun q => q c40), if_neg (fun q => q c52), if_neg c69, if_pos c97]) _ _ hS _ (lv_sub hl [2, 3, 4, 0] rfl)
              · have c97 : ¬ Xa 3 0 (bb_sec Xa u 2).toNatClampNeg = nI i := c97
                refine lv_aload_n hx hb dX6_takeLocks_100 rfl (lv_at hl 3 rfl) ?_
                refine lv_aload hx hb dX6_takeLocks_101 (lv_at hl 0 rfl) ?_
                refine db_getN hx hb hts hown hK hS 12 ((Xa 5 0 u).toNatClampNeg) (bb_kS ((hIa.2.2.2.2 u hu).1.lt hcn)) rfl db_c3 2 (by decide) wn_229 rfl dX6_takeLocks_103 ?_
                refine db_putN hx hb hts hown hK hS 2 i (bb_kJ hi) rfl db_c0 4 (by decide) wn_51 rfl rfl rfl (Nat.le_of_ble_eq_true rfl) rfl dX6_takeLocks_106 (fun H locs hS => ?_)
                obtain ⟨X1, eX1⟩ : ∃ z, z = db_up Xa 2 i 4 (Xa 12 ((Xa 5 0 u).toNatClampNeg) 2) := ⟨_, rfl⟩
                rw [← eX1] at hS
                refine lv_iconst (v := 0) hx hb dX6_takeLocks_109 (by decide) ?_
                exact hret _ _ _ _ _ _ hS (by rw [hrem, show sz - u = (sz - (u + 1)) + 1 by omega, bb_takeF, if_neg (fun q => q c40), if_neg (fun q => q c52), if_neg c69, if_neg c97]) (by rw [hrem, show sz - u = (sz - (u + 1)) + 1 by omega, bb_takeF, if_neg (fun q => q c40), if_neg (fun q => q c52), if_neg c69, if_neg c97, eX1]; rfl) dX6_takeLocks_110
            · have c69 : Xa 3 0 (bb_sec Xa u 2).toNatClampNeg = -1 := c69
              refine lv_aload_n hx hb dX6_takeLocks_72 rfl (lv_at hl 1 rfl) ?_
              refine db_get hx hb hts hown hK hS 0 0 (bb_k 0 rfl) rfl db_c6 1 (by decide) wd_173 rfl dX6_takeLocks_73 ?_
              refine lv_aload hx hb dX6_takeLocks_76 (lv_at hl 0 rfl) ?_
              refine db_getN hx hb hts hown hK hS 12 ((Xa 5 0 u).toNatClampNeg) (bb_kS ((hIa.2.2.2.2 u hu).1.lt hcn)) rfl db_c3 2 (by decide) wn_229 rfl dX6_takeLocks_78 ?_
              refine lv_iload_n hx hb dX6_takeLocks_81 rfl (lv_at hl 2 rfl) ?_
              refine db_ist hx hb hK hS 3 0 (bb_k 3 rfl) (fun _ => rfl) ((Xa 12 ((Xa 5 0 u).toNatClampNeg) 2).toNatClampNeg) (hlk.eq hn1) (hlk.lt hn1) hn1 dX6_takeLocks_82 (fun H locs hS => ?_)
              obtain ⟨X2, eX2⟩ : ∃ z, z = db_up Xa 3 0 ((Xa 12 ((Xa 5 0 u).toNatClampNeg) 2).toNatClampNeg) (nI i) := ⟨_, rfl⟩
              rw [← eX2] at hS
              refine lv_goto (tgt := 111) hx hb dX6_takeLocks_83 (by decide) ?_
              refine lv_iinc (v := (nI (u + 1))) (lv' := [(3, .int (nI (u + 1))), (4, .ref (L 12 ((Xa 5 0 u).toNatClampNeg))), (0, .ref (L 0 0)), (1, .int (nI i)), (2, .ref (L 2 i))]) hx hb dX6_takeLocks_111 hl (k := 4) rfl (nI_1 _) (by decide) rfl (fun ls hl => ?_)
              refine lv_goto (tgt := 12) hx hb dX6_takeLocks_114 (by decide) ?_
              exact ih12 (u + 1) X2 (by omega) hu (by rw [eX2]; exact hIa.up3 (Or.inr ⟨i, hi, rfl⟩)) (by rw [hrem, show sz - u = (sz - (u + 1)) + 1 by omega, bb_takeF, if_neg (fun q => q c40), if_neg (fun q => q c52), if_pos c69, eX2]; rfl) _ _ hS _ (lv_sub hl [2, 3, 4, 0] rfl)
          · have c52 : ¬ bb_sec Xa u 1 = Xa 2 i 3 := c52
            refine lv_goto (tgt := 111) hx hb dX6_takeLocks_55 (by decide) ?_
            refine lv_iinc (v := (nI (u + 1))) (lv' := [(3, .int (nI (u + 1))), (4, .ref (L 12 ((Xa 5 0 u).toNatClampNeg))), (0, .ref (L 0 0)), (1, .int (nI i)), (2, .ref (L 2 i))]) hx hb dX6_takeLocks_111 hl (k := 4) rfl (nI_1 _) (by decide) rfl (fun ls hl => ?_)
            refine lv_goto (tgt := 12) hx hb dX6_takeLocks_114 (by decide) ?_
            exact ih12 (u + 1) Xa (by omega) hu hIa (by rw [hrem, show sz - u = (sz - (u + 1)) + 1 by omega, bb_takeF, if_neg (fun q => q c40), if_pos c52]) _ _ hS _ (lv_sub hl [2, 3, 4, 0] rfl)
  exact K12 _ 0 X (Nat.le_refl _) (Nat.zero_le _) hI rfl _ _ hS _ (lv_sub hl [2, 3, 1, 0] rfl)

theorem c_X6_takeLocks' (l : Launch) (Γ : db_G) (N : Nat → Nat) (L : Nat → Nat → Nat) (cnt : Nat) (X : db_X) (hN : bb_N N) (t : Int32) (sz : Nat) (hI : bb_I N cnt sz X) (hcn : cnt < 2 ^ 31) (ht : db_in t (N 0)) : db_C l Γ yX6_takeLocks cX6_takeLocks 5 (some .boolean) (db_rm 0 0) [.ref (L 0 0), .int t] L (bb_ok (N 0) cnt) (bb_cel Γ N L) X (some (.int (bb_take X sz t.toNatClampNeg).1)) (bb_take X sz t.toNatClampNeg).2 := by
  have hn0 : N 0 < 2 ^ 31 := by have := hN.2.1; omega
  have h := c_X6_takeLocks l Γ N L cnt X hN sz t.toNatClampNeg hI hcn (ht.lt hn0)
  rw [← ht.eq hn0] at h
  exact h

set_option maxHeartbeats 4000000 in
set_option maxRecDepth 100000 in
theorem c_X6_workOneUnit (l : Launch) (Γ : db_G) (N : Nat → Nat) (L : Nat → Nat → Nat) (cnt : Nat) (X : db_X) (hN : bb_N N) (sz i : Nat) (hI : bb_I N cnt sz X) (hcn : cnt < 2 ^ 31) (hi : i < N 0) : db_C l Γ yX6_workOneUnit cX6_workOneUnit 5 (none) (db_rm 3 71) [.ref (L 0 0), .int (nI i)] L (bb_ok (N 0) cnt) (bb_cel Γ N L) X none (bb_work N X sz i) := by
  have hn0 : N 0 < 2 ^ 31 := by have := hN.2.1; omega
  have hn1 : N 1 < 2 ^ 31 := by have := hN.2.2.1; omega
  have hn2 : N 2 < 2 ^ 31 := by have := hN.2.2.2.1; omega
  have hn3 : N 3 < 2 ^ 31 := by have := hN.2.2.2.2; omega
  refine db_introV (by decide +kernel) (Nat.le_of_ble_eq_true rfl) ?_
  intro p e s m args below meth c A Q ls hC hS hl hret
  have hC : db_Cx p s m args meth c Γ RX6 cX6_workOneUnit 5 (none) := hC
  obtain ⟨hx, hb, hml, hr, hlocks, hown, hts, hK⟩ := id hC
  have hl : lv_has ls 5 [(0, .ref (L 0 0)), (1, .int (nI i))] := hl
  refine lv_aload_n hx hb dX6_workOneUnit_0 rfl (lv_at hl 0 rfl) ?_
  refine db_get hx hb hts hown hK hS 0 0 (bb_k 0 rfl) rfl db_c6 0 (by decide) wd_172 rfl dX6_workOneUnit_1 ?_
  refine lv_iload_n hx hb dX6_workOneUnit_4 rfl (lv_at hl 1 rfl) ?_
  refine db_ald hx hb hK hS 11 0 (bb_k 11 rfl) 2 rfl rfl i rfl hi hn0 rfl dX6_workOneUnit_5 ?_
  refine db_getN hx hb hts hown hK hS 1 i (bb_kT hi) rfl db_c5 0 (by decide) wn_71 rfl dX6_workOneUnit_6 ?_
  refine lv_astore_n (lv' := [(2, .ref (L 2 i)), (0, .ref (L 0 0)), (1, .int (nI i))]) hx hb dX6_workOneUnit_9 rfl hl (by decide) rfl (fun ls hl => ?_)
  refine lv_aload_n hx hb dX6_workOneUnit_10 rfl (lv_at hl 0 rfl) ?_
  refine lv_dup hx hb dX6_workOneUnit_11 rfl ?_
  refine db_getN hx hb hts hown hK hS 2 i (bb_kJ hi) rfl db_c0 3 (by decide) wn_49 rfl dX6_workOneUnit_12 ?_
  refine lv_iconst (v := 1) hx hb dX6_workOneUnit_15 (by decide) ?_
  refine lv_iadd hx hb dX6_workOneUnit_16 ?_
  refine db_putN hx hb hts hown hK hS 2 i (bb_kJ hi) rfl db_c0 3 (by decide) wn_49 rfl rfl rfl (Nat.le_of_ble_eq_true rfl) rfl dX6_workOneUnit_17 (fun H locs hS => ?_)
  obtain ⟨X1, eX1⟩ : ∃ z, z = db_up X 2 i 3 ((X 2 i 3) + 1) := ⟨_, rfl⟩
  rw [← eX1] at hS
  refine lv_aload_n hx hb dX6_workOneUnit_20 rfl (lv_at hl 1 rfl) ?_
  refine db_get hx hb hts hown hK hS 0 0 (bb_k 0 rfl) rfl db_c6 2 (by decide) wd_174 rfl dX6_workOneUnit_21 ?_
  refine db_getN hx hb hts hown hK hS 4 0 (bb_k 4 rfl) rfl db_c4 1 (by decide) wn_133 rfl dX6_workOneUnit_24 ?_
  rw [show X1 4 0 1 = nI sz by rw [eX1]; simp [db_up]; exact hI.2.2.1]
  refine lv_iconst (v := 1) hx hb dX6_workOneUnit_27 (by decide) ?_
  refine lv_isub hx hb dX6_workOneUnit_28 ?_
  refine lv_istore_n (lv' := [(3, .int ((nI sz) - 1)), (2, .ref (L 2 i)), (0, .ref (L 0 0)), (1, .int (nI i))]) hx hb dX6_workOneUnit_29 rfl hl (by decide) rfl (fun ls hl => ?_)
  have K30 : ∀ (q : Nat) (v : Nat) (Xa : db_X) (hq : v + 1 ≤ q) (hv0 : v ≤ sz) (hIa : bb_I N cnt sz Xa) (hrem : bb_work N X sz i = bb_work2 (bb_workL N i v Xa) i) (H : Heap) (locs : List Loc) (hS : db_S Γ A s.heap L (bb_ok (N 0) cnt) (bb_cel Γ N L) Xa H locs) (ls : Array Slot) (hl : lv_has ls 5 [(0, .ref (L 0 0)), (1, .int (nI i)), (2, .ref (L 2 i)), (3, .int (nI v - 1))]), W p l e (db_rm 3 71) s m args below meth c H locs 0 0 Q (F0 m 30 ls []) := by
    intro q30
    induction q30 with
    | zero =>
      intro v Xa hq30 hv0 hIa hrem
      exact absurd hq30 (by omega)
    | succ q30 ih30 =>
      intro v Xa hq30 hv0 hIa hrem H locs hS ls hl
      refine lv_iload_n hx hb dX6_workOneUnit_30 rfl (lv_at hl 3 rfl) ?_
      refine lv_if_lt (tgt := 81) hx hb dX6_workOneUnit_31 (by decide) (fun c31 => ?_) (fun c31 => ?_)
      · have hv : v = 0 := by
          cases v with
          | zero => rfl
          | succ u => rw [nI_pred] at c31; exact absurd c31 (nI_pos (by have := hIa.2.2.2.1; omega))
        rw [hv] at hrem
        refine lv_aload_n hx hb dX6_workOneUnit_81 rfl (lv_at hl 2 rfl) ?_
        refine db_getN hx hb hts hown hK hS 2 i (bb_kJ hi) rfl db_c0 3 (by decide) wn_49 rfl dX6_workOneUnit_82 ?_
        refine lv_aload_n hx hb dX6_workOneUnit_85 rfl (lv_at hl 0 rfl) ?_
        refine db_get hx hb hts hown hK hS 0 0 (bb_k 0 rfl) rfl db_c6 0 (by decide) wd_172 rfl dX6_workOneUnit_86 ?_
        refine lv_iload_n hx hb dX6_workOneUnit_89 rfl (lv_at hl 1 rfl) ?_
        refine db_ald hx hb hK hS 11 0 (bb_k 11 rfl) 2 rfl rfl i rfl hi hn0 rfl dX6_workOneUnit_90 ?_
        refine db_getN hx hb hts hown hK hS 1 i (bb_kT hi) rfl db_c5 3 (by decide) wn_77 rfl dX6_workOneUnit_91 ?_
        refine lv_icmp_ne (tgt := 112) hx hb dX6_workOneUnit_94 (by decide) (fun c94 => ?_) (fun c94 => ?_)
        · exact hret _ _ _ _ _ hS (by rw [hrem]; show Xa = bb_work2 Xa i; rw [bb_work2, if_neg c94]) dX6_workOneUnit_112
        · refine lv_aload_n hx hb dX6_workOneUnit_97 rfl (lv_at hl 0 rfl) ?_
          refine db_get hx hb hts hown hK hS 0 0 (bb_k 0 rfl) rfl db_c6 0 (by decide) wd_172 rfl dX6_workOneUnit_98 ?_
          refine lv_iload_n hx hb dX6_workOneUnit_101 rfl (lv_at hl 1 rfl) ?_
          refine db_ald hx hb hK hS 11 0 (bb_k 11 rfl) 2 rfl rfl i rfl hi hn0 rfl dX6_workOneUnit_102 ?_
          refine lv_aload_n hx hb dX6_workOneUnit_103 rfl (lv_at hl 0 rfl) ?_
          refine db_get hx hb hts hown hK hS 0 0 (bb_k 0 rfl) rfl db_c6 6 (by decide) wd_178 rfl dX6_workOneUnit_104 ?_
          refine lv_iconst (v := 1) hx hb dX6_workOneUnit_107 (by decide) ?_
          refine lv_iadd hx hb dX6_workOneUnit_108 ?_
          refine db_cVN (As := [.int ((Xa 0 0 6) + 1)]) (rest := []) (st1 := []) hC hS 1 i (bb_kT hi) rfl db_c5 (c_X5_endJob l Γ N L cnt Xa hN ((Xa 0 0 6) + 1) i hi) (cw_X5_endJob (Nat.le_of_ble_eq_true rfl) (Nat.le_of_ble_eq_true rfl)) wn_340 wd_342 ws_24 rfl hl.1 rfl (Nat.le_of_ble_eq_true rfl) dX6_workOneUnit_109 ⟨Nat.le_of_ble_eq_true rfl, Nat.le_of_ble_eq_true rfl⟩ rfl (fun H locs hS => ?_)
          obtain ⟨X2, eX2⟩ : ∃ z, z = bb_endJ Xa i ((Xa 0 0 6) + 1) := ⟨_, rfl⟩
          rw [← eX2] at hS
          exact hret _ _ _ _ _ hS (by rw [hrem]; show X2 = bb_work2 Xa i; rw [bb_work2, if_pos c94, eX2]) dX6_workOneUnit_112
      · obtain ⟨u, rfl⟩ : ∃ u, v = u + 1 := by
          cases v with
          | zero => exact absurd (show nI 0 - 1 < 0 by decide +kernel) c31
          | succ u => exact ⟨u, rfl⟩
        rw [nI_pred] at hl
        have hu : u < sz := by omega
        have hlk : db_in (bb_sec Xa u 2) (N 1) := (hIa.2.2.2.2 u hu).2
        refine lv_aload_n hx hb dX6_workOneUnit_34 rfl (lv_at hl 0 rfl) ?_
        refine db_get hx hb hts hown hK hS 0 0 (bb_k 0 rfl) rfl db_c6 2 (by decide) wd_174 rfl dX6_workOneUnit_35 ?_
        refine db_getN hx hb hts hown hK hS 4 0 (bb_k 4 rfl) rfl db_c4 0 (by decide) wn_131 rfl dX6_workOneUnit_38 ?_
        refine lv_iload_n hx hb dX6_workOneUnit_41 rfl (lv_at hl 3 rfl) ?_
        refine db_ald hx hb hK hS 5 0 (bb_k 5 rfl) 3 rfl rfl u rfl (Nat.lt_of_lt_of_le hu hIa.2.2.2.1) hn2 (bb_rowf (hIa.2.2.2.2 u hu).1 hcn) dX6_workOneUnit_42 ?_
        refine lv_astore (lv' := [(4, .ref (L 12 ((Xa 5 0 u).toNatClampNeg))), (0, .ref (L 0 0)), (1, .int (nI i)), (2, .ref (L 2 i)), (3, .int (nI u))]) hx hb dX6_workOneUnit_43 hl (by decide) rfl (fun ls hl => ?_)
        refine lv_aload hx hb dX6_workOneUnit_45 (lv_at hl 0 rfl) ?_
        refine db_getN hx hb hts hown hK hS 12 ((Xa 5 0 u).toNatClampNeg) (bb_kS ((hIa.2.2.2.2 u hu).1.lt hcn)) rfl db_c3 0 (by decide) wn_225 rfl dX6_workOneUnit_47 ?_
        refine lv_iload_n hx hb dX6_workOneUnit_50 rfl (lv_at hl 2 rfl) ?_
        refine lv_icmp_ne (tgt := 75) hx hb dX6_workOneUnit_51 (by decide) (fun c51 => ?_) (fun c51 => ?_)
        · have c51 : ¬ bb_sec Xa u 0 = nI i := c51
          refine lv_iinc (v := ((nI u) - 1)) (lv' := [(3, .int ((nI u) - 1)), (4, .ref (L 12 ((Xa 5 0 u).toNatClampNeg))), (0, .ref (L 0 0)), (1, .int (nI i)), (2, .ref (L 2 i))]) hx hb dX6_workOneUnit_75 hl (k := 4) rfl (by rw [Int32.sub_eq_add_neg]; rfl) (by decide) rfl (fun ls hl => ?_)
          refine lv_goto (tgt := 30) hx hb dX6_workOneUnit_78 (by decide) ?_
          exact ih30 u Xa (by omega) (by omega) hIa (by rw [hrem, bb_workL, if_pos c51]) _ _ hS _ (lv_sub hl [2, 3, 4, 0] rfl)
        · have c51 : bb_sec Xa u 0 = nI i := c51
          refine lv_aload hx hb dX6_workOneUnit_54 (lv_at hl 0 rfl) ?_
          refine db_getN hx hb hts hown hK hS 12 ((Xa 5 0 u).toNatClampNeg) (bb_kS ((hIa.2.2.2.2 u hu).1.lt hcn)) rfl db_c3 4 (by decide) wn_232 rfl dX6_workOneUnit_56 ?_
          refine lv_aload_n hx hb dX6_workOneUnit_59 rfl (lv_at hl 3 rfl) ?_
          refine db_getN hx hb hts hown hK hS 2 i (bb_kJ hi) rfl db_c0 3 (by decide) wn_49 rfl dX6_workOneUnit_60 ?_
          refine lv_icmp_ne (tgt := 75) hx hb dX6_workOneUnit_63 (by decide) (fun c63 => ?_) (fun c63 => ?_)
          · have c63 : ¬ bb_sec Xa u 4 = Xa 2 i 3 := c63
            refine lv_iinc (v := ((nI u) - 1)) (lv' := [(3, .int ((nI u) - 1)), (4, .ref (L 12 ((Xa 5 0 u).toNatClampNeg))), (0, .ref (L 0 0)), (1, .int (nI i)), (2, .ref (L 2 i))]) hx hb dX6_workOneUnit_75 hl (k := 4) rfl (by rw [Int32.sub_eq_add_neg]; rfl) (by decide) rfl (fun ls hl => ?_)
            refine lv_goto (tgt := 30) hx hb dX6_workOneUnit_78 (by decide) ?_
            exact ih30 u Xa (by omega) (by omega) hIa (by rw [hrem, bb_workL, if_neg (fun q => q c51), if_pos c63]) _ _ hS _ (lv_sub hl [2, 3, 4, 0] rfl)
          · have c63 : bb_sec Xa u 4 = Xa 2 i 3 := c63
            refine lv_aload_n hx hb dX6_workOneUnit_66 rfl (lv_at hl 1 rfl) ?_
            refine lv_aload hx hb dX6_workOneUnit_67 (lv_at hl 0 rfl) ?_
            refine db_getN hx hb hts hown hK hS 12 ((Xa 5 0 u).toNatClampNeg) (bb_kS ((hIa.2.2.2.2 u hu).1.lt hcn)) rfl db_c3 2 (by decide) wn_229 rfl dX6_workOneUnit_69 ?_
            refine db_cV (As := [.int (Xa 12 ((Xa 5 0 u).toNatClampNeg) 2)]) (rest := []) (st1 := []) hC hS 0 0 (bb_k 0 rfl) rfl db_c6 (c_X6_letGo' l Γ N L cnt Xa hN (Xa 12 ((Xa 5 0 u).toNatClampNeg) 2) sz hIa hlk) (cw_X6_letGo (Nat.le_of_ble_eq_true rfl) (Nat.le_of_ble_eq_true rfl)) wd_272 wd_274 ws_9 rfl hl.1 rfl (Nat.le_of_ble_eq_true rfl) dX6_workOneUnit_72 ⟨Nat.le_of_ble_eq_true rfl, Nat.le_of_ble_eq_true rfl⟩ rfl (fun H locs hS => ?_)
            obtain ⟨X3, eX3⟩ : ∃ z, z = bb_letGo N Xa (Xa 12 ((Xa 5 0 u).toNatClampNeg) 2).toNatClampNeg := ⟨_, rfl⟩
            rw [← eX3] at hS
            refine lv_iinc (v := ((nI u) - 1)) (lv' := [(3, .int ((nI u) - 1)), (4, .ref (L 12 ((Xa 5 0 u).toNatClampNeg))), (0, .ref (L 0 0)), (1, .int (nI i)), (2, .ref (L 2 i))]) hx hb dX6_workOneUnit_75 hl (k := 4) rfl (by rw [Int32.sub_eq_add_neg]; rfl) (by decide) rfl (fun ls hl => ?_)
            refine lv_goto (tgt := 30) hx hb dX6_workOneUnit_78 (by decide) ?_
            exact ih30 u X3 (by omega) (by omega) (by rw [eX3]; exact hIa.letGo) (by rw [hrem, bb_workL, if_neg (fun q => q c51), if_neg (fun q => q c63), eX3]; rfl) _ _ hS _ (lv_sub hl [2, 3, 4, 0] rfl)
  exact K30 _ sz X1 (Nat.le_refl _) (Nat.le_refl _) (by rw [eX1]; exact hI.up rfl) (by rw [eX1]; rfl) _ _ hS _ (lv_sub hl [2, 3, 1, 0] rfl)

theorem c_X6_workOneUnit' (l : Launch) (Γ : db_G) (N : Nat → Nat) (L : Nat → Nat → Nat) (cnt : Nat) (X : db_X) (hN : bb_N N) (t : Int32) (sz : Nat) (hI : bb_I N cnt sz X) (hcn : cnt < 2 ^ 31) (ht : db_in t (N 0)) : db_C l Γ yX6_workOneUnit cX6_workOneUnit 5 none (db_rm 3 71) [.ref (L 0 0), .int t] L (bb_ok (N 0) cnt) (bb_cel Γ N L) X none (bb_work N X sz t.toNatClampNeg) := by
  have hn0 : N 0 < 2 ^ 31 := by have := hN.2.1; omega
  have h := c_X6_workOneUnit l Γ N L cnt X hN sz t.toNatClampNeg hI hcn (ht.lt hn0)
  rw [← ht.eq hn0] at h
  exact h
end
section
set_option maxHeartbeats 4000000 in
set_option maxRecDepth 100000 in
theorem c_X6_countWaitsAndPutBys (l : Launch) (Γ : db_G) (N : Nat → Nat) (L : Nat → Nat → Nat) (cnt : Nat) (X : db_X) (hN : bb_N N) (r : Int32) : db_C l Γ yX6_countWaitsAndPutBys cX6_countWaitsAndPutBys 5 (none) (db_rm 0 0) [.ref (L 0 0), .int r] L (bb_ok (N 0) cnt) (bb_cel Γ N L) X none (bb_cw r X (N 0)) := by
  have hn0 : N 0 < 2 ^ 31 := by have := hN.2.1; omega
  have hn1 : N 1 < 2 ^ 31 := by have := hN.2.2.1; omega
  have hn2 : N 2 < 2 ^ 31 := by have := hN.2.2.2.1; omega
  have hn3 : N 3 < 2 ^ 31 := by have := hN.2.2.2.2; omega
  refine db_introV (by decide +kernel) (Nat.le_of_ble_eq_true rfl) ?_
  intro p e s m args below meth c A Q ls hC hS hl hret
  have hC : db_Cx p s m args meth c Γ RX6 cX6_countWaitsAndPutBys 5 (none) := hC
  obtain ⟨hx, hb, hml, hr, hlocks, hown, hts, hK⟩ := id hC
  have hl : lv_has ls 5 [(0, .ref (L 0 0)), (1, .int r)] := hl
  refine lv_iconst (v := 0) hx hb dX6_countWaitsAndPutBys_0 (by decide) ?_
  refine lv_istore_n (lv' := [(2, .int 0), (0, .ref (L 0 0)), (1, .int r)]) hx hb dX6_countWaitsAndPutBys_1 rfl hl (by decide) rfl (fun ls hl => ?_)
  have K2 : ∀ (q : Nat) (i : Nat) (Xa : db_X) (hq : N 0 + 1 - i ≤ q) (hi0 : i ≤ N 0) (eXa : Xa = bb_cw r X i) (H : Heap) (locs : List Loc) (hS : db_S Γ A s.heap L (bb_ok (N 0) cnt) (bb_cel Γ N L) Xa H locs) (ls : Array Slot) (hl : lv_has ls 5 [(0, .ref (L 0 0)), (1, .int r), (2, .int (nI i))]), W p l e (db_rm 0 0) s m args below meth c H locs 0 0 Q (F0 m 2 ls []) := by
    intro q2
    induction q2 with
    | zero =>
      intro i Xa hq2 hi0 eXa
      exact absurd hq2 (by omega)
    | succ q2 ih2 =>
      intro i Xa hq2 hi0 eXa H locs hS ls hl
      refine lv_iload_n hx hb dX6_countWaitsAndPutBys_2 rfl (lv_at hl 2 rfl) ?_
      refine lv_aload_n hx hb dX6_countWaitsAndPutBys_3 rfl (lv_at hl 0 rfl) ?_
      refine db_get hx hb hts hown hK hS 0 0 (bb_k 0 rfl) rfl db_c6 0 (by decide) wd_172 rfl dX6_countWaitsAndPutBys_4 ?_
      refine db_alen hx hb hK hS 11 0 (bb_k 11 rfl) 2 rfl rfl dX6_countWaitsAndPutBys_7 ?_
      refine lv_icmp_ge (tgt := 117) hx hb dX6_countWaitsAndPutBys_8 (by decide) (fun c8 => ?_) (fun c8 => ?_)
      · have hi : i = N 0 := by
          rcases Nat.lt_or_ge i (N 0) with q9 | q9
          · exact absurd c8 (nI_ge q9 hn0)
          · omega
        exact hret _ _ _ _ _ hS (by rw [eXa, hi]) dX6_countWaitsAndPutBys_117
      · have hi : i < N 0 := by
          rcases Nat.lt_or_ge i (N 0) with q9 | q9
          · exact q9
          · exact absurd (nI_le q9 (by omega)) c8
        refine lv_aload_n hx hb dX6_countWaitsAndPutBys_11 rfl (lv_at hl 0 rfl) ?_
        refine db_get hx hb hts hown hK hS 0 0 (bb_k 0 rfl) rfl db_c6 0 (by decide) wd_172 rfl dX6_countWaitsAndPutBys_12 ?_
        refine lv_iload_n hx hb dX6_countWaitsAndPutBys_15 rfl (lv_at hl 2 rfl) ?_
        refine db_ald hx hb hK hS 11 0 (bb_k 11 rfl) 2 rfl rfl i rfl hi hn0 rfl dX6_countWaitsAndPutBys_16 ?_
        refine db_getN hx hb hts hown hK hS 1 i (bb_kT hi) rfl db_c5 0 (by decide) wn_71 rfl dX6_countWaitsAndPutBys_17 ?_
        refine lv_astore_n (lv' := [(3, .ref (L 2 i)), (0, .ref (L 0 0)), (1, .int r), (2, .int (nI i))]) hx hb dX6_countWaitsAndPutBys_20 rfl hl (by decide) rfl (fun ls hl => ?_)
        have K31 : ∀ (b : Int32) (hb01 : b = 0 ∨ b = 1) (eb : b = if nI i = r then 1 else 0) (H : Heap) (locs : List Loc) (hS : db_S Γ A s.heap L (bb_ok (N 0) cnt) (bb_cel Γ N L) Xa H locs) (ls : Array Slot) (hl : lv_has ls 5 [(0, .ref (L 0 0)), (1, .int r), (2, .int (nI i)), (3, .ref (L 2 i))]), W p l e (db_rm 0 0) s m args below meth c H locs 0 0 Q (F0 m 31 ls [.int b]) := by
          intro b hb01 eb H locs hS ls hl
          refine lv_istore (lv' := [(4, .int b), (0, .ref (L 0 0)), (1, .int r), (2, .int (nI i)), (3, .ref (L 2 i))]) hx hb dX6_countWaitsAndPutBys_31 hl (by decide) rfl (fun ls hl => ?_)
          have K105 : ∀ (Xb : db_X) (h105 : bb_cw1 r Xa i = Xb) (H : Heap) (locs : List Loc) (hS : db_S Γ A s.heap L (bb_ok (N 0) cnt) (bb_cel Γ N L) Xb H locs) (ls : Array Slot) (hl : lv_has ls 5 [(0, .ref (L 0 0)), (1, .int r), (2, .int (nI i)), (3, .ref (L 2 i)), (4, .int b)]), W p l e (db_rm 0 0) s m args below meth c H locs 0 0 Q (F0 m 105 ls []) := by
            intro Xb h105 H locs hS ls hl
            refine lv_aload_n hx hb dX6_countWaitsAndPutBys_105 rfl (lv_at hl 3 rfl) ?_
            refine lv_iload hx hb dX6_countWaitsAndPutBys_106 (lv_at hl 4 rfl) ?_
            refine db_putN hx hb hts hown hK hS 2 i (bb_kJ hi) rfl db_c0 6 (by decide) wn_54 rfl (db_nz hb01) (db_fz hb01) (Nat.le_of_ble_eq_true rfl) rfl dX6_countWaitsAndPutBys_108 (fun H locs hS => ?_)
            obtain ⟨X1, eX1⟩ : ∃ z, z = db_up Xb 2 i 6 b := ⟨_, rfl⟩
            rw [← eX1] at hS
            refine lv_iinc (v := (nI (i + 1))) (lv' := [(2, .int (nI (i + 1))), (0, .ref (L 0 0)), (1, .int r), (3, .ref (L 2 i)), (4, .int b)]) hx hb dX6_countWaitsAndPutBys_111 hl (k := 2) rfl (nI_1 _) (by decide) rfl (fun ls hl => ?_)
            refine lv_goto (tgt := 2) hx hb dX6_countWaitsAndPutBys_114 (by decide) ?_
            exact ih2 (i + 1) X1 (by omega) hi (by rw [bb_cw, bb_cw2, ← eXa, h105, ← eb, eX1]) _ _ hS _ (lv_sub hl [1, 2, 0] rfl)
          have K66 : ∀ (h66 : ¬ (¬ Xa 2 i 0 = 0 ∧ ¬ Xa 2 i 4 = -1)) (H : Heap) (locs : List Loc) (hS : db_S Γ A s.heap L (bb_ok (N 0) cnt) (bb_cel Γ N L) Xa H locs) (ls : Array Slot) (hl : lv_has ls 5 [(0, .ref (L 0 0)), (1, .int r), (2, .int (nI i)), (3, .ref (L 2 i)), (4, .int b)]), W p l e (db_rm 0 0) s m args below meth c H locs 0 0 Q (F0 m 66 ls []) := by
            intro  h66 H locs hS ls hl
            refine lv_aload_n hx hb dX6_countWaitsAndPutBys_66 rfl (lv_at hl 3 rfl) ?_
            refine db_getN hx hb hts hown hK hS 2 i (bb_kJ hi) rfl db_c0 0 (by decide) wn_42 rfl dX6_countWaitsAndPutBys_67 ?_
            refine lv_if_eq (tgt := 105) hx hb dX6_countWaitsAndPutBys_70 (by decide) (fun c70 => ?_) (fun c70 => ?_)
            · exact K105 Xa (by rw [bb_cw1, if_neg h66, if_neg (fun q => q.1 c70)]) _ _ hS _ (lv_sub hl [0, 1, 2, 3, 4] rfl)
            · refine lv_aload_n hx hb dX6_countWaitsAndPutBys_73 rfl (lv_at hl 3 rfl) ?_
              refine db_getN hx hb hts hown hK hS 2 i (bb_kJ hi) rfl db_c0 6 (by decide) wn_54 rfl dX6_countWaitsAndPutBys_74 ?_
              refine lv_if_eq (tgt := 105) hx hb dX6_countWaitsAndPutBys_77 (by decide) (fun c77 => ?_) (fun c77 => ?_)
              · exact K105 Xa (by rw [bb_cw1, if_neg h66, if_neg (fun q => q.2.1 c77)]) _ _ hS _ (lv_sub hl [0, 1, 2, 3, 4] rfl)
              · refine lv_iload hx hb dX6_countWaitsAndPutBys_80 (lv_at hl 4 rfl) ?_
                refine lv_if_ne (tgt := 105) hx hb dX6_countWaitsAndPutBys_82 (by decide) (fun c82 => ?_) (fun c82 => ?_)
                · exact K105 Xa (by rw [bb_cw1, if_neg h66, if_neg (fun q => c82 (eb.trans (if_neg q.2.2.1)))]) _ _ hS _ (lv_sub hl [0, 1, 2, 3, 4] rfl)
                · refine lv_iload_n hx hb dX6_countWaitsAndPutBys_85 rfl (lv_at hl 1 rfl) ?_
                  refine lv_iconst (v := -1) hx hb dX6_countWaitsAndPutBys_86 (by decide) ?_
                  refine lv_icmp_eq (tgt := 105) hx hb dX6_countWaitsAndPutBys_87 (by decide) (fun c87 => ?_) (fun c87 => ?_)
                  · exact K105 Xa (by rw [bb_cw1, if_neg h66, if_neg (fun q => q.2.2.2 c87)]) _ _ hS _ (lv_sub hl [0, 1, 2, 3, 4] rfl)
                  · refine lv_aload_n hx hb dX6_countWaitsAndPutBys_90 rfl (lv_at hl 0 rfl) ?_
                    refine db_get hx hb hts hown hK hS 0 0 (bb_k 0 rfl) rfl db_c6 0 (by decide) wd_172 rfl dX6_countWaitsAndPutBys_91 ?_
                    refine lv_iload_n hx hb dX6_countWaitsAndPutBys_94 rfl (lv_at hl 2 rfl) ?_
                    refine db_ald hx hb hK hS 11 0 (bb_k 11 rfl) 2 rfl rfl i rfl hi hn0 rfl dX6_countWaitsAndPutBys_95 ?_
                    refine lv_dup hx hb dX6_countWaitsAndPutBys_96 rfl ?_
                    refine db_getN hx hb hts hown hK hS 1 i (bb_kT hi) rfl db_c5 10 (by decide) wn_91 rfl dX6_countWaitsAndPutBys_97 ?_
                    refine lv_iconst (v := 1) hx hb dX6_countWaitsAndPutBys_100 (by decide) ?_
                    refine lv_iadd hx hb dX6_countWaitsAndPutBys_101 ?_
                    refine db_putN hx hb hts hown hK hS 1 i (bb_kT hi) rfl db_c5 10 (by decide) wn_91 rfl rfl rfl (Nat.le_of_ble_eq_true rfl) rfl dX6_countWaitsAndPutBys_102 (fun H locs hS => ?_)
                    obtain ⟨X2, eX2⟩ : ∃ z, z = db_up Xa 1 i 10 ((Xa 1 i 10) + 1) := ⟨_, rfl⟩
                    rw [← eX2] at hS
                    exact K105 X2 (by rw [bb_cw1, if_neg h66, if_pos ⟨c70, c77, fun q => absurd (eb.trans (if_pos q)) (by rw [c82]; decide), c87⟩, eX2]) _ _ hS _ (lv_sub hl [0, 1, 2, 3, 4] rfl)
          refine lv_aload_n hx hb dX6_countWaitsAndPutBys_33 rfl (lv_at hl 4 rfl) ?_
          refine db_getN hx hb hts hown hK hS 2 i (bb_kJ hi) rfl db_c0 0 (by decide) wn_42 rfl dX6_countWaitsAndPutBys_34 ?_
          refine lv_if_eq (tgt := 66) hx hb dX6_countWaitsAndPutBys_37 (by decide) (fun c37 => ?_) (fun c37 => ?_)
          · exact K66  (by rintro ⟨q1, q2⟩; exact q1 c37) _ _ hS _ (lv_sub hl [1, 2, 3, 4, 0] rfl)
          · refine lv_aload_n hx hb dX6_countWaitsAndPutBys_40 rfl (lv_at hl 4 rfl) ?_
            refine db_getN hx hb hts hown hK hS 2 i (bb_kJ hi) rfl db_c0 4 (by decide) wn_51 rfl dX6_countWaitsAndPutBys_41 ?_
            refine lv_iconst (v := -1) hx hb dX6_countWaitsAndPutBys_44 (by decide) ?_
            refine lv_icmp_eq (tgt := 66) hx hb dX6_countWaitsAndPutBys_45 (by decide) (fun c45 => ?_) (fun c45 => ?_)
            · exact K66  (by rintro ⟨q1, q2⟩; exact q2 c45) _ _ hS _ (lv_sub hl [1, 2, 3, 4, 0] rfl)
            · refine lv_aload_n hx hb dX6_countWaitsAndPutBys_48 rfl (lv_at hl 1 rfl) ?_
              refine db_get hx hb hts hown hK hS 0 0 (bb_k 0 rfl) rfl db_c6 0 (by decide) wd_172 rfl dX6_countWaitsAndPutBys_49 ?_
              refine lv_iload_n hx hb dX6_countWaitsAndPutBys_52 rfl (lv_at hl 3 rfl) ?_
              refine db_ald hx hb hK hS 11 0 (bb_k 11 rfl) 2 rfl rfl i rfl hi hn0 rfl dX6_countWaitsAndPutBys_53 ?_
              refine lv_dup hx hb dX6_countWaitsAndPutBys_54 rfl ?_
              refine db_getN hx hb hts hown hK hS 1 i (bb_kT hi) rfl db_c5 9 (by decide) wn_89 rfl dX6_countWaitsAndPutBys_55 ?_
              refine lv_iconst (v := 1) hx hb dX6_countWaitsAndPutBys_58 (by decide) ?_
              refine lv_iadd hx hb dX6_countWaitsAndPutBys_59 ?_
              refine db_putN hx hb hts hown hK hS 1 i (bb_kT hi) rfl db_c5 9 (by decide) wn_89 rfl rfl rfl (Nat.le_of_ble_eq_true rfl) rfl dX6_countWaitsAndPutBys_60 (fun H locs hS => ?_)
              obtain ⟨X3, eX3⟩ : ∃ z, z = db_up Xa 1 i 9 ((Xa 1 i 9) + 1) := ⟨_, rfl⟩
              rw [← eX3] at hS
              refine lv_goto (tgt := 105) hx hb dX6_countWaitsAndPutBys_63 (by decide) ?_
              exact K105 X3 (by rw [bb_cw1, if_pos ⟨c37, c45⟩, eX3]) _ _ hS _ (lv_sub hl [1, 2, 3, 4, 0] rfl)
        refine lv_iload_n hx hb dX6_countWaitsAndPutBys_21 rfl (lv_at hl 3 rfl) ?_
        refine lv_iload_n hx hb dX6_countWaitsAndPutBys_22 rfl (lv_at hl 2 rfl) ?_
        refine lv_icmp_ne (tgt := 30) hx hb dX6_countWaitsAndPutBys_23 (by decide) (fun c23 => ?_) (fun c23 => ?_)
        · refine lv_iconst (v := 0) hx hb dX6_countWaitsAndPutBys_30 (by decide) ?_
          exact K31 0 (Or.inl rfl) (by rw [if_neg c23]) _ _ hS _ (lv_sub hl [1, 2, 3, 0] rfl)
        · refine lv_iconst (v := 1) hx hb dX6_countWaitsAndPutBys_26 (by decide) ?_
          refine lv_goto (tgt := 31) hx hb dX6_countWaitsAndPutBys_27 (by decide) ?_
          exact K31 1 (Or.inr rfl) (by rw [if_pos c23]) _ _ hS _ (lv_sub hl [1, 2, 3, 0] rfl)
  exact K2 _ 0 X (Nat.le_refl _) (Nat.zero_le _) rfl _ _ hS _ (lv_sub hl [1, 2, 0] rfl)

set_option maxHeartbeats 4000000 in
set_option maxRecDepth 100000 in
theorem c_X6_runOneJob (l : Launch) (Γ : db_G) (N : Nat → Nat) (L : Nat → Nat → Nat) (cnt : Nat) (X : db_X) (hN : bb_N N) (sz : Nat) (hI : bb_I N cnt sz X) (hcn : cnt < 2 ^ 31) : db_C l Γ yX6_runOneJob cX6_runOneJob 3 (some .int) (db_rm 4 95) [.ref (L 0 0)] L (bb_ok (N 0) cnt) (bb_cel Γ N L) X (some (.int ((bb_run1 N X sz).1))) ((bb_run1 N X sz).2) := by
  have hn0 : N 0 < 2 ^ 31 := by have := hN.2.1; omega
  have hn1 : N 1 < 2 ^ 31 := by have := hN.2.2.1; omega
  have hn2 : N 2 < 2 ^ 31 := by have := hN.2.2.2.1; omega
  have hn3 : N 3 < 2 ^ 31 := by have := hN.2.2.2.2; omega
  refine db_introI (by decide +kernel) (Nat.le_of_ble_eq_true rfl) ?_
  intro p e s m args below meth c A Q ls hC hS hl hret
  have hC : db_Cx p s m args meth c Γ RX6 cX6_runOneJob 3 (some .int) := hC
  obtain ⟨hx, hb, hml, hr, hlocks, hown, hts, hK⟩ := id hC
  have hl : lv_has ls 3 [(0, .ref (L 0 0))] := hl
  refine lv_iconst (v := 0) hx hb dX6_runOneJob_0 (by decide) ?_
  refine lv_istore_n (lv' := [(1, .int 0), (0, .ref (L 0 0))]) hx hb dX6_runOneJob_1 rfl hl (by decide) rfl (fun ls hl => ?_)
  have K2 : ∀ (q : Nat) (u : Nat) (Xa : db_X) (hq : N 0 + 1 - u ≤ q) (hu0 : u ≤ N 0) (hIa : bb_I N cnt sz Xa) (hrem : bb_run1 N X sz = bb_runF N sz (N 0 - u) Xa) (H : Heap) (locs : List Loc) (hS : db_S Γ A s.heap L (bb_ok (N 0) cnt) (bb_cel Γ N L) Xa H locs) (ls : Array Slot) (hl : lv_has ls 3 [(0, .ref (L 0 0)), (1, .int (nI u))]), W p l e (db_rm 4 95) s m args below meth c H locs 0 0 Q (F0 m 2 ls []) := by
    intro q2
    induction q2 with
    | zero =>
      intro u Xa hq2 hu0 hIa hrem
      exact absurd hq2 (by omega)
    | succ q2 ih2 =>
      intro u Xa hq2 hu0 hIa hrem H locs hS ls hl
      refine lv_iload_n hx hb dX6_runOneJob_2 rfl (lv_at hl 1 rfl) ?_
      refine lv_aload_n hx hb dX6_runOneJob_3 rfl (lv_at hl 0 rfl) ?_
      refine db_get hx hb hts hown hK hS 0 0 (bb_k 0 rfl) rfl db_c6 0 (by decide) wd_172 rfl dX6_runOneJob_4 ?_
      refine db_alen hx hb hK hS 11 0 (bb_k 11 rfl) 2 rfl rfl dX6_runOneJob_7 ?_
      refine lv_icmp_ge (tgt := 49) hx hb dX6_runOneJob_8 (by decide) (fun c8 => ?_) (fun c8 => ?_)
      · have hu : u = N 0 := by
          rcases Nat.lt_or_ge u (N 0) with q9 | q9
          · exact absurd c8 (nI_ge q9 hn0)
          · omega
        refine lv_iconst (v := -1) hx hb dX6_runOneJob_49 (by decide) ?_
        exact hret _ _ _ _ _ _ hS (by rw [hrem, hu, Nat.sub_self]; rfl) (by rw [hrem, hu, Nat.sub_self]; rfl) dX6_runOneJob_50
      · have hu : u < N 0 := by
          rcases Nat.lt_or_ge u (N 0) with q9 | q9
          · exact q9
          · exact absurd (nI_le q9 (by omega)) c8
        refine lv_aload_n hx hb dX6_runOneJob_11 rfl (lv_at hl 0 rfl) ?_
        refine db_cV (As := []) (rest := []) (st1 := []) hC hS 0 0 (bb_k 0 rfl) rfl db_c6 (c_X6_inheritDeadlines l Γ N L cnt Xa hN sz hIa) (cw_X6_inheritDeadlines (Nat.le_of_ble_eq_true rfl) (Nat.le_of_ble_eq_true rfl)) wd_276 wd_278 ws_10 rfl hl.1 rfl (Nat.le_of_ble_eq_true rfl) dX6_runOneJob_12 ⟨Nat.le_of_ble_eq_true rfl, Nat.le_of_ble_eq_true rfl⟩ rfl (fun H locs hS => ?_)
        obtain ⟨X1, eX1⟩ : ∃ z, z = bb_inh N Xa := ⟨_, rfl⟩
        rw [← eX1] at hS
        refine lv_aload_n hx hb dX6_runOneJob_15 rfl (lv_at hl 0 rfl) ?_
        refine lv_iconst (v := -1) hx hb dX6_runOneJob_16 (by decide) ?_
        refine db_cV (As := [.int (-1)]) (rest := []) (st1 := [.int (bb_ahead N X1 (-1))]) hC hS 0 0 (bb_k 0 rfl) rfl db_c6 (c_X6_aheadOfAll l Γ N L cnt X1 hN (-1)) (cw_X6_aheadOfAll (Nat.le_of_ble_eq_true rfl) (Nat.le_of_ble_eq_true rfl)) wd_284 wd_286 ws_12 rfl hl.1 rfl (Nat.le_of_ble_eq_true rfl) dX6_runOneJob_17 ⟨Nat.le_of_ble_eq_true rfl, Nat.le_of_ble_eq_true rfl⟩ rfl (fun H locs hS => ?_)
        refine lv_istore_n (lv' := [(2, .int (bb_ahead N X1 (-1))), (0, .ref (L 0 0)), (1, .int (nI u))]) hx hb dX6_runOneJob_20 rfl hl (by decide) rfl (fun ls hl => ?_)
        refine lv_iload_n hx hb dX6_runOneJob_21 rfl (lv_at hl 0 rfl) ?_
        refine lv_iconst (v := -1) hx hb dX6_runOneJob_22 (by decide) ?_
        refine lv_icmp_ne (tgt := 28) hx hb dX6_runOneJob_23 (by decide) (fun c23 => ?_) (fun c23 => ?_)
        · have hIb : bb_I N cnt sz X1 := by rw [eX1]; exact hIa.inh
          have hin : db_in (bb_ahead N X1 (-1)) (N 0) := bb_ahead_in c23
          refine lv_aload_n hx hb dX6_runOneJob_28 rfl (lv_at hl 1 rfl) ?_
          refine lv_iload_n hx hb dX6_runOneJob_29 rfl (lv_at hl 0 rfl) ?_
          refine db_cV (As := [.int (bb_ahead N X1 (-1))]) (rest := []) (st1 := [.int ((bb_take X1 sz (bb_ahead N X1 (-1)).toNatClampNeg).1)]) hC hS 0 0 (bb_k 0 rfl) rfl db_c6 (c_X6_takeLocks' l Γ N L cnt X1 hN (bb_ahead N X1 (-1)) sz hIb hcn hin) (cw_X6_takeLocks (Nat.le_of_ble_eq_true rfl) (Nat.le_of_ble_eq_true rfl)) wd_332 wd_334 ws_22 rfl hl.1 rfl (Nat.le_of_ble_eq_true rfl) dX6_runOneJob_30 ⟨Nat.le_of_ble_eq_true rfl, Nat.le_of_ble_eq_true rfl⟩ rfl (fun H locs hS => ?_)
          obtain ⟨X2, eX2⟩ : ∃ z, z = (bb_take X1 sz (bb_ahead N X1 (-1)).toNatClampNeg).2 := ⟨_, rfl⟩
          rw [← eX2] at hS
          refine lv_if_eq (tgt := 43) hx hb dX6_runOneJob_33 (by decide) (fun c33 => ?_) (fun c33 => ?_)
          · refine lv_iinc (v := (nI (u + 1))) (lv' := [(1, .int (nI (u + 1))), (2, .int (bb_ahead N X1 (-1))), (0, .ref (L 0 0))]) hx hb dX6_runOneJob_43 hl (k := 2) rfl (nI_1 _) (by decide) rfl (fun ls hl => ?_)
            refine lv_goto (tgt := 2) hx hb dX6_runOneJob_46 (by decide) ?_
            exact ih2 (u + 1) X2 (by omega) hu (by rw [eX2]; exact bb_I.takeF (hin.lt hn0) sz 0 _ (by omega) hIb) (by rw [hrem, show N 0 - u = (N 0 - (u + 1)) + 1 by omega, bb_runF, ← eX1, if_neg c23, if_pos c33, eX2]) _ _ hS _ (lv_sub hl [2, 0] rfl)
          · have hIc : bb_I N cnt sz X2 := by rw [eX2]; exact bb_I.takeF (hin.lt hn0) sz 0 _ (by omega) hIb
            refine lv_aload_n hx hb dX6_runOneJob_36 rfl (lv_at hl 1 rfl) ?_
            refine lv_iload_n hx hb dX6_runOneJob_37 rfl (lv_at hl 0 rfl) ?_
            refine db_cV (As := [.int (bb_ahead N X1 (-1))]) (rest := []) (st1 := []) hC hS 0 0 (bb_k 0 rfl) rfl db_c6 (c_X6_workOneUnit' l Γ N L cnt X2 hN (bb_ahead N X1 (-1)) sz hIc hcn hin) (cw_X6_workOneUnit (Nat.le_of_ble_eq_true rfl) (Nat.le_of_ble_eq_true rfl)) wd_336 wd_338 ws_23 rfl hl.1 rfl (Nat.le_of_ble_eq_true rfl) dX6_runOneJob_38 ⟨Nat.le_of_ble_eq_true rfl, Nat.le_of_ble_eq_true rfl⟩ rfl (fun H locs hS => ?_)
            obtain ⟨X3, eX3⟩ : ∃ z, z = bb_work N X2 sz (bb_ahead N X1 (-1)).toNatClampNeg := ⟨_, rfl⟩
            rw [← eX3] at hS
            refine lv_iload_n hx hb dX6_runOneJob_41 rfl (lv_at hl 0 rfl) ?_
            exact hret _ _ _ _ _ _ hS (by rw [hrem, show N 0 - u = (N 0 - (u + 1)) + 1 by omega, bb_runF, ← eX1, if_neg c23, if_neg c33]) (by rw [hrem, show N 0 - u = (N 0 - (u + 1)) + 1 by omega, bb_runF, ← eX1, if_neg c23, if_neg c33, eX3, eX2]) dX6_runOneJob_42
        · refine lv_iconst (v := -1) hx hb dX6_runOneJob_26 (by decide) ?_
          exact hret _ _ _ _ _ _ hS (by rw [hrem, show N 0 - u = (N 0 - (u + 1)) + 1 by omega, bb_runF, ← eX1, if_pos c23]) (by rw [hrem, show N 0 - u = (N 0 - (u + 1)) + 1 by omega, bb_runF, ← eX1, if_pos c23]) dX6_runOneJob_27
  exact K2 _ 0 X (Nat.le_refl _) (Nat.zero_le _) hI rfl _ _ hS _ (lv_sub hl [1, 0] rfl)

set_option maxHeartbeats 4000000 in
set_option maxRecDepth 100000 in
theorem c_X6_passTick (l : Launch) (Γ : db_G) (N : Nat → Nat) (L : Nat → Nat → Nat) (cnt : Nat) (X : db_X) (hN : bb_N N) (sz tm th : Nat) (hI : bb_I N cnt sz X) (hcn : cnt < 2 ^ 31) (htm : X 6 0 2 = nI tm) (htm2 : tm + 40 < 2 ^ 31) (hth : X 9 0 1 = nI th) (hth2 : th < 2 ^ 31) : db_C l Γ yX6_passTick cX6_passTick 2 (some .int) (db_rm 5 117) [.ref (L 0 0)] L (bb_ok (N 0) cnt) (bb_cel Γ N L) X (some (.int ((bb_pass N X sz th).1))) ((bb_pass N X sz th).2) := by
  have hn0 : N 0 < 2 ^ 31 := by have := hN.2.1; omega
  have hn1 : N 1 < 2 ^ 31 := by have := hN.2.2.1; omega
  have hn2 : N 2 < 2 ^ 31 := by have := hN.2.2.2.1; omega
  have hn3 : N 3 < 2 ^ 31 := by have := hN.2.2.2.2; omega
  refine db_introI (by decide +kernel) (Nat.le_of_ble_eq_true rfl) ?_
  intro p e s m args below meth c A Q ls hC hS hl hret
  have hC : db_Cx p s m args meth c Γ RX6 cX6_passTick 2 (some .int) := hC
  obtain ⟨hx, hb, hml, hr, hlocks, hown, hts, hK⟩ := id hC
  have hl : lv_has ls 2 [(0, .ref (L 0 0))] := hl
  refine lv_aload_n hx hb dX6_passTick_0 rfl (lv_at hl 0 rfl) ?_
  refine db_cV (As := []) (rest := []) (st1 := []) hC hS 0 0 (bb_k 0 rfl) rfl db_c6 (c_X6_dropLateJobs l Γ N L cnt X hN sz tm hI htm htm2) (cw_X6_dropLateJobs (Nat.le_of_ble_eq_true rfl) (Nat.le_of_ble_eq_true rfl)) wd_308 wd_310 ws_16 rfl hl.1 rfl (Nat.le_of_ble_eq_true rfl) dX6_passTick_1 ⟨Nat.le_of_ble_eq_true rfl, Nat.le_of_ble_eq_true rfl⟩ rfl (fun H locs hS => ?_)
  obtain ⟨X1, eX1⟩ : ∃ z, z = bb_late N X (N 0) := ⟨_, rfl⟩
  rw [← eX1] at hS
  refine lv_aload_n hx hb dX6_passTick_4 rfl (lv_at hl 0 rfl) ?_
  refine db_cV (As := []) (rest := []) (st1 := []) hC hS 0 0 (bb_k 0 rfl) rfl db_c6 (c_X6_releaseJobs l Γ N L cnt X1 hN) (cw_X6_releaseJobs (Nat.le_of_ble_eq_true rfl) (Nat.le_of_ble_eq_true rfl)) wd_316 wd_318 ws_18 rfl hl.1 rfl (Nat.le_of_ble_eq_true rfl) dX6_passTick_5 ⟨Nat.le_of_ble_eq_true rfl, Nat.le_of_ble_eq_true rfl⟩ rfl (fun H locs hS => ?_)
  obtain ⟨X2, eX2⟩ : ∃ z, z = bb_rels X1 (N 0) := ⟨_, rfl⟩
  rw [← eX2] at hS
  have ept : X2 = bb_pt1 N X := by rw [eX2, eX1]; rfl
  have hIp : bb_I N cnt sz X2 := by rw [ept]; exact hI.pt1
  refine lv_aload_n hx hb dX6_passTick_8 rfl (lv_at hl 0 rfl) ?_
  refine db_cV (As := []) (rest := []) (st1 := [.int ((bb_run1 N X2 sz).1)]) hC hS 0 0 (bb_k 0 rfl) rfl db_c6 (c_X6_runOneJob l Γ N L cnt X2 hN sz hIp hcn) (cw_X6_runOneJob (Nat.le_of_ble_eq_true rfl) (Nat.le_of_ble_eq_true rfl)) wd_328 wd_330 ws_21 rfl hl.1 rfl (Nat.le_of_ble_eq_true rfl) dX6_passTick_9 ⟨Nat.le_of_ble_eq_true rfl, Nat.le_of_ble_eq_true rfl⟩ rfl (fun H locs hS => ?_)
  obtain ⟨X3, eX3⟩ : ∃ z, z = (bb_run1 N X2 sz).2 := ⟨_, rfl⟩
  rw [← eX3] at hS
  refine lv_istore_n (lv' := [(1, .int ((bb_run1 N X2 sz).1)), (0, .ref (L 0 0))]) hx hb dX6_passTick_12 rfl hl (by decide) rfl (fun ls hl => ?_)
  refine lv_aload_n hx hb dX6_passTick_13 rfl (lv_at hl 1 rfl) ?_
  refine lv_iload_n hx hb dX6_passTick_14 rfl (lv_at hl 0 rfl) ?_
  refine db_cV (As := [.int ((bb_run1 N X2 sz).1)]) (rest := []) (st1 := []) hC hS 0 0 (bb_k 0 rfl) rfl db_c6 (c_X6_countWaitsAndPutBys l Γ N L cnt X3 hN ((bb_run1 N X2 sz).1)) (cw_X6_countWaitsAndPutBys (Nat.le_of_ble_eq_true rfl) (Nat.le_of_ble_eq_true rfl)) wd_345 wd_347 ws_25 rfl hl.1 rfl (Nat.le_of_ble_eq_true rfl) dX6_passTick_15 ⟨Nat.le_of_ble_eq_true rfl, Nat.le_of_ble_eq_true rfl⟩ rfl (fun H locs hS => ?_)
  obtain ⟨X4, eX4⟩ : ∃ z, z = bb_cw ((bb_run1 N X2 sz).1) X3 (N 0) := ⟨_, rfl⟩
  rw [← eX4] at hS
  have hth1 : X4 9 0 1 = nI th := by rw [eX4, bb_cw_fr _ 9 0 1 rfl, eX3, bb_run1_fr 9 0 1 rfl, ept, bb_pt1_fr 9 0 1 rfl]; exact hth
  refine lv_aload_n hx hb dX6_passTick_18 rfl (lv_at hl 1 rfl) ?_
  refine db_get hx hb hts hown hK hS 0 0 (bb_k 0 rfl) rfl db_c6 4 (by decide) wd_176 rfl dX6_passTick_19 ?_
  refine lv_iload_n hx hb dX6_passTick_22 rfl (lv_at hl 0 rfl) ?_
  refine db_cVN (As := [.int ((bb_run1 N X2 sz).1)]) (rest := []) (st1 := []) hC hS 9 0 (bb_k 9 rfl) rfl db_c2 (c_X2_note l Γ N L cnt X4 hN ((bb_run1 N X2 sz).1) th hth1 hth2) (cw_X2_note (Nat.le_of_ble_eq_true rfl) (Nat.le_of_ble_eq_true rfl)) wn_349 wd_351 ws_26 rfl hl.1 rfl (Nat.le_of_ble_eq_true rfl) dX6_passTick_23 ⟨Nat.le_of_ble_eq_true rfl, Nat.le_of_ble_eq_true rfl⟩ rfl (fun H locs hS => ?_)
  obtain ⟨X5, eX5⟩ : ∃ z, z = bb_hn X4 th ((bb_run1 N X2 sz).1) := ⟨_, rfl⟩
  rw [← eX5] at hS
  refine lv_iload_n hx hb dX6_passTick_26 rfl (lv_at hl 0 rfl) ?_
  refine lv_iconst (v := -1) hx hb dX6_passTick_27 (by decide) ?_
  refine lv_icmp_ne (tgt := 41) hx hb dX6_passTick_28 (by decide) (fun c28 => ?_) (fun c28 => ?_)
  · refine lv_aload_n hx hb dX6_passTick_41 rfl (lv_at hl 1 rfl) ?_
    refine lv_dup hx hb dX6_passTick_42 rfl ?_
    refine db_get hx hb hts hown hK hS 0 0 (bb_k 0 rfl) rfl db_c6 6 (by decide) wd_178 rfl dX6_passTick_43 ?_
    refine lv_iconst (v := 1) hx hb dX6_passTick_46 (by decide) ?_
    refine lv_iadd hx hb dX6_passTick_47 ?_
    refine db_put hx hb hts hown hK hS 0 0 (bb_k 0 rfl) rfl db_c6 6 (by decide) wd_178 rfl rfl rfl (Nat.le_of_ble_eq_true rfl) rfl dX6_passTick_48 (fun H locs hS => ?_)
    obtain ⟨X6, eX6⟩ : ∃ z, z = db_up X5 0 0 6 ((X5 0 0 6) + 1) := ⟨_, rfl⟩
    rw [← eX6] at hS
    refine lv_iload_n hx hb dX6_passTick_51 rfl (lv_at hl 0 rfl) ?_
    exact hret _ _ _ _ _ _ hS (by simp only [bb_pass]; rw [← ept]) (by simp only [bb_pass, bb_pt2, bb_pt3]; rw [← ept, if_neg c28, eX6, eX5, eX4, eX3]; rfl) dX6_passTick_52
  · refine lv_aload_n hx hb dX6_passTick_31 rfl (lv_at hl 1 rfl) ?_
    refine lv_dup hx hb dX6_passTick_32 rfl ?_
    refine db_get hx hb hts hown hK hS 0 0 (bb_k 0 rfl) rfl db_c6 7 (by decide) wd_179 rfl dX6_passTick_33 ?_
    refine lv_iconst (v := 1) hx hb dX6_passTick_36 (by decide) ?_
    refine lv_iadd hx hb dX6_passTick_37 ?_
    refine db_put hx hb hts hown hK hS 0 0 (bb_k 0 rfl) rfl db_c6 7 (by decide) wd_179 rfl rfl rfl (Nat.le_of_ble_eq_true rfl) rfl dX6_passTick_38 (fun H locs hS => ?_)
    obtain ⟨X7, eX7⟩ : ∃ z, z = db_up X5 0 0 7 ((X5 0 0 7) + 1) := ⟨_, rfl⟩
    rw [← eX7] at hS
    refine lv_aload_n hx hb dX6_passTick_41 rfl (lv_at hl 1 rfl) ?_
    refine lv_dup hx hb dX6_passTick_42 rfl ?_
    refine db_get hx hb hts hown hK hS 0 0 (bb_k 0 rfl) rfl db_c6 6 (by decide) wd_178 rfl dX6_passTick_43 ?_
    refine lv_iconst (v := 1) hx hb dX6_passTick_46 (by decide) ?_
    refine lv_iadd hx hb dX6_passTick_47 ?_
    refine db_put hx hb hts hown hK hS 0 0 (bb_k 0 rfl) rfl db_c6 6 (by decide) wd_178 rfl rfl rfl (Nat.le_of_ble_eq_true rfl) rfl dX6_passTick_48 (fun H locs hS => ?_)
    obtain ⟨X8, eX8⟩ : ∃ z, z = db_up X7 0 0 6 ((X7 0 0 6) + 1) := ⟨_, rfl⟩
    rw [← eX8] at hS
    refine lv_iload_n hx hb dX6_passTick_51 rfl (lv_at hl 0 rfl) ?_
    exact hret _ _ _ _ _ _ hS (by simp only [bb_pass]; rw [← ept]) (by simp only [bb_pass, bb_pt2, bb_pt3]; rw [← ept, if_pos c28, eX8, eX7, eX5, eX4, eX3]; rfl) dX6_passTick_52
end
section
set_option maxHeartbeats 4000000 in
set_option maxRecDepth 100000 in
theorem c_X6_tick (l : Launch) (Γ : db_G) (N : Nat → Nat) (L : Nat → Nat → Nat) (cnt : Nat) (X : db_X) (hN : bb_N N) (sz tm th : Nat) (hI : bb_I N cnt sz X) (hcn : cnt < 2 ^ 31) (htm : X 6 0 2 = nI tm) (htm2 : tm + 40 < 2 ^ 31) (hth : X 9 0 1 = nI th) (hth2 : th < 2 ^ 31) : db_C l Γ yX6_tick cX6_tick 1 (some .int) (db_rm 6 138) [.ref (L 0 0)] L (bb_ok (N 0) cnt) (bb_cel Γ N L) X (some (.int ((bb_tick N X sz th).1))) ((bb_tick N X sz th).2) := by
  have hn0 : N 0 < 2 ^ 31 := by have := hN.2.1; omega
  have hn1 : N 1 < 2 ^ 31 := by have := hN.2.2.1; omega
  have hn2 : N 2 < 2 ^ 31 := by have := hN.2.2.2.1; omega
  have hn3 : N 3 < 2 ^ 31 := by have := hN.2.2.2.2; omega
  refine db_introI (by decide +kernel) (Nat.le_of_ble_eq_true rfl) ?_
  intro p e s m args below meth c A Q ls hC hS hl hret
  have hC : db_Cx p s m args meth c Γ RX6 cX6_tick 1 (some .int) := hC
  obtain ⟨hx, hb, hml, hr, hlocks, hown, hts, hK⟩ := id hC
  have hl : lv_has ls 1 [(0, .ref (L 0 0))] := hl
  refine lv_aload_n hx hb dX6_tick_0 rfl (lv_at hl 0 rfl) ?_
  refine db_get hx hb hts hown hK hS 0 0 (bb_k 0 rfl) rfl db_c6 6 (by decide) wd_178 rfl dX6_tick_1 ?_
  refine lv_aload_n hx hb dX6_tick_4 rfl (lv_at hl 0 rfl) ?_
  refine db_get hx hb hts hown hK hS 0 0 (bb_k 0 rfl) rfl db_c6 5 (by decide) wd_177 rfl dX6_tick_5 ?_
  refine lv_icmp_ge (tgt := 18) hx hb dX6_tick_8 (by decide) (fun c8 => ?_) (fun c8 => ?_)
  · refine lv_bipush (v := -2) hx hb dX6_tick_18 (by decide) ?_
    exact hret _ _ _ _ _ _ hS (by rw [bb_tick, if_pos c8]) (by rw [bb_tick, if_pos c8]) dX6_tick_20
  · refine lv_aload_n hx hb dX6_tick_11 rfl (lv_at hl 0 rfl) ?_
    refine db_cV (As := []) (rest := []) (st1 := [.int ((bb_pass N X sz th).1)]) hC hS 0 0 (bb_k 0 rfl) rfl db_c6 (c_X6_passTick l Γ N L cnt X hN sz tm th hI hcn htm htm2 hth hth2) (cw_X6_passTick (Nat.le_of_ble_eq_true rfl) (Nat.le_of_ble_eq_true rfl)) wd_304 wd_306 ws_15 rfl hl.1 rfl (Nat.le_of_ble_eq_true rfl) dX6_tick_12 ⟨Nat.le_of_ble_eq_true rfl, Nat.le_of_ble_eq_true rfl⟩ rfl (fun H locs hS => ?_)
    obtain ⟨X1, eX1⟩ : ∃ z, z = (bb_pass N X sz th).2 := ⟨_, rfl⟩
    rw [← eX1] at hS
    refine lv_goto (tgt := 20) hx hb dX6_tick_15 (by decide) ?_
    exact hret _ _ _ _ _ _ hS (by rw [bb_tick, if_neg c8]) (by rw [bb_tick, if_neg c8, eX1]) dX6_tick_20

set_option maxHeartbeats 4000000 in
set_option maxRecDepth 100000 in
theorem c_X6_run (l : Launch) (Γ : db_G) (N : Nat → Nat) (L : Nat → Nat → Nat) (cnt : Nat) (X : db_X) (hN : bb_N N) (n : Int32) (sz tm th : Nat) (hI : bb_I N cnt sz X) (hcn : cnt < 2 ^ 31) (htm : X 6 0 2 = nI tm) (htm2 : tm + 90000 < 2 ^ 31) (hth : X 9 0 1 = nI th) (hth2 : th + 3000 < 2 ^ 31) : db_C l Γ yX6_run cX6_run 4 (some .int) (db_rm 6 138) [.ref (L 0 0), .int n] L (bb_ok (N 0) cnt) (bb_cel Γ N L) X (some (.int ((bb_runC N X sz th n).1))) ((bb_runC N X sz th n).2) := by
  have hn0 : N 0 < 2 ^ 31 := by have := hN.2.1; omega
  have hn1 : N 1 < 2 ^ 31 := by have := hN.2.2.1; omega
  have hn2 : N 2 < 2 ^ 31 := by have := hN.2.2.2.1; omega
  have hn3 : N 3 < 2 ^ 31 := by have := hN.2.2.2.2; omega
  refine db_introI (by decide +kernel) (Nat.le_of_ble_eq_true rfl) ?_
  intro p e s m args below meth c A Q ls hC hS hl hret
  have hC : db_Cx p s m args meth c Γ RX6 cX6_run 4 (some .int) := hC
  obtain ⟨hx, hb, hml, hr, hlocks, hown, hts, hK⟩ := id hC
  have hl : lv_has ls 4 [(0, .ref (L 0 0)), (1, .int n)] := hl
  have K11 : ∀ (h11 : bb_runC N X sz th n = (-1, X)) (H : Heap) (locs : List Loc) (hS : db_S Γ A s.heap L (bb_ok (N 0) cnt) (bb_cel Γ N L) X H locs) (ls : Array Slot) (hl : lv_has ls 4 []), W p l e (db_rm 6 138) s m args below meth c H locs 0 0 Q (F0 m 11 ls []) := by
    intro  h11 H locs hS ls hl
    refine lv_iconst (v := -1) hx hb dX6_run_11 (by decide) ?_
    exact hret _ _ _ _ _ _ hS (by rw [h11]) (by rw [h11]) dX6_run_12
  refine lv_iload_n hx hb dX6_run_0 rfl (lv_at hl 1 rfl) ?_
  refine lv_if_lt (tgt := 11) hx hb dX6_run_1 (by decide) (fun c1 => ?_) (fun c1 => ?_)
  · exact K11  (by rw [bb_runC, if_pos c1]) _ _ hS _ (lv_sub hl [] rfl)
  · refine lv_iload_n hx hb dX6_run_4 rfl (lv_at hl 1 rfl) ?_
    refine lv_sipush (v := 2000) hx hb dX6_run_5 (by decide) ?_
    refine lv_icmp_le (tgt := 13) hx hb dX6_run_8 (by decide) (fun c8 => ?_) (fun c8 => ?_)
    · obtain ⟨nn, hnn0, rfl⟩ := nI_of (x := n) c1
      have hnk : nn ≤ 2000 := by
        have q := c8
        rw [show (2000 : Int32) = nI 2000 from rfl] at q
        exact (nI_leI hnn0 (by decide)).mp q
      have hnn : nn < 2 ^ 31 := hnn0
      have hN40 : N 0 ≤ 40 := hN.2.1
      refine lv_aload_n hx hb dX6_run_13 rfl (lv_at hl 0 rfl) ?_
      refine db_get hx hb hts hown hK hS 0 0 (bb_k 0 rfl) rfl db_c6 3 (by decide) wd_175 rfl dX6_run_14 ?_
      refine db_getN hx hb hts hown hK hS 6 0 (bb_k 6 rfl) rfl db_c1 2 (by decide) wn_151 rfl dX6_run_17 ?_
      refine lv_istore_n (lv' := [(2, .int (X 6 0 2)), (0, .ref (L 0 0)), (1, .int (nI nn))]) hx hb dX6_run_20 rfl hl (by decide) rfl (fun ls hl => ?_)
      refine lv_iconst (v := 0) hx hb dX6_run_21 (by decide) ?_
      refine lv_istore_n (lv' := [(3, .int 0), (2, .int (X 6 0 2)), (0, .ref (L 0 0)), (1, .int (nI nn))]) hx hb dX6_run_22 rfl hl (by decide) rfl (fun ls hl => ?_)
      have K23 : ∀ (q : Nat) (u : Nat) (Xa : db_X) (tu : Nat) (hq : nn + 1 - u ≤ q) (hu0 : u ≤ nn) (hIa : bb_I N cnt sz Xa) (htm1 : Xa 6 0 2 = nI tu) (htu : tu ≤ tm + 40 * u) (hth1 : Xa 9 0 1 = nI (th + u)) (hrem : bb_rn N sz (X 6 0 2) th nn 0 X = bb_rn N sz (X 6 0 2) th (nn - u) u Xa) (H : Heap) (locs : List Loc) (hS : db_S Γ A s.heap L (bb_ok (N 0) cnt) (bb_cel Γ N L) Xa H locs) (ls : Array Slot) (hl : lv_has ls 4 [(0, .ref (L 0 0)), (1, .int (nI nn)), (2, .int (X 6 0 2)), (3, .int (nI u))]), W p l e (db_rm 6 138) s m args below meth c H locs 0 0 Q (F0 m 23 ls []) := by
        intro q23
        induction q23 with
        | zero =>
          intro u Xa tu hq23 hu0 hIa htm1 htu hth1 hrem
          exact absurd hq23 (by omega)
        | succ q23 ih23 =>
          intro u Xa tu hq23 hu0 hIa htm1 htu hth1 hrem H locs hS ls hl
          refine lv_iload_n hx hb dX6_run_23 rfl (lv_at hl 3 rfl) ?_
          refine lv_iload_n hx hb dX6_run_24 rfl (lv_at hl 1 rfl) ?_
          refine lv_icmp_ge (tgt := 61) hx hb dX6_run_25 (by decide) (fun c25 => ?_) (fun c25 => ?_)
          · have hu : u = nn := by
              rcases Nat.lt_or_ge u (nn) with q9 | q9
              · exact absurd c25 (nI_ge q9 hnn)
              · omega
            refine lv_iload_n hx hb dX6_run_61 rfl (lv_at hl 3 rfl) ?_
            exact hret _ _ _ _ _ _ hS (by rw [bb_runC, if_neg c1, if_neg (fun q => absurd c8 (Int32.not_le.mpr q)), nI_clamp hnn, hrem, hu, Nat.sub_self]; rfl) (by rw [bb_runC, if_neg c1, if_neg (fun q => absurd c8 (Int32.not_le.mpr q)), nI_clamp hnn, hrem, hu, Nat.sub_self]; rfl) dX6_run_62
          · have hu : u < nn := by
              rcases Nat.lt_or_ge u (nn) with q9 | q9
              · exact q9
              · exact absurd (nI_le q9 (by omega)) c25
            refine lv_aload_n hx hb dX6_run_28 rfl (lv_at hl 0 rfl) ?_
            refine db_get hx hb hts hown hK hS 0 0 (bb_k 0 rfl) rfl db_c6 6 (by decide) wd_178 rfl dX6_run_29 ?_
            refine lv_aload_n hx hb dX6_run_32 rfl (lv_at hl 0 rfl) ?_
            refine db_get hx hb hts hown hK hS 0 0 (bb_k 0 rfl) rfl db_c6 5 (by decide) wd_177 rfl dX6_run_33 ?_
            refine lv_icmp_ge (tgt := 61) hx hb dX6_run_36 (by decide) (fun c36 => ?_) (fun c36 => ?_)
            · refine lv_iload_n hx hb dX6_run_61 rfl (lv_at hl 3 rfl) ?_
              exact hret _ _ _ _ _ _ hS (by rw [bb_runC, if_neg c1, if_neg (fun q => absurd c8 (Int32.not_le.mpr q)), nI_clamp hnn, hrem, show nn - u = (nn - (u + 1)) + 1 by omega, bb_rn, if_pos c36]) (by rw [bb_runC, if_neg c1, if_neg (fun q => absurd c8 (Int32.not_le.mpr q)), nI_clamp hnn, hrem, show nn - u = (nn - (u + 1)) + 1 by omega, bb_rn, if_pos c36]) dX6_run_62
            · refine lv_aload_n hx hb dX6_run_39 rfl (lv_at hl 0 rfl) ?_
              refine db_get hx hb hts hown hK hS 0 0 (bb_k 0 rfl) rfl db_c6 3 (by decide) wd_175 rfl dX6_run_40 ?_
              refine db_getN hx hb hts hown hK hS 6 0 (bb_k 6 rfl) rfl db_c1 2 (by decide) wn_151 rfl dX6_run_43 ?_
              refine lv_iload_n hx hb dX6_run_46 rfl (lv_at hl 2 rfl) ?_
              refine lv_icmp_ne (tgt := 61) hx hb dX6_run_47 (by decide) (fun c47 => ?_) (fun c47 => ?_)
              · refine lv_iload_n hx hb dX6_run_61 rfl (lv_at hl 3 rfl) ?_
                exact hret _ _ _ _ _ _ hS (by rw [bb_runC, if_neg c1, if_neg (fun q => absurd c8 (Int32.not_le.mpr q)), nI_clamp hnn, hrem, show nn - u = (nn - (u + 1)) + 1 by omega, bb_rn, if_neg c36, if_neg c47]) (by rw [bb_runC, if_neg c1, if_neg (fun q => absurd c8 (Int32.not_le.mpr q)), nI_clamp hnn, hrem, show nn - u = (nn - (u + 1)) + 1 by omega, bb_rn, if_neg c36, if_neg c47]) dX6_run_62
              · obtain ⟨tv, htv, etv⟩ := bb_late_tot (N := N) htm1 (N 0)
                refine lv_aload_n hx hb dX6_run_50 rfl (lv_at hl 0 rfl) ?_
                refine db_cV (As := []) (rest := []) (st1 := [.int ((bb_pass N Xa sz (th + u)).1)]) hC hS 0 0 (bb_k 0 rfl) rfl db_c6 (c_X6_passTick l Γ N L cnt Xa hN sz tu (th + u) hIa hcn htm1 (by omega) hth1 (by omega)) (cw_X6_passTick (Nat.le_of_ble_eq_true rfl) (Nat.le_of_ble_eq_true rfl)) wd_304 wd_306 ws_15 rfl hl.1 rfl (Nat.le_of_ble_eq_true rfl) dX6_run_51 ⟨Nat.le_of_ble_eq_true rfl, Nat.le_of_ble_eq_true rfl⟩ rfl (fun H locs hS => ?_)
                obtain ⟨X1, eX1⟩ : ∃ z, z = (bb_pass N Xa sz (th + u)).2 := ⟨_, rfl⟩
                rw [← eX1] at hS
                refine lv_pop hx hb dX6_run_54 rfl ?_
                refine lv_iinc (v := (nI (u + 1))) (lv' := [(3, .int (nI (u + 1))), (0, .ref (L 0 0)), (1, .int (nI nn)), (2, .int (X 6 0 2))]) hx hb dX6_run_55 hl (k := 3) rfl (nI_1 _) (by decide) rfl (fun ls hl => ?_)
                refine lv_goto (tgt := 23) hx hb dX6_run_58 (by decide) ?_
                exact ih23 (u + 1) X1 tv (by omega) hu (by rw [eX1]; exact bb_I.pass hN hIa) (by rw [eX1, bb_pass_6]; exact etv) (by omega) (by rw [eX1, bb_pass_9, hth1, nI_1]; rfl) (by rw [hrem, show nn - u = (nn - (u + 1)) + 1 by omega, bb_rn, if_neg c36, if_pos c47, eX1]) _ _ hS _ (lv_sub hl [1, 2, 3, 0] rfl)
      exact K23 _ 0 X tm (Nat.le_refl _) (Nat.zero_le _) hI htm (by omega) hth rfl _ _ hS _ (lv_sub hl [2, 3, 1, 0] rfl)
    · exact K11  (by rw [bb_runC, if_neg c1, if_pos (Int32.not_le.mp c8)]) _ _ hS _ (lv_sub hl [] rfl)

set_option maxHeartbeats 4000000 in
set_option maxRecDepth 100000 in
theorem c_X6_effective (l : Launch) (Γ : db_G) (N : Nat → Nat) (L : Nat → Nat → Nat) (cnt : Nat) (X : db_X) (hN : bb_N N) (t : Int32) (sz : Nat) (hI : bb_I N cnt sz X) : db_C l Γ yX6_effective cX6_effective 2 (some .int) (db_rm 2 49) [.ref (L 0 0), .int t] L (bb_ok (N 0) cnt) (bb_cel Γ N L) X (some (.int ((bb_eff N X t).1))) ((bb_eff N X t).2) := by
  have hn0 : N 0 < 2 ^ 31 := by have := hN.2.1; omega
  have hn1 : N 1 < 2 ^ 31 := by have := hN.2.2.1; omega
  have hn2 : N 2 < 2 ^ 31 := by have := hN.2.2.2.1; omega
  have hn3 : N 3 < 2 ^ 31 := by have := hN.2.2.2.2; omega
  refine db_introI (by decide +kernel) (Nat.le_of_ble_eq_true rfl) ?_
  intro p e s m args below meth c A Q ls hC hS hl hret
  have hC : db_Cx p s m args meth c Γ RX6 cX6_effective 2 (some .int) := hC
  obtain ⟨hx, hb, hml, hr, hlocks, hown, hts, hK⟩ := id hC
  have hl : lv_has ls 2 [(0, .ref (L 0 0)), (1, .int t)] := hl
  refine lv_aload_n hx hb dX6_effective_0 rfl (lv_at hl 0 rfl) ?_
  refine lv_iload_n hx hb dX6_effective_1 rfl (lv_at hl 1 rfl) ?_
  refine db_cV (As := [.int t]) (rest := []) (st1 := [.int (bb_hasJob N X t)]) hC hS 0 0 (bb_k 0 rfl) rfl db_c6 (c_X6_hasJob l Γ N L cnt X hN t ) (cw_X6_hasJob (Nat.le_of_ble_eq_true rfl) (Nat.le_of_ble_eq_true rfl)) wd_369 wd_371 ws_28 rfl hl.1 rfl (Nat.le_of_ble_eq_true rfl) dX6_effective_2 ⟨Nat.le_of_ble_eq_true rfl, Nat.le_of_ble_eq_true rfl⟩ rfl (fun H locs hS => ?_)
  refine lv_if_ne (tgt := 10) hx hb dX6_effective_5 (by decide) (fun c5 => ?_) (fun c5 => ?_)
  · obtain ⟨j, hj, rfl⟩ := bb_hasJob_ix hn0 c5
    refine lv_aload_n hx hb dX6_effective_10 rfl (lv_at hl 0 rfl) ?_
    refine db_cV (As := []) (rest := []) (st1 := []) hC hS 0 0 (bb_k 0 rfl) rfl db_c6 (c_X6_inheritDeadlines l Γ N L cnt X hN sz hI) (cw_X6_inheritDeadlines (Nat.le_of_ble_eq_true rfl) (Nat.le_of_ble_eq_true rfl)) wd_276 wd_278 ws_10 rfl hl.1 rfl (Nat.le_of_ble_eq_true rfl) dX6_effective_11 ⟨Nat.le_of_ble_eq_true rfl, Nat.le_of_ble_eq_true rfl⟩ rfl (fun H locs hS => ?_)
    obtain ⟨X1, eX1⟩ : ∃ z, z = bb_inh N X := ⟨_, rfl⟩
    rw [← eX1] at hS
    refine lv_aload_n hx hb dX6_effective_14 rfl (lv_at hl 0 rfl) ?_
    refine db_get hx hb hts hown hK hS 0 0 (bb_k 0 rfl) rfl db_c6 0 (by decide) wd_172 rfl dX6_effective_15 ?_
    refine lv_iload_n hx hb dX6_effective_18 rfl (lv_at hl 1 rfl) ?_
    refine db_ald hx hb hK hS 11 0 (bb_k 11 rfl) 2 rfl rfl j rfl hj hn0 rfl dX6_effective_19 ?_
    refine db_getN hx hb hts hown hK hS 1 j (bb_kT hj) rfl db_c5 0 (by decide) wn_71 rfl dX6_effective_20 ?_
    refine db_getN hx hb hts hown hK hS 2 j (bb_kJ hj) rfl db_c0 5 (by decide) wn_52 rfl dX6_effective_23 ?_
    exact hret _ _ _ _ _ _ hS (by rw [bb_eff, if_neg c5, db_nIc hj hn0, ← eX1]) (by rw [bb_eff, if_neg c5, ← eX1]) dX6_effective_26
  · refine lv_iconst (v := -1) hx hb dX6_effective_8 (by decide) ?_
    exact hret _ _ _ _ _ _ hS (by rw [bb_eff, if_pos c5]) (by rw [bb_eff, if_pos c5]) dX6_effective_9

set_option maxHeartbeats 4000000 in
set_option maxRecDepth 100000 in
theorem c_X6_missCount (l : Launch) (Γ : db_G) (N : Nat → Nat) (L : Nat → Nat → Nat) (cnt : Nat) (X : db_X) (hN : bb_N N) : db_C l Γ yX6_missCount cX6_missCount 1 (some .int) (db_rm 0 0) [.ref (L 0 0)] L (bb_ok (N 0) cnt) (bb_cel Γ N L) X (some (.int (X 6 0 2))) X := by
  have hn0 : N 0 < 2 ^ 31 := by have := hN.2.1; omega
  have hn1 : N 1 < 2 ^ 31 := by have := hN.2.2.1; omega
  have hn2 : N 2 < 2 ^ 31 := by have := hN.2.2.2.1; omega
  have hn3 : N 3 < 2 ^ 31 := by have := hN.2.2.2.2; omega
  refine db_introI (by decide +kernel) (Nat.le_of_ble_eq_true rfl) ?_
  intro p e s m args below meth c A Q ls hC hS hl hret
  have hC : db_Cx p s m args meth c Γ RX6 cX6_missCount 1 (some .int) := hC
  obtain ⟨hx, hb, hml, hr, hlocks, hown, hts, hK⟩ := id hC
  have hl : lv_has ls 1 [(0, .ref (L 0 0))] := hl
  refine lv_aload_n hx hb dX6_missCount_0 rfl (lv_at hl 0 rfl) ?_
  refine db_get hx hb hts hown hK hS 0 0 (bb_k 0 rfl) rfl db_c6 3 (by decide) wd_175 rfl dX6_missCount_1 ?_
  refine db_getN hx hb hts hown hK hS 6 0 (bb_k 6 rfl) rfl db_c1 2 (by decide) wn_151 rfl dX6_missCount_4 ?_
  exact hret _ _ _ _ _ _ hS (rfl) (rfl) dX6_missCount_7

set_option maxHeartbeats 4000000 in
set_option maxRecDepth 100000 in
theorem c_X6_ran (l : Launch) (Γ : db_G) (N : Nat → Nat) (L : Nat → Nat → Nat) (cnt : Nat) (X : db_X) (hN : bb_N N) (k : Int32) (th : Nat) (hth : X 9 0 1 = nI th) (hth2 : th < 2 ^ 31) : db_C l Γ yX6_ran cX6_ran 2 (some .int) (db_rm 1 21) [.ref (L 0 0), .int k] L (bb_ok (N 0) cnt) (bb_cel Γ N L) X (some (.int (bb_back X th k))) X := by
  have hn0 : N 0 < 2 ^ 31 := by have := hN.2.1; omega
  have hn1 : N 1 < 2 ^ 31 := by have := hN.2.2.1; omega
  have hn2 : N 2 < 2 ^ 31 := by have := hN.2.2.2.1; omega
  have hn3 : N 3 < 2 ^ 31 := by have := hN.2.2.2.2; omega
  refine db_introI (by decide +kernel) (Nat.le_of_ble_eq_true rfl) ?_
  intro p e s m args below meth c A Q ls hC hS hl hret
  have hC : db_Cx p s m args meth c Γ RX6 cX6_ran 2 (some .int) := hC
  obtain ⟨hx, hb, hml, hr, hlocks, hown, hts, hK⟩ := id hC
  have hl : lv_has ls 2 [(0, .ref (L 0 0)), (1, .int k)] := hl
  refine lv_aload_n hx hb dX6_ran_0 rfl (lv_at hl 0 rfl) ?_
  refine db_get hx hb hts hown hK hS 0 0 (bb_k 0 rfl) rfl db_c6 4 (by decide) wd_176 rfl dX6_ran_1 ?_
  refine lv_iload_n hx hb dX6_ran_4 rfl (lv_at hl 1 rfl) ?_
  refine db_cVN (As := [.int k]) (rest := []) (st1 := [.int (bb_back X th k)]) hC hS 9 0 (bb_k 9 rfl) rfl db_c2 (c_X2_runnerBack l Γ N L cnt X hN k th hth hth2) (cw_X2_runnerBack (Nat.le_of_ble_eq_true rfl) (Nat.le_of_ble_eq_true rfl)) wn_361 wd_363 ws_27 rfl hl.1 rfl (Nat.le_of_ble_eq_true rfl) dX6_ran_5 ⟨Nat.le_of_ble_eq_true rfl, Nat.le_of_ble_eq_true rfl⟩ rfl (fun H locs hS => ?_)
  exact hret _ _ _ _ _ _ hS (rfl) (rfl) dX6_ran_8

set_option maxHeartbeats 4000000 in
set_option maxRecDepth 100000 in
theorem c_X6_miss (l : Launch) (Γ : db_G) (N : Nat → Nat) (L : Nat → Nat → Nat) (cnt : Nat) (X : db_X) (hN : bb_N N) (i : Int32) (w : Int32) : db_C l Γ yX6_miss cX6_miss 3 (some .int) (db_rm 1 21) [.ref (L 0 0), .int i, .int w] L (bb_ok (N 0) cnt) (bb_cel Γ N L) X (some (.int (bb_miss N X i w))) X := by
  have hn0 : N 0 < 2 ^ 31 := by have := hN.2.1; omega
  have hn1 : N 1 < 2 ^ 31 := by have := hN.2.2.1; omega
  have hn2 : N 2 < 2 ^ 31 := by have := hN.2.2.2.1; omega
  have hn3 : N 3 < 2 ^ 31 := by have := hN.2.2.2.2; omega
  refine db_introI (by decide +kernel) (Nat.le_of_ble_eq_true rfl) ?_
  intro p e s m args below meth c A Q ls hC hS hl hret
  have hC : db_Cx p s m args meth c Γ RX6 cX6_miss 3 (some .int) := hC
  obtain ⟨hx, hb, hml, hr, hlocks, hown, hts, hK⟩ := id hC
  have hl : lv_has ls 3 [(0, .ref (L 0 0)), (1, .int i), (2, .int w)] := hl
  refine lv_aload_n hx hb dX6_miss_0 rfl (lv_at hl 0 rfl) ?_
  refine db_get hx hb hts hown hK hS 0 0 (bb_k 0 rfl) rfl db_c6 3 (by decide) wd_175 rfl dX6_miss_1 ?_
  refine lv_iload_n hx hb dX6_miss_4 rfl (lv_at hl 1 rfl) ?_
  refine db_cVN (As := [.int i]) (rest := []) (st1 := [.int (bb_keeps N X i)]) hC hS 6 0 (bb_k 6 rfl) rfl db_c1 (c_X1_keeps l Γ N L cnt X hN i) (cw_X1_keeps (Nat.le_of_ble_eq_true rfl) (Nat.le_of_ble_eq_true rfl)) wn_401 wd_403 ws_29 rfl hl.1 rfl (Nat.le_of_ble_eq_true rfl) dX6_miss_5 ⟨Nat.le_of_ble_eq_true rfl, Nat.le_of_ble_eq_true rfl⟩ rfl (fun H locs hS => ?_)
  refine lv_if_ne (tgt := 13) hx hb dX6_miss_8 (by decide) (fun c8 => ?_) (fun c8 => ?_)
  · obtain ⟨j, hj, rfl⟩ := bb_keeps_ix hn3 c8
    refine lv_iload_n hx hb dX6_miss_13 rfl (lv_at hl 2 rfl) ?_
    by_cases w14_0 : w = 0
    · refine lv_lookup (tgt := 40) hx hb dX6_miss_14 (by decide) (off := 26) (by rw [w14_0]; rfl) (by decide) ?_
      refine lv_aload_n hx hb dX6_miss_40 rfl (lv_at hl 0 rfl) ?_
      refine db_get hx hb hts hown hK hS 0 0 (bb_k 0 rfl) rfl db_c6 3 (by decide) wd_175 rfl dX6_miss_41 ?_
      refine db_getN hx hb hts hown hK hS 6 0 (bb_k 6 rfl) rfl db_c1 0 (by decide) wn_147 rfl dX6_miss_44 ?_
      refine lv_iload_n hx hb dX6_miss_47 rfl (lv_at hl 1 rfl) ?_
      refine db_ild hx hb hK hS 7 0 (bb_k 7 rfl) rfl j rfl hj hn3 dX6_miss_48 ?_
      exact hret _ _ _ _ _ _ hS (by simp [bb_miss, c8, w14_0, db_nIc hj hn3]) (rfl) dX6_miss_49
    by_cases w14_1 : w = 1
    · refine lv_lookup (tgt := 50) hx hb dX6_miss_14 (by decide) (off := 36) (by rw [w14_1]; rfl) (by decide) ?_
      refine lv_aload_n hx hb dX6_miss_50 rfl (lv_at hl 0 rfl) ?_
      refine db_get hx hb hts hown hK hS 0 0 (bb_k 0 rfl) rfl db_c6 3 (by decide) wd_175 rfl dX6_miss_51 ?_
      refine db_getN hx hb hts hown hK hS 6 0 (bb_k 6 rfl) rfl db_c1 1 (by decide) wn_149 rfl dX6_miss_54 ?_
      refine lv_iload_n hx hb dX6_miss_57 rfl (lv_at hl 1 rfl) ?_
      refine db_ild hx hb hK hS 8 0 (bb_k 8 rfl) rfl j rfl hj hn3 dX6_miss_58 ?_
      exact hret _ _ _ _ _ _ hS (by simp [bb_miss, c8, w14_0, w14_1, db_nIc hj hn3]) (rfl) dX6_miss_59
    refine lv_lookup (tgt := 60) hx hb dX6_miss_14 (by decide) (off := 46) (by show Op.lookupswitch.offset [(0, 26), (1, 36)] _ _ = _; rw [lv_osw (a := 0) w14_0 (by decide), lv_osw (a := 1) w14_1 (by decide)]; rfl) (by decide) ?_
    refine lv_iconst (v := -1) hx hb dX6_miss_60 (by decide) ?_
    exact hret _ _ _ _ _ _ hS (by simp [bb_miss, c8, w14_0, w14_1, db_nIc hj hn3]) (rfl) dX6_miss_61
  · refine lv_iconst (v := -1) hx hb dX6_miss_11 (by decide) ?_
    exact hret _ _ _ _ _ _ hS (by simp [bb_miss, c8]) (rfl) dX6_miss_12

set_option maxHeartbeats 4000000 in
set_option maxRecDepth 100000 in
theorem c_X4_sizeOf (l : Launch) (Γ : db_G) (N : Nat → Nat) (L : Nat → Nat → Nat) (cnt : Nat) (X : db_X) (hN : bb_N N) (t : Int32) (sz : Nat) (hI : bb_I N cnt sz X) (hcn : cnt < 2 ^ 31) : db_C l Γ yX4_sizeOf cX4_sizeOf 4 (some .int) (db_rm 0 0) [.ref (L 4 0), .int t] L (bb_ok (N 0) cnt) (bb_cel Γ N L) X (some (.int (bb_sizeOf X sz t))) X := by
  have hn0 : N 0 < 2 ^ 31 := by have := hN.2.1; omega
  have hn1 : N 1 < 2 ^ 31 := by have := hN.2.2.1; omega
  have hn2 : N 2 < 2 ^ 31 := by have := hN.2.2.2.1; omega
  have hn3 : N 3 < 2 ^ 31 := by have := hN.2.2.2.2; omega
  refine db_introI (by decide +kernel) (Nat.le_of_ble_eq_true rfl) ?_
  intro p e s m args below meth c A Q ls hC hS hl hret
  have hC : db_Cx p s m args meth c Γ RX4 cX4_sizeOf 4 (some .int) := hC
  obtain ⟨hx, hb, hml, hr, hlocks, hown, hts, hK⟩ := id hC
  have hl : lv_has ls 4 [(0, .ref (L 4 0)), (1, .int t)] := hl
  have hsz : sz < 2 ^ 31 := by have := hI.2.2.2.1; omega
  refine lv_iconst (v := 0) hx hb dX4_sizeOf_0 (by decide) ?_
  refine lv_istore_n (lv' := [(2, .int 0), (0, .ref (L 4 0)), (1, .int t)]) hx hb dX4_sizeOf_1 rfl hl (by decide) rfl (fun ls hl => ?_)
  refine lv_iconst (v := 0) hx hb dX4_sizeOf_2 (by decide) ?_
  refine lv_istore_n (lv' := [(3, .int 0), (2, .int 0), (0, .ref (L 4 0)), (1, .int t)]) hx hb dX4_sizeOf_3 rfl hl (by decide) rfl (fun ls hl => ?_)
  have K4 : ∀ (q : Nat) (u : Nat) (acc : Int32) (hq : sz + 1 - u ≤ q) (hu0 : u ≤ sz) (hacc : acc = db_cnt (fun p => decide (bb_sec X p 0 = t)) u) (H : Heap) (locs : List Loc) (hS : db_S Γ A s.heap L (bb_ok (N 0) cnt) (bb_cel Γ N L) X H locs) (ls : Array Slot) (hl : lv_has ls 4 [(0, .ref (L 4 0)), (1, .int t), (2, .int acc), (3, .int (nI u))]), W p l e (db_rm 0 0) s m args below meth c H locs 0 0 Q (F0 m 4 ls []) := by
    intro q4
    induction q4 with
    | zero =>
      intro u acc hq4 hu0 hacc
      exact absurd hq4 (by omega)
    | succ q4 ih4 =>
      intro u acc hq4 hu0 hacc H locs hS ls hl
      refine lv_iload_n hx hb dX4_sizeOf_4 rfl (lv_at hl 3 rfl) ?_
      refine lv_aload_n hx hb dX4_sizeOf_5 rfl (lv_at hl 0 rfl) ?_
      refine db_get hx hb hts hown hK hS 4 0 (bb_k 4 rfl) rfl db_c4 1 (by decide) wd_132 rfl dX4_sizeOf_6 ?_
      rw [show X 4 0 1 = nI sz from hI.2.2.1]
      refine lv_icmp_ge (tgt := 34) hx hb dX4_sizeOf_9 (by decide) (fun c9 => ?_) (fun c9 => ?_)
      · have hu : u = sz := by
          rcases Nat.lt_or_ge u (sz) with q9 | q9
          · exact absurd c9 (nI_ge q9 hsz)
          · omega
        refine lv_iload_n hx hb dX4_sizeOf_34 rfl (lv_at hl 2 rfl) ?_
        exact hret _ _ _ _ _ _ hS (by rw [hacc, hu]; rfl) (rfl) dX4_sizeOf_35
      · have hu : u < sz := by
          rcases Nat.lt_or_ge u (sz) with q9 | q9
          · exact q9
          · exact absurd (nI_le q9 (by omega)) c9
        have hlk : db_in (bb_sec X u 2) (N 1) := (hI.2.2.2.2 u hu).2
        refine lv_aload_n hx hb dX4_sizeOf_12 rfl (lv_at hl 0 rfl) ?_
        refine db_get hx hb hts hown hK hS 4 0 (bb_k 4 rfl) rfl db_c4 0 (by decide) wd_130 rfl dX4_sizeOf_13 ?_
        refine lv_iload_n hx hb dX4_sizeOf_16 rfl (lv_at hl 3 rfl) ?_
        refine db_ald hx hb hK hS 5 0 (bb_k 5 rfl) 3 rfl rfl u rfl (Nat.lt_of_lt_of_le hu hI.2.2.2.1) hn2 (bb_rowf (hI.2.2.2.2 u hu).1 hcn) dX4_sizeOf_17 ?_
        refine db_getN hx hb hts hown hK hS 12 ((X 5 0 u).toNatClampNeg) (bb_kS ((hI.2.2.2.2 u hu).1.lt hcn)) rfl db_c3 0 (by decide) wn_224 rfl dX4_sizeOf_18 ?_
        refine lv_iload_n hx hb dX4_sizeOf_21 rfl (lv_at hl 1 rfl) ?_
        refine lv_icmp_ne (tgt := 28) hx hb dX4_sizeOf_22 (by decide) (fun c22 => ?_) (fun c22 => ?_)
        · have c22 : ¬ bb_sec X u 0 = t := c22
          refine lv_iinc (v := (nI (u + 1))) (lv' := [(3, .int (nI (u + 1))), (0, .ref (L 4 0)), (1, .int t), (2, .int acc)]) hx hb dX4_sizeOf_28 hl (k := 3) rfl (nI_1 _) (by decide) rfl (fun ls hl => ?_)
          refine lv_goto (tgt := 4) hx hb dX4_sizeOf_31 (by decide) ?_
          exact ih4 (u + 1) acc (by omega) hu (by rw [db_cnt, ← hacc, if_neg (by simpa using c22)]) _ _ hS _ (lv_sub hl [1, 2, 3, 0] rfl)
        · have c22 : bb_sec X u 0 = t := c22
          refine lv_iinc (v := (acc + 1)) (lv' := [(2, .int (acc + 1)), (0, .ref (L 4 0)), (1, .int t), (3, .int (nI u))]) hx hb dX4_sizeOf_25 hl (k := 2) rfl rfl (by decide) rfl (fun ls hl => ?_)
          refine lv_iinc (v := (nI (u + 1))) (lv' := [(3, .int (nI (u + 1))), (2, .int (acc + 1)), (0, .ref (L 4 0)), (1, .int t)]) hx hb dX4_sizeOf_28 hl (k := 3) rfl (nI_1 _) (by decide) rfl (fun ls hl => ?_)
          refine lv_goto (tgt := 4) hx hb dX4_sizeOf_31 (by decide) ?_
          exact ih4 (u + 1) (acc + 1) (by omega) hu (by rw [db_cnt, ← hacc, if_pos (decide_eq_true c22)]) _ _ hS _ (lv_sub hl [2, 3, 1, 0] rfl)
  exact K4 _ 0 0 (Nat.le_refl _) (Nat.zero_le _) rfl _ _ hS _ (lv_sub hl [2, 3, 1, 0] rfl)

set_option maxHeartbeats 4000000 in
set_option maxRecDepth 100000 in
theorem c_X6_task (l : Launch) (Γ : db_G) (N : Nat → Nat) (L : Nat → Nat → Nat) (cnt : Nat) (X : db_X) (hN : bb_N N) (t : Int32) (w : Int32) (sz : Nat) (hI : bb_I N cnt sz X) (hcn : cnt < 2 ^ 31) : db_C l Γ yX6_task cX6_task 4 (some .int) (db_rm 1 23) [.ref (L 0 0), .int t, .int w] L (bb_ok (N 0) cnt) (bb_cel Γ N L) X (some (.int (bb_task N X sz t w))) X := by
  have hn0 : N 0 < 2 ^ 31 := by have := hN.2.1; omega
  have hn1 : N 1 < 2 ^ 31 := by have := hN.2.2.1; omega
  have hn2 : N 2 < 2 ^ 31 := by have := hN.2.2.2.1; omega
  have hn3 : N 3 < 2 ^ 31 := by have := hN.2.2.2.2; omega
  refine db_introI (by decide +kernel) (Nat.le_of_ble_eq_true rfl) ?_
  intro p e s m args below meth c A Q ls hC hS hl hret
  have hC : db_Cx p s m args meth c Γ RX6 cX6_task 4 (some .int) := hC
  obtain ⟨hx, hb, hml, hr, hlocks, hown, hts, hK⟩ := id hC
  have hl : lv_has ls 4 [(0, .ref (L 0 0)), (1, .int t), (2, .int w)] := hl
  refine lv_aload_n hx hb dX6_task_0 rfl (lv_at hl 0 rfl) ?_
  refine lv_iload_n hx hb dX6_task_1 rfl (lv_at hl 1 rfl) ?_
  refine db_cV (As := [.int t]) (rest := []) (st1 := [.int (bb_isLive N X t)]) hC hS 0 0 (bb_k 0 rfl) rfl db_c6 (c_X6_isLive l Γ N L cnt X hN t ) (cw_X6_isLive (Nat.le_of_ble_eq_true rfl) (Nat.le_of_ble_eq_true rfl)) wd_209 wd_211 ws_1 rfl hl.1 rfl (Nat.le_of_ble_eq_true rfl) dX6_task_2 ⟨Nat.le_of_ble_eq_true rfl, Nat.le_of_ble_eq_true rfl⟩ rfl (fun H locs hS => ?_)
  refine lv_if_ne (tgt := 10) hx hb dX6_task_5 (by decide) (fun c5 => ?_) (fun c5 => ?_)
  · obtain ⟨j, hj, rfl⟩ := bb_isLive_ix hn0 c5
    refine lv_aload_n hx hb dX6_task_10 rfl (lv_at hl 0 rfl) ?_
    refine db_get hx hb hts hown hK hS 0 0 (bb_k 0 rfl) rfl db_c6 0 (by decide) wd_172 rfl dX6_task_11 ?_
    refine lv_iload_n hx hb dX6_task_14 rfl (lv_at hl 1 rfl) ?_
    refine db_ald hx hb hK hS 11 0 (bb_k 11 rfl) 2 rfl rfl j rfl hj hn0 rfl dX6_task_15 ?_
    refine lv_astore_n (lv' := [(3, .ref (L 1 j)), (0, .ref (L 0 0)), (1, .int (nI j)), (2, .int w)]) hx hb dX6_task_16 rfl hl (by decide) rfl (fun ls hl => ?_)
    refine lv_iload_n hx hb dX6_task_17 rfl (lv_at hl 3 rfl) ?_
    by_cases w18_0 : w = 0
    · refine lv_tableIn (tgt := 76) (off := 58) hx hb dX6_task_18 (by rw [w18_0]; decide) (by rw [w18_0]; decide) (by rw [w18_0]; decide) (by decide) ?_
      refine lv_aload_n hx hb dX6_task_76 rfl (lv_at hl 0 rfl) ?_
      refine db_getN hx hb hts hown hK hS 1 j (bb_kT hj) rfl db_c5 2 (by decide) wn_75 rfl dX6_task_77 ?_
      exact hret _ _ _ _ _ _ hS (by rw [bb_task, if_neg c5, if_pos w18_0, db_nIc hj hn0]) (rfl) dX6_task_80
    by_cases w18_1 : w = 1
    · refine lv_tableIn (tgt := 81) (off := 63) hx hb dX6_task_18 (by rw [w18_1]; decide) (by rw [w18_1]; decide) (by rw [w18_1]; decide) (by decide) ?_
      refine lv_aload_n hx hb dX6_task_81 rfl (lv_at hl 0 rfl) ?_
      refine db_getN hx hb hts hown hK hS 1 j (bb_kT hj) rfl db_c5 3 (by decide) wn_77 rfl dX6_task_82 ?_
      exact hret _ _ _ _ _ _ hS (by rw [bb_task, if_neg c5, if_neg w18_0, if_pos w18_1, db_nIc hj hn0]) (rfl) dX6_task_85
    by_cases w18_2 : w = 2
    · refine lv_tableIn (tgt := 86) (off := 68) hx hb dX6_task_18 (by rw [w18_2]; decide) (by rw [w18_2]; decide) (by rw [w18_2]; decide) (by decide) ?_
      refine lv_aload_n hx hb dX6_task_86 rfl (lv_at hl 0 rfl) ?_
      refine db_getN hx hb hts hown hK hS 1 j (bb_kT hj) rfl db_c5 4 (by decide) wn_79 rfl dX6_task_87 ?_
      exact hret _ _ _ _ _ _ hS (by rw [bb_task, if_neg c5, if_neg w18_0, if_neg w18_1, if_pos w18_2, db_nIc hj hn0]) (rfl) dX6_task_90
    by_cases w18_3 : w = 3
    · refine lv_tableIn (tgt := 91) (off := 73) hx hb dX6_task_18 (by rw [w18_3]; decide) (by rw [w18_3]; decide) (by rw [w18_3]; decide) (by decide) ?_
      refine lv_aload_n hx hb dX6_task_91 rfl (lv_at hl 0 rfl) ?_
      refine db_getN hx hb hts hown hK hS 1 j (bb_kT hj) rfl db_c5 5 (by decide) wn_81 rfl dX6_task_92 ?_
      exact hret _ _ _ _ _ _ hS (by rw [bb_task, if_neg c5, if_neg w18_0, if_neg w18_1, if_neg w18_2, if_pos w18_3, db_nIc hj hn0]) (rfl) dX6_task_95
    by_cases w18_4 : w = 4
    · refine lv_tableIn (tgt := 96) (off := 78) hx hb dX6_task_18 (by rw [w18_4]; decide) (by rw [w18_4]; decide) (by rw [w18_4]; decide) (by decide) ?_
      refine lv_aload_n hx hb dX6_task_96 rfl (lv_at hl 1 rfl) ?_
      refine db_get hx hb hts hown hK hS 0 0 (bb_k 0 rfl) rfl db_c6 2 (by decide) wd_174 rfl dX6_task_97 ?_
      refine lv_iload_n hx hb dX6_task_100 rfl (lv_at hl 2 rfl) ?_
      refine db_cVN (As := [.int (nI j)]) (rest := []) (st1 := [.int (bb_sizeOf X sz (nI j))]) hC hS 4 0 (bb_k 4 rfl) rfl db_c4 (c_X4_sizeOf l Γ N L cnt X hN (nI j) sz hI hcn) (cw_X4_sizeOf (Nat.le_of_ble_eq_true rfl) (Nat.le_of_ble_eq_true rfl)) wn_409 wd_411 ws_30 rfl hl.1 rfl (Nat.le_of_ble_eq_true rfl) dX6_task_101 ⟨Nat.le_of_ble_eq_true rfl, Nat.le_of_ble_eq_true rfl⟩ rfl (fun H locs hS => ?_)
      exact hret _ _ _ _ _ _ hS (by rw [bb_task, if_neg c5, if_neg w18_0, if_neg w18_1, if_neg w18_2, if_neg w18_3, if_pos w18_4]) (rfl) dX6_task_104
    by_cases w18_5 : w = 5
    · refine lv_tableIn (tgt := 105) (off := 87) hx hb dX6_task_18 (by rw [w18_5]; decide) (by rw [w18_5]; decide) (by rw [w18_5]; decide) (by decide) ?_
      refine lv_aload_n hx hb dX6_task_105 rfl (lv_at hl 0 rfl) ?_
      refine db_getN hx hb hts hown hK hS 1 j (bb_kT hj) rfl db_c5 6 (by decide) wn_83 rfl dX6_task_106 ?_
      exact hret _ _ _ _ _ _ hS (by rw [bb_task, if_neg c5, if_neg w18_0, if_neg w18_1, if_neg w18_2, if_neg w18_3, if_neg w18_4, if_pos w18_5, db_nIc hj hn0]) (rfl) dX6_task_109
    by_cases w18_6 : w = 6
    · refine lv_tableIn (tgt := 110) (off := 92) hx hb dX6_task_18 (by rw [w18_6]; decide) (by rw [w18_6]; decide) (by rw [w18_6]; decide) (by decide) ?_
      refine lv_aload_n hx hb dX6_task_110 rfl (lv_at hl 0 rfl) ?_
      refine db_getN hx hb hts hown hK hS 1 j (bb_kT hj) rfl db_c5 7 (by decide) wn_85 rfl dX6_task_111 ?_
      exact hret _ _ _ _ _ _ hS (by rw [bb_task, if_neg c5, if_neg w18_0, if_neg w18_1, if_neg w18_2, if_neg w18_3, if_neg w18_4, if_neg w18_5, if_pos w18_6, db_nIc hj hn0]) (rfl) dX6_task_114
    by_cases w18_7 : w = 7
    · refine lv_tableIn (tgt := 115) (off := 97) hx hb dX6_task_18 (by rw [w18_7]; decide) (by rw [w18_7]; decide) (by rw [w18_7]; decide) (by decide) ?_
      refine lv_aload_n hx hb dX6_task_115 rfl (lv_at hl 0 rfl) ?_
      refine db_getN hx hb hts hown hK hS 1 j (bb_kT hj) rfl db_c5 8 (by decide) wn_87 rfl dX6_task_116 ?_
      exact hret _ _ _ _ _ _ hS (by rw [bb_task, if_neg c5, if_neg w18_0, if_neg w18_1, if_neg w18_2, if_neg w18_3, if_neg w18_4, if_neg w18_5, if_neg w18_6, if_pos w18_7, db_nIc hj hn0]) (rfl) dX6_task_119
    by_cases w18_8 : w = 8
    · refine lv_tableIn (tgt := 120) (off := 102) hx hb dX6_task_18 (by rw [w18_8]; decide) (by rw [w18_8]; decide) (by rw [w18_8]; decide) (by decide) ?_
      refine lv_aload_n hx hb dX6_task_120 rfl (lv_at hl 0 rfl) ?_
      refine db_getN hx hb hts hown hK hS 1 j (bb_kT hj) rfl db_c5 9 (by decide) wn_89 rfl dX6_task_121 ?_
      exact hret _ _ _ _ _ _ hS (by rw [bb_task, if_neg c5, if_neg w18_0, if_neg w18_1, if_neg w18_2, if_neg w18_3, if_neg w18_4, if_neg w18_5, if_neg w18_6, if_neg w18_7, if_pos w18_8, db_nIc hj hn0]) (rfl) dX6_task_124
    by_cases w18_9 : w = 9
    · refine lv_tableIn (tgt := 125) (off := 107) hx hb dX6_task_18 (by rw [w18_9]; decide) (by rw [w18_9]; decide) (by rw [w18_9]; decide) (by decide) ?_
      refine lv_aload_n hx hb dX6_task_125 rfl (lv_at hl 0 rfl) ?_
      refine db_getN hx hb hts hown hK hS 1 j (bb_kT hj) rfl db_c5 10 (by decide) wn_91 rfl dX6_task_126 ?_
      exact hret _ _ _ _ _ _ hS (by rw [bb_task, if_neg c5, if_neg w18_0, if_neg w18_1, if_neg w18_2, if_neg w18_3, if_neg w18_4, if_neg w18_5, if_neg w18_6, if_neg w18_7, if_neg w18_8, if_pos w18_9, db_nIc hj hn0]) (rfl) dX6_task_129
    by_cases w18_10 : w = 10
    · refine lv_tableIn (tgt := 130) (off := 112) hx hb dX6_task_18 (by rw [w18_10]; decide) (by rw [w18_10]; decide) (by rw [w18_10]; decide) (by decide) ?_
      refine lv_aload_n hx hb dX6_task_130 rfl (lv_at hl 0 rfl) ?_
      refine db_getN hx hb hts hown hK hS 1 j (bb_kT hj) rfl db_c5 11 (by decide) wn_93 rfl dX6_task_131 ?_
      exact hret _ _ _ _ _ _ hS (by rw [bb_task, if_neg c5, if_neg w18_0, if_neg w18_1, if_neg w18_2, if_neg w18_3, if_neg w18_4, if_neg w18_5, if_neg w18_6, if_neg w18_7, if_neg w18_8, if_neg w18_9, if_pos w18_10, db_nIc hj hn0]) (rfl) dX6_task_134
    refine lv_tableOut (tgt := 135) hx hb dX6_task_18 (db_out11 w18_0 w18_1 w18_2 w18_3 w18_4 w18_5 w18_6 w18_7 w18_8 w18_9 w18_10) (by decide) ?_
    refine lv_iconst (v := -1) hx hb dX6_task_135 (by decide) ?_
    exact hret _ _ _ _ _ _ hS (by rw [bb_task, if_neg c5, if_neg w18_0, if_neg w18_1, if_neg w18_2, if_neg w18_3, if_neg w18_4, if_neg w18_5, if_neg w18_6, if_neg w18_7, if_neg w18_8, if_neg w18_9, if_neg w18_10]) (rfl) dX6_task_136
  · refine lv_iconst (v := -1) hx hb dX6_task_8 (by decide) ?_
    exact hret _ _ _ _ _ _ hS (by rw [bb_task, if_pos c5]) (rfl) dX6_task_9

set_option maxHeartbeats 4000000 in
set_option maxRecDepth 100000 in
theorem c_X6_count (l : Launch) (Γ : db_G) (N : Nat → Nat) (L : Nat → Nat → Nat) (cnt : Nat) (X : db_X) (hN : bb_N N) (w : Int32) : db_C l Γ yX6_count cX6_count 2 (some .int) (db_rm 1 25) [.ref (L 0 0), .int w] L (bb_ok (N 0) cnt) (bb_cel Γ N L) X (some (.int (bb_count N X w))) X := by
  have hn0 : N 0 < 2 ^ 31 := by have := hN.2.1; omega
  have hn1 : N 1 < 2 ^ 31 := by have := hN.2.2.1; omega
  have hn2 : N 2 < 2 ^ 31 := by have := hN.2.2.2.1; omega
  have hn3 : N 3 < 2 ^ 31 := by have := hN.2.2.2.2; omega
  refine db_introI (by decide +kernel) (Nat.le_of_ble_eq_true rfl) ?_
  intro p e s m args below meth c A Q ls hC hS hl hret
  have hC : db_Cx p s m args meth c Γ RX6 cX6_count 2 (some .int) := hC
  obtain ⟨hx, hb, hml, hr, hlocks, hown, hts, hK⟩ := id hC
  have hl : lv_has ls 2 [(0, .ref (L 0 0)), (1, .int w)] := hl
  refine lv_iload_n hx hb dX6_count_0 rfl (lv_at hl 1 rfl) ?_
  by_cases w1_0 : w = 0
  · refine lv_tableIn (tgt := 44) (off := 43) hx hb dX6_count_1 (by rw [w1_0]; decide) (by rw [w1_0]; decide) (by rw [w1_0]; decide) (by decide) ?_
    refine lv_aload_n hx hb dX6_count_44 rfl (lv_at hl 0 rfl) ?_
    refine db_get hx hb hts hown hK hS 0 0 (bb_k 0 rfl) rfl db_c6 6 (by decide) wd_178 rfl dX6_count_45 ?_
    exact hret _ _ _ _ _ _ hS (by rw [bb_count, if_pos w1_0]) (rfl) dX6_count_48
  by_cases w1_1 : w = 1
  · refine lv_tableIn (tgt := 49) (off := 48) hx hb dX6_count_1 (by rw [w1_1]; decide) (by rw [w1_1]; decide) (by rw [w1_1]; decide) (by decide) ?_
    refine lv_aload_n hx hb dX6_count_49 rfl (lv_at hl 0 rfl) ?_
    refine db_cV (As := []) (rest := []) (st1 := [.int (bb_liveTasks N X)]) hC hS 0 0 (bb_k 0 rfl) rfl db_c6 (c_X6_liveTasks l Γ N L cnt X hN) (cw_X6_liveTasks (Nat.le_of_ble_eq_true rfl) (Nat.le_of_ble_eq_true rfl)) wd_417 wd_419 ws_31 rfl hl.1 rfl (Nat.le_of_ble_eq_true rfl) dX6_count_50 ⟨Nat.le_of_ble_eq_true rfl, Nat.le_of_ble_eq_true rfl⟩ rfl (fun H locs hS => ?_)
    exact hret _ _ _ _ _ _ hS (by rw [bb_count, if_neg w1_0, if_pos w1_1]) (rfl) dX6_count_53
  by_cases w1_2 : w = 2
  · refine lv_tableIn (tgt := 54) (off := 53) hx hb dX6_count_1 (by rw [w1_2]; decide) (by rw [w1_2]; decide) (by rw [w1_2]; decide) (by decide) ?_
    refine lv_aload_n hx hb dX6_count_54 rfl (lv_at hl 0 rfl) ?_
    refine db_cV (As := []) (rest := []) (st1 := [.int (bb_pendingJobs N X)]) hC hS 0 0 (bb_k 0 rfl) rfl db_c6 (c_X6_pendingJobs l Γ N L cnt X hN) (cw_X6_pendingJobs (Nat.le_of_ble_eq_true rfl) (Nat.le_of_ble_eq_true rfl)) wd_421 wd_423 ws_32 rfl hl.1 rfl (Nat.le_of_ble_eq_true rfl) dX6_count_55 ⟨Nat.le_of_ble_eq_true rfl, Nat.le_of_ble_eq_true rfl⟩ rfl (fun H locs hS => ?_)
    exact hret _ _ _ _ _ _ hS (by rw [bb_count, if_neg w1_0, if_neg w1_1, if_pos w1_2]) (rfl) dX6_count_58
  by_cases w1_3 : w = 3
  · refine lv_tableIn (tgt := 59) (off := 58) hx hb dX6_count_1 (by rw [w1_3]; decide) (by rw [w1_3]; decide) (by rw [w1_3]; decide) (by decide) ?_
    refine lv_aload_n hx hb dX6_count_59 rfl (lv_at hl 0 rfl) ?_
    refine db_get hx hb hts hown hK hS 0 0 (bb_k 0 rfl) rfl db_c6 2 (by decide) wd_174 rfl dX6_count_60 ?_
    refine db_getN hx hb hts hown hK hS 4 0 (bb_k 4 rfl) rfl db_c4 1 (by decide) wn_133 rfl dX6_count_63 ?_
    exact hret _ _ _ _ _ _ hS (by rw [bb_count, if_neg w1_0, if_neg w1_1, if_neg w1_2, if_pos w1_3]) (rfl) dX6_count_66
  by_cases w1_4 : w = 4
  · refine lv_tableIn (tgt := 67) (off := 66) hx hb dX6_count_1 (by rw [w1_4]; decide) (by rw [w1_4]; decide) (by rw [w1_4]; decide) (by decide) ?_
    refine lv_aload_n hx hb dX6_count_67 rfl (lv_at hl 0 rfl) ?_
    refine db_cV (As := []) (rest := []) (st1 := [.int (bb_heldLocks N X)]) hC hS 0 0 (bb_k 0 rfl) rfl db_c6 (c_X6_heldLocks l Γ N L cnt X hN) (cw_X6_heldLocks (Nat.le_of_ble_eq_true rfl) (Nat.le_of_ble_eq_true rfl)) wd_425 wd_427 ws_33 rfl hl.1 rfl (Nat.le_of_ble_eq_true rfl) dX6_count_68 ⟨Nat.le_of_ble_eq_true rfl, Nat.le_of_ble_eq_true rfl⟩ rfl (fun H locs hS => ?_)
    exact hret _ _ _ _ _ _ hS (by rw [bb_count, if_neg w1_0, if_neg w1_1, if_neg w1_2, if_neg w1_3, if_pos w1_4]) (rfl) dX6_count_71
  by_cases w1_5 : w = 5
  · refine lv_tableIn (tgt := 72) (off := 71) hx hb dX6_count_1 (by rw [w1_5]; decide) (by rw [w1_5]; decide) (by rw [w1_5]; decide) (by decide) ?_
    refine lv_aload_n hx hb dX6_count_72 rfl (lv_at hl 0 rfl) ?_
    refine db_get hx hb hts hown hK hS 0 0 (bb_k 0 rfl) rfl db_c6 7 (by decide) wd_179 rfl dX6_count_73 ?_
    exact hret _ _ _ _ _ _ hS (by rw [bb_count, if_neg w1_0, if_neg w1_1, if_neg w1_2, if_neg w1_3, if_neg w1_4, if_pos w1_5]) (rfl) dX6_count_76
  by_cases w1_6 : w = 6
  · refine lv_tableIn (tgt := 77) (off := 76) hx hb dX6_count_1 (by rw [w1_6]; decide) (by rw [w1_6]; decide) (by rw [w1_6]; decide) (by decide) ?_
    refine lv_aload_n hx hb dX6_count_77 rfl (lv_at hl 0 rfl) ?_
    refine db_get hx hb hts hown hK hS 0 0 (bb_k 0 rfl) rfl db_c6 5 (by decide) wd_177 rfl dX6_count_78 ?_
    exact hret _ _ _ _ _ _ hS (by rw [bb_count, if_neg w1_0, if_neg w1_1, if_neg w1_2, if_neg w1_3, if_neg w1_4, if_neg w1_5, if_pos w1_6]) (rfl) dX6_count_81
  refine lv_tableOut (tgt := 82) hx hb dX6_count_1 (db_out7 w1_0 w1_1 w1_2 w1_3 w1_4 w1_5 w1_6) (by decide) ?_
  refine lv_iconst (v := -1) hx hb dX6_count_82 (by decide) ?_
  exact hret _ _ _ _ _ _ hS (by rw [bb_count, if_neg w1_0, if_neg w1_1, if_neg w1_2, if_neg w1_3, if_neg w1_4, if_neg w1_5, if_neg w1_6]) (rfl) dX6_count_83

set_option maxHeartbeats 4000000 in
set_option maxRecDepth 100000 in
theorem c_X6_addTask (l : Launch) (Γ : db_G) (N : Nat → Nat) (L : Nat → Nat → Nat) (cnt : Nat) (X : db_X) (hN : bb_N N) (p1 : Int32) (w : Int32) (d : Int32) : db_C l Γ yX6_addTask cX6_addTask 6 (some .int) (db_rm 1 24) [.ref (L 0 0), .int p1, .int w, .int d] L (bb_ok (N 0) cnt) (bb_cel Γ N L) X (some (.int ((bb_addTask N X p1 w d).1))) ((bb_addTask N X p1 w d).2) := by
  have hn0 : N 0 < 2 ^ 31 := by have := hN.2.1; omega
  have hn1 : N 1 < 2 ^ 31 := by have := hN.2.2.1; omega
  have hn2 : N 2 < 2 ^ 31 := by have := hN.2.2.2.1; omega
  have hn3 : N 3 < 2 ^ 31 := by have := hN.2.2.2.2; omega
  refine db_introI (by decide +kernel) (Nat.le_of_ble_eq_true rfl) ?_
  intro p e s m args below meth c A Q ls hC hS hl hret
  have hC : db_Cx p s m args meth c Γ RX6 cX6_addTask 6 (some .int) := hC
  obtain ⟨hx, hb, hml, hr, hlocks, hown, hts, hK⟩ := id hC
  have hl : lv_has ls 6 [(0, .ref (L 0 0)), (1, .int p1), (2, .int w), (3, .int d)] := hl
  have K28 : ∀ (b : Int32) (eb : b = bb_wf X p1 w d) (H : Heap) (locs : List Loc) (hS : db_S Γ A s.heap L (bb_ok (N 0) cnt) (bb_cel Γ N L) X H locs) (ls : Array Slot) (hl : lv_has ls 6 [(0, .ref (L 0 0)), (1, .int p1), (2, .int w), (3, .int d)]), W p l e (db_rm 1 24) s m args below meth c H locs 0 0 Q (F0 m 28 ls [.int b]) := by
    intro b eb H locs hS ls hl
    refine lv_istore (lv' := [(4, .int b), (0, .ref (L 0 0)), (1, .int p1), (2, .int w), (3, .int d)]) hx hb dX6_addTask_28 hl (by decide) rfl (fun ls hl => ?_)
    refine lv_iload hx hb dX6_addTask_30 (lv_at hl 0 rfl) ?_
    refine lv_if_ne (tgt := 38) hx hb dX6_addTask_32 (by decide) (fun c32 => ?_) (fun c32 => ?_)
    · refine lv_iconst (v := 0) hx hb dX6_addTask_38 (by decide) ?_
      refine lv_istore (lv' := [(5, .int 0), (4, .int b), (0, .ref (L 0 0)), (1, .int p1), (2, .int w), (3, .int d)]) hx hb dX6_addTask_39 hl (by decide) rfl (fun ls hl => ?_)
      have K41 : ∀ (q : Nat) (j : Nat) (hq : N 0 + 1 - j ≤ q) (hj0 : j ≤ N 0) (hrem : bb_free N X = db_fst (fun j => decide (X 1 j 1 = 0)) (N 0 - j) j) (H : Heap) (locs : List Loc) (hS : db_S Γ A s.heap L (bb_ok (N 0) cnt) (bb_cel Γ N L) X H locs) (ls : Array Slot) (hl : lv_has ls 6 [(0, .ref (L 0 0)), (1, .int p1), (2, .int w), (3, .int d), (5, .int (nI j))]), W p l e (db_rm 1 24) s m args below meth c H locs 0 0 Q (F0 m 41 ls []) := by
        intro q41
        induction q41 with
        | zero =>
          intro j hq41 hj0 hrem
          exact absurd hq41 (by omega)
        | succ q41 ih41 =>
          intro j hq41 hj0 hrem H locs hS ls hl
          refine lv_iload hx hb dX6_addTask_41 (lv_at hl 4 rfl) ?_
          refine lv_aload_n hx hb dX6_addTask_43 rfl (lv_at hl 0 rfl) ?_
          refine db_get hx hb hts hown hK hS 0 0 (bb_k 0 rfl) rfl db_c6 0 (by decide) wd_172 rfl dX6_addTask_44 ?_
          refine db_alen hx hb hK hS 11 0 (bb_k 11 rfl) 2 rfl rfl dX6_addTask_47 ?_
          refine lv_icmp_ge (tgt := 90) hx hb dX6_addTask_48 (by decide) (fun c48 => ?_) (fun c48 => ?_)
          · have hj : j = N 0 := by
              rcases Nat.lt_or_ge j (N 0) with q9 | q9
              · exact absurd c48 (nI_ge q9 hn0)
              · omega
            refine lv_iconst (v := -1) hx hb dX6_addTask_90 (by decide) ?_
            exact hret _ _ _ _ _ _ hS (by rw [bb_addTask, if_neg (fun q => c32 (eb.trans q)), if_neg (by rw [hrem, hj, Nat.sub_self]; exact Nat.lt_irrefl _)]) (by rw [bb_addTask, if_neg (fun q => c32 (eb.trans q)), if_neg (by rw [hrem, hj, Nat.sub_self]; exact Nat.lt_irrefl _)]) dX6_addTask_91
          · have hj : j < N 0 := by
              rcases Nat.lt_or_ge j (N 0) with q9 | q9
              · exact q9
              · exact absurd (nI_le q9 (by omega)) c48
            refine lv_aload_n hx hb dX6_addTask_51 rfl (lv_at hl 0 rfl) ?_
            refine db_get hx hb hts hown hK hS 0 0 (bb_k 0 rfl) rfl db_c6 0 (by decide) wd_172 rfl dX6_addTask_52 ?_
            refine lv_iload hx hb dX6_addTask_55 (lv_at hl 4 rfl) ?_
            refine db_ald hx hb hK hS 11 0 (bb_k 11 rfl) 2 rfl rfl j rfl hj hn0 rfl dX6_addTask_57 ?_
            refine db_getN hx hb hts hown hK hS 1 j (bb_kT hj) rfl db_c5 1 (by decide) wn_73 rfl dX6_addTask_58 ?_
            refine lv_if_ne (tgt := 84) hx hb dX6_addTask_61 (by decide) (fun c61 => ?_) (fun c61 => ?_)
            · refine lv_iinc (v := (nI (j + 1))) (lv' := [(5, .int (nI (j + 1))), (0, .ref (L 0 0)), (1, .int p1), (2, .int w), (3, .int d)]) hx hb dX6_addTask_84 hl (k := 4) rfl (nI_1 _) (by decide) rfl (fun ls hl => ?_)
              refine lv_goto (tgt := 41) hx hb dX6_addTask_87 (by decide) ?_
              exact ih41 (j + 1) (by omega) hj (by rw [hrem, show N 0 - j = (N 0 - (j + 1)) + 1 by omega, db_fst, if_neg (by simpa using c61)]) _ _ hS _ (lv_sub hl [1, 2, 3, 4, 0] rfl)
            · have hfr : bb_free N X = j := by rw [hrem, show N 0 - j = (N 0 - (j + 1)) + 1 by omega, db_fst, if_pos (by simpa using c61)]
              refine lv_aload_n hx hb dX6_addTask_64 rfl (lv_at hl 0 rfl) ?_
              refine db_get hx hb hts hown hK hS 0 0 (bb_k 0 rfl) rfl db_c6 0 (by decide) wd_172 rfl dX6_addTask_65 ?_
              refine lv_iload hx hb dX6_addTask_68 (lv_at hl 4 rfl) ?_
              refine db_ald hx hb hK hS 11 0 (bb_k 11 rfl) 2 rfl rfl j rfl hj hn0 rfl dX6_addTask_70 ?_
              refine lv_iload_n hx hb dX6_addTask_71 rfl (lv_at hl 1 rfl) ?_
              refine lv_iload_n hx hb dX6_addTask_72 rfl (lv_at hl 2 rfl) ?_
              refine lv_iload_n hx hb dX6_addTask_73 rfl (lv_at hl 3 rfl) ?_
              refine lv_aload_n hx hb dX6_addTask_74 rfl (lv_at hl 0 rfl) ?_
              refine db_get hx hb hts hown hK hS 0 0 (bb_k 0 rfl) rfl db_c6 6 (by decide) wd_178 rfl dX6_addTask_75 ?_
              refine db_cVN (As := [.int p1, .int w, .int d, .int (X 0 0 6)]) (rest := []) (st1 := []) hC hS 1 j (bb_kT hj) rfl db_c5 (c_X5_enter l Γ N L cnt X hN p1 w d (X 0 0 6) j hj) (cw_X5_enter (Nat.le_of_ble_eq_true rfl) (Nat.le_of_ble_eq_true rfl)) wn_201 wd_203 ws_0 rfl hl.1 rfl (Nat.le_of_ble_eq_true rfl) dX6_addTask_78 ⟨Nat.le_of_ble_eq_true rfl, Nat.le_of_ble_eq_true rfl⟩ rfl (fun H locs hS => ?_)
              obtain ⟨X1, eX1⟩ : ∃ z, z = bb_enter X j p1 w d (X 0 0 6) := ⟨_, rfl⟩
              rw [← eX1] at hS
              refine lv_iload hx hb dX6_addTask_81 (lv_at hl 4 rfl) ?_
              exact hret _ _ _ _ _ _ hS (by rw [bb_addTask, if_neg (fun q => c32 (eb.trans q)), if_pos (by rw [hfr]; exact hj), hfr]) (by rw [bb_addTask, if_neg (fun q => c32 (eb.trans q)), if_pos (by rw [hfr]; exact hj), hfr, eX1]) dX6_addTask_83
      exact K41 _ 0 (Nat.le_refl _) (Nat.zero_le _) rfl _ _ hS _ (lv_sub hl [2, 3, 4, 5, 0] rfl)
    · refine lv_bipush (v := -2) hx hb dX6_addTask_35 (by decide) ?_
      exact hret _ _ _ _ _ _ hS (by rw [bb_addTask, if_pos (eb.symm.trans c32)]) (by rw [bb_addTask, if_pos (eb.symm.trans c32)]) dX6_addTask_37
  refine lv_iconst (v := 0) hx hb dX6_addTask_0 (by decide) ?_
  refine lv_iload_n hx hb dX6_addTask_1 rfl (lv_at hl 2 rfl) ?_
  refine lv_icmp_ge (tgt := 27) hx hb dX6_addTask_2 (by decide) (fun c2 => ?_) (fun c2 => ?_)
  · refine lv_iconst (v := 0) hx hb dX6_addTask_27 (by decide) ?_
    exact K28 0 (by simp [bb_wf, c2]) _ _ hS _ (lv_sub hl [0, 1, 2, 3] rfl)
  · refine lv_iload_n hx hb dX6_addTask_5 rfl (lv_at hl 2 rfl) ?_
    refine lv_iload_n hx hb dX6_addTask_6 rfl (lv_at hl 3 rfl) ?_
    refine lv_icmp_gt (tgt := 27) hx hb dX6_addTask_7 (by decide) (fun c7 => ?_) (fun c7 => ?_)
    · refine lv_iconst (v := 0) hx hb dX6_addTask_27 (by decide) ?_
      exact K28 0 (by simp [bb_wf, c2, c7]) _ _ hS _ (lv_sub hl [0, 1, 2, 3] rfl)
    · refine lv_iload_n hx hb dX6_addTask_10 rfl (lv_at hl 3 rfl) ?_
      refine lv_iload_n hx hb dX6_addTask_11 rfl (lv_at hl 1 rfl) ?_
      refine lv_icmp_gt (tgt := 27) hx hb dX6_addTask_12 (by decide) (fun c12 => ?_) (fun c12 => ?_)
      · refine lv_iconst (v := 0) hx hb dX6_addTask_27 (by decide) ?_
        exact K28 0 (by simp [bb_wf, c2, c7, c12]) _ _ hS _ (lv_sub hl [0, 1, 2, 3] rfl)
      · refine lv_iload_n hx hb dX6_addTask_15 rfl (lv_at hl 1 rfl) ?_
        refine lv_aload_n hx hb dX6_addTask_16 rfl (lv_at hl 0 rfl) ?_
        refine db_get hx hb hts hown hK hS 0 0 (bb_k 0 rfl) rfl db_c6 5 (by decide) wd_177 rfl dX6_addTask_17 ?_
        refine lv_icmp_gt (tgt := 27) hx hb dX6_addTask_20 (by decide) (fun c20 => ?_) (fun c20 => ?_)
        · refine lv_iconst (v := 0) hx hb dX6_addTask_27 (by decide) ?_
          exact K28 0 (by simp [bb_wf, c2, c7, c12, c20]) _ _ hS _ (lv_sub hl [0, 1, 2, 3] rfl)
        · refine lv_iconst (v := 1) hx hb dX6_addTask_23 (by decide) ?_
          refine lv_goto (tgt := 28) hx hb dX6_addTask_24 (by decide) ?_
          exact K28 1 (by simp [bb_wf, c2, c7, c12, c20]) _ _ hS _ (lv_sub hl [0, 1, 2, 3] rfl)
end
section
def bb_cov (X : db_X) (a b : Nat) : Int32 := if X 12 b 1 < X 12 a 1 then 0 else if X 12 a 4 < X 12 b 4 then 0 else 1
def bb_ov (X : db_X) (a b : Nat) : Int32 := if ¬ X 12 a 0 = X 12 b 0 then 0 else if X 12 b 4 ≤ X 12 a 1 then 0 else if X 12 a 4 ≤ X 12 b 1 then 0 else 1
def bb_nes (X : db_X) (a b : Nat) : Int32 := if ¬ bb_cov X a b = 0 then 1 else if bb_cov X b a = 0 then 0 else 1
def bb_cl (X : db_X) (a b : Nat) : Int32 := if bb_ov X a b = 0 then 0 else if bb_nes X a b = 0 then 1 else if ¬ X 12 a 2 = X 12 b 2 then 0 else 1
def bb_gb (X : db_X) (a b : Nat) : Int32 := if ¬ X 12 a 1 = X 12 b 1 then (if X 12 b 1 ≤ X 12 a 1 then 0 else 1) else (if X 12 a 3 ≤ X 12 b 3 then 0 else 1)
def bb_clF (X : db_X) (b : Nat) : Nat → Nat → Int32
  | 0, _ => 0
  | q + 1, u => if bb_cl X (X 5 0 u).toNatClampNeg b = 0 then bb_clF X b q (u + 1) else 1
theorem bb_clF01 {X : db_X} {b : Nat} : ∀ (q u : Nat), bb_clF X b q u = 0 ∨ bb_clF X b q u = 1
  | 0, _ => Or.inl rfl
  | q + 1, u => by
    unfold bb_clF
    split
    · exact bb_clF01 q (u + 1)
    · exact Or.inr rfl
def bb_insF (b : Nat) : Nat → db_X → Nat × db_X
  | 0, X => (0, X)
  | v + 1, X => if bb_gb X b (X 5 0 v).toNatClampNeg = 0 then (v + 1, X) else bb_insF b v (db_up X 5 0 (v + 1) (X 5 0 v))
def bb_sz1 (X : db_X) : db_X := db_up X 4 0 1 (X 4 0 1 + 1)
def bb_ins2 (b : Nat) (r : Nat × db_X) : db_X := bb_sz1 (db_up r.2 5 0 r.1 (nI b))
def bb_ins (N : Nat → Nat) (X : db_X) (sz b : Nat) : Int32 × db_X := if N 2 ≤ sz then (0, X) else if bb_clF X b sz 0 = 0 then (1, bb_ins2 b (bb_insF b sz X)) else (0, X)
def bb_rmF (t : Int32) : Nat → Nat → Nat → db_X → Nat × db_X
  | 0, _, v, X => (v, X)
  | q + 1, u, v, X => if bb_sec X u 0 = t then bb_rmF t q (u + 1) v X else bb_rmF t q (u + 1) (v + 1) (db_up X 5 0 v (X 5 0 u))
def bb_rmA (X : db_X) (sz : Nat) (t : Int32) : db_X := db_up (bb_rmF t sz 0 0 X).2 4 0 1 (nI (bb_rmF t sz 0 0 X).1)
def bb_remove (N : Nat → Nat) (X : db_X) (sz : Nat) (t : Int32) : Int32 × db_X := if bb_isLive N X t = 0 then (0, X) else (1, bb_rmA (bb_drop N (db_up X 1 t.toNatClampNeg 1 0) t.toNatClampNeg) sz t)
theorem bb_I.up5 {N : Nat → Nat} {cnt sz : Nat} {X : db_X} (h : bb_I N cnt sz X) {j : Nat} {v : Int32} (hv : db_in v cnt) (hl : db_in (X 12 v.toNatClampNeg 2) (N 1)) : bb_I N cnt sz (db_up X 5 0 j v) := by
  have e : ∀ k' i' f', ¬ k' = 5 → db_up X 5 0 j v k' i' f' = X k' i' f' := by
    intro k' i' f' q
    simp [db_up, q]
  refine ⟨fun i' hi => by rw [e 2 i' 4 (by simp)]; exact h.1 i' hi, fun k' hk => by rw [e 3 0 k' (by simp)]; exact h.2.1 k' hk, by rw [e 4 0 1 (by simp)]; exact h.2.2.1, h.2.2.2.1, fun p hp => ?_⟩
  by_cases q : p = j
  · subst q
    have e5 : db_up X 5 0 p v 5 0 p = v := by simp [db_up]
    unfold bb_sec
    rw [e5, e 12 _ 2 (by simp)]
    exact ⟨hv, hl⟩
  · have e5 : db_up X 5 0 j v 5 0 p = X 5 0 p := by simp [db_up, q]
    unfold bb_sec
    rw [e5, e 12 _ 2 (by simp)]
    exact h.2.2.2.2 p hp
theorem bb_I.rmF {N : Nat → Nat} {cnt sz : Nat} {t : Int32} : ∀ (q u v : Nat) (X : db_X), u + q ≤ sz → bb_I N cnt sz X → bb_I N cnt sz (bb_rmF t q u v X).2
  | 0, _, _, _, _, h => h
  | q + 1, u, v, X, hu, h => by
    unfold bb_rmF
    split
    · exact bb_I.rmF q (u + 1) v X (by omega) h
    · exact bb_I.rmF q (u + 1) (v + 1) _ (by omega) (h.up5 (h.2.2.2.2 u (by omega)).1 (h.2.2.2.2 u (by omega)).2)
section DBA
variable {p : Program} {l : Launch} {e : Env} {R : Room} {s : State} {m : MethodId} {args : Array Value} {below : List Frame} {meth : Method} {c : Code} {H : Heap} {locs : List Loc} {cells slots : Nat} {Q : State → Prop}
variable {cc : ByteArray} {pc : Nat} {ls : Array Slot} {rest : List Value} {Γ : db_G} {A : Nat → Prop} {H0 : Heap} {L : Nat → Nat → Nat} {N : Nat → Nat} {cnt : Nat} {X : db_X}
theorem db_ast5 (hexec : p.tables.exec = Jvm.exec) (hb : c.code = cc) (hK : db_K Γ s) (hS : db_S Γ A H0 L (bb_ok (N 0) cnt) (bb_cel Γ N L) X H locs) (j : Nat) {x : Int32} (hi : x = nI j) (hj : j < N 2) (hn : N 2 < 2 ^ 31) (code : Int32) (hcode : db_in code cnt) (hcn : cnt < 2 ^ 31) {a : Nat} (ha : code.toNatClampNeg = a) (hdg : decode cc pc = .ok (.aastore, 1))
    (kk : ∀ (H1 : Heap) (locs1 : List Loc), db_S Γ A H0 L (bb_ok (N 0) cnt) (bb_cel Γ N L) (db_up X 5 0 j code) H1 locs1 → W p l e R s m args below meth c H1 locs1 cells slots Q (F0 m (pc + 1) ls rest)) : W p l e R s m args below meth c H locs cells slots Q (F0 m pc ls (.ref (L 12 a) :: .int x :: .ref (L 5 0) :: rest)) := by
  obtain ⟨h, hR, hW⟩ := hS
  subst ha
  refine db_astR hexec hb hK hW (r := (RX3, TX3, 5)) (ci := 3) 3 rfl rfl (hR.1 5 0 (bb_k 5 rfl)) (hR.1 12 code.toNatClampNeg (bb_kS (hcode.lt hcn))) hi hj hn hdg fun H1 locs1 hW1 => ?_
  refine kk H1 locs1 ⟨_, hR.set (k := 5) (i := 0) (f := j) (v := code) (bb_k 5 rfl) ?_, hW1⟩
  simp only [bb_cel]
  congr 7
  funext q
  by_cases e1 : q = j
  · subst e1
    simp only [db_uf, va_up, if_pos]
    exact bb_rowf hcode hcn
  · simp [db_uf, va_up, e1]
end DBA
end
section
set_option maxHeartbeats 4000000 in
set_option maxRecDepth 100000 in
theorem c_X3_covers (l : Launch) (Γ : db_G) (N : Nat → Nat) (L : Nat → Nat → Nat) (cnt : Nat) (X : db_X) (hN : bb_N N) (a b : Nat) (ha : a < cnt) (hb1 : b < cnt) : db_C l Γ yX3_covers cX3_covers 2 (some .boolean) (db_rm 0 0) [.ref (L 12 a), .ref (L 12 b)] L (bb_ok (N 0) cnt) (bb_cel Γ N L) X (some (.int (bb_cov X a b))) X := by
  have hn0 : N 0 < 2 ^ 31 := by have := hN.2.1; omega
  have hn1 : N 1 < 2 ^ 31 := by have := hN.2.2.1; omega
  have hn2 : N 2 < 2 ^ 31 := by have := hN.2.2.2.1; omega
  have hn3 : N 3 < 2 ^ 31 := by have := hN.2.2.2.2; omega
  refine db_introZ (by decide +kernel) (Nat.le_of_ble_eq_true rfl) (db_01 (Or.inl rfl) (db_01 (Or.inl rfl) (Or.inr rfl))) ?_
  intro p e s m args below meth c A Q ls hC hS hl hret
  have hC : db_Cx p s m args meth c Γ RX3 cX3_covers 2 (some .boolean) := hC
  obtain ⟨hx, hb, hml, hr, hlocks, hown, hts, hK⟩ := id hC
  have hl : lv_has ls 2 [(0, .ref (L 12 a)), (1, .ref (L 12 b))] := hl
  refine lv_aload_n hx hb dX3_covers_0 rfl (lv_at hl 0 rfl) ?_
  refine db_get hx hb hts hown hK hS 12 a (bb_kS ha) rfl db_c3 1 (by decide) wd_226 rfl dX3_covers_1 ?_
  refine lv_aload_n hx hb dX3_covers_4 rfl (lv_at hl 1 rfl) ?_
  refine db_get hx hb hts hown hK hS 12 b (bb_kS hb1) rfl db_c3 1 (by decide) wd_226 rfl dX3_covers_5 ?_
  refine lv_icmp_gt (tgt := 26) hx hb dX3_covers_8 (by decide) (fun c8 => ?_) (fun c8 => ?_)
  · refine lv_iconst (v := 0) hx hb dX3_covers_26 (by decide) ?_
    exact hret _ _ _ _ _ _ hS (by simp [bb_cov, c8]) (rfl) dX3_covers_27
  · refine lv_aload_n hx hb dX3_covers_11 rfl (lv_at hl 1 rfl) ?_
    refine db_get hx hb hts hown hK hS 12 b (bb_kS hb1) rfl db_c3 4 (by decide) wd_231 rfl dX3_covers_12 ?_
    refine lv_aload_n hx hb dX3_covers_15 rfl (lv_at hl 0 rfl) ?_
    refine db_get hx hb hts hown hK hS 12 a (bb_kS ha) rfl db_c3 4 (by decide) wd_231 rfl dX3_covers_16 ?_
    refine lv_icmp_gt (tgt := 26) hx hb dX3_covers_19 (by decide) (fun c19 => ?_) (fun c19 => ?_)
    · refine lv_iconst (v := 0) hx hb dX3_covers_26 (by decide) ?_
      exact hret _ _ _ _ _ _ hS (by simp [bb_cov, c8, c19]) (rfl) dX3_covers_27
    · refine lv_iconst (v := 1) hx hb dX3_covers_22 (by decide) ?_
      refine lv_goto (tgt := 27) hx hb dX3_covers_23 (by decide) ?_
      exact hret _ _ _ _ _ _ hS (by simp [bb_cov, c8, c19]) (rfl) dX3_covers_27

set_option maxHeartbeats 4000000 in
set_option maxRecDepth 100000 in
theorem c_X3_clashesWith (l : Launch) (Γ : db_G) (N : Nat → Nat) (L : Nat → Nat → Nat) (cnt : Nat) (X : db_X) (hN : bb_N N) (a b : Nat) (ha : a < cnt) (hb1 : b < cnt) : db_C l Γ yX3_clashesWith cX3_clashesWith 4 (some .boolean) (db_rm 1 21) [.ref (L 12 a), .ref (L 12 b)] L (bb_ok (N 0) cnt) (bb_cel Γ N L) X (some (.int (bb_cl X a b))) X := by
  have hn0 : N 0 < 2 ^ 31 := by have := hN.2.1; omega
  have hn1 : N 1 < 2 ^ 31 := by have := hN.2.2.1; omega
  have hn2 : N 2 < 2 ^ 31 := by have := hN.2.2.2.1; omega
  have hn3 : N 3 < 2 ^ 31 := by have := hN.2.2.2.2; omega
  refine db_introZ (by decide +kernel) (Nat.le_of_ble_eq_true rfl) (db_01 (Or.inl rfl) (db_01 (Or.inr rfl) (db_01 (Or.inl rfl) (Or.inr rfl)))) ?_
  intro p e s m args below meth c A Q ls hC hS hl hret
  have hC : db_Cx p s m args meth c Γ RX3 cX3_clashesWith 4 (some .boolean) := hC
  obtain ⟨hx, hb, hml, hr, hlocks, hown, hts, hK⟩ := id hC
  have hl : lv_has ls 4 [(0, .ref (L 12 a)), (1, .ref (L 12 b))] := hl
  have K38 : ∀ (o : Int32) (eo : o = bb_ov X a b) (H : Heap) (locs : List Loc) (hS : db_S Γ A s.heap L (bb_ok (N 0) cnt) (bb_cel Γ N L) X H locs) (ls : Array Slot) (hl : lv_has ls 4 [(0, .ref (L 12 a)), (1, .ref (L 12 b))]), W p l e (db_rm 1 21) s m args below meth c H locs 0 0 Q (F0 m 38 ls [.int o]) := by
    intro o eo H locs hS ls hl
    refine lv_istore_n (lv' := [(2, .int o), (0, .ref (L 12 a)), (1, .ref (L 12 b))]) hx hb dX3_clashesWith_38 rfl hl (by decide) rfl (fun ls hl => ?_)
    have K60 : ∀ (n : Int32) (en : n = bb_nes X a b) (H : Heap) (locs : List Loc) (hS : db_S Γ A s.heap L (bb_ok (N 0) cnt) (bb_cel Γ N L) X H locs) (ls : Array Slot) (hl : lv_has ls 4 [(0, .ref (L 12 a)), (1, .ref (L 12 b)), (2, .int o)]), W p l e (db_rm 1 21) s m args below meth c H locs 0 0 Q (F0 m 60 ls [.int n]) := by
      intro n en H locs hS ls hl
      refine lv_istore_n (lv' := [(3, .int n), (0, .ref (L 12 a)), (1, .ref (L 12 b)), (2, .int o)]) hx hb dX3_clashesWith_60 rfl hl (by decide) rfl (fun ls hl => ?_)
      refine lv_iload_n hx hb dX3_clashesWith_61 rfl (lv_at hl 3 rfl) ?_
      refine lv_if_eq (tgt := 84) hx hb dX3_clashesWith_62 (by decide) (fun c62 => ?_) (fun c62 => ?_)
      · refine lv_iconst (v := 0) hx hb dX3_clashesWith_84 (by decide) ?_
        exact hret _ _ _ _ _ _ hS (by rw [bb_cl, if_pos (eo.symm.trans c62)]) (rfl) dX3_clashesWith_85
      · refine lv_iload_n hx hb dX3_clashesWith_65 rfl (lv_at hl 0 rfl) ?_
        refine lv_if_eq (tgt := 80) hx hb dX3_clashesWith_66 (by decide) (fun c66 => ?_) (fun c66 => ?_)
        · refine lv_iconst (v := 1) hx hb dX3_clashesWith_80 (by decide) ?_
          refine lv_goto (tgt := 85) hx hb dX3_clashesWith_81 (by decide) ?_
          exact hret _ _ _ _ _ _ hS (by rw [bb_cl, if_neg (fun q => c62 (eo.trans q)), if_pos (en.symm.trans c66)]) (rfl) dX3_clashesWith_85
        · refine lv_aload_n hx hb dX3_clashesWith_69 rfl (lv_at hl 1 rfl) ?_
          refine db_get hx hb hts hown hK hS 12 a (bb_kS ha) rfl db_c3 2 (by decide) wd_228 rfl dX3_clashesWith_70 ?_
          refine lv_aload_n hx hb dX3_clashesWith_73 rfl (lv_at hl 2 rfl) ?_
          refine db_get hx hb hts hown hK hS 12 b (bb_kS hb1) rfl db_c3 2 (by decide) wd_228 rfl dX3_clashesWith_74 ?_
          refine lv_icmp_ne (tgt := 84) hx hb dX3_clashesWith_77 (by decide) (fun c77 => ?_) (fun c77 => ?_)
          · refine lv_iconst (v := 0) hx hb dX3_clashesWith_84 (by decide) ?_
            exact hret _ _ _ _ _ _ hS (by rw [bb_cl, if_neg (fun q => c62 (eo.trans q)), if_neg (fun q => c66 (en.trans q)), if_pos c77]) (rfl) dX3_clashesWith_85
          · refine lv_iconst (v := 1) hx hb dX3_clashesWith_80 (by decide) ?_
            refine lv_goto (tgt := 85) hx hb dX3_clashesWith_81 (by decide) ?_
            exact hret _ _ _ _ _ _ hS (by rw [bb_cl, if_neg (fun q => c62 (eo.trans q)), if_neg (fun q => c66 (en.trans q)), if_neg (fun q => q c77)]) (rfl) dX3_clashesWith_85
    refine lv_aload_n hx hb dX3_clashesWith_39 rfl (lv_at hl 1 rfl) ?_
    refine lv_aload_n hx hb dX3_clashesWith_40 rfl (lv_at hl 2 rfl) ?_
    refine db_cV (As := [.ref (L 12 b)]) (rest := []) (st1 := [.int (bb_cov X a b)]) hC hS 12 a (bb_kS ha) rfl db_c3 (c_X3_covers l Γ N L cnt X hN a b ha hb1) (cw_X3_covers (Nat.le_of_ble_eq_true rfl) (Nat.le_of_ble_eq_true rfl)) wd_256 wd_258 ws_6 rfl hl.1 rfl (Nat.le_of_ble_eq_true rfl) dX3_clashesWith_41 ⟨Nat.le_of_ble_eq_true rfl, Nat.le_of_ble_eq_true rfl⟩ rfl (fun H locs hS => ?_)
    refine lv_if_ne (tgt := 55) hx hb dX3_clashesWith_44 (by decide) (fun c44 => ?_) (fun c44 => ?_)
    · refine lv_iconst (v := 1) hx hb dX3_clashesWith_55 (by decide) ?_
      refine lv_goto (tgt := 60) hx hb dX3_clashesWith_56 (by decide) ?_
      exact K60 1 (by simp [bb_nes, c44]) _ _ hS _ (lv_sub hl [1, 2, 0] rfl)
    · refine lv_aload_n hx hb dX3_clashesWith_47 rfl (lv_at hl 2 rfl) ?_
      refine lv_aload_n hx hb dX3_clashesWith_48 rfl (lv_at hl 1 rfl) ?_
      refine db_cV (As := [.ref (L 12 a)]) (rest := []) (st1 := [.int (bb_cov X b a)]) hC hS 12 b (bb_kS hb1) rfl db_c3 (c_X3_covers l Γ N L cnt X hN b a hb1 ha) (cw_X3_covers (Nat.le_of_ble_eq_true rfl) (Nat.le_of_ble_eq_true rfl)) wd_256 wd_258 ws_6 rfl hl.1 rfl (Nat.le_of_ble_eq_true rfl) dX3_clashesWith_49 ⟨Nat.le_of_ble_eq_true rfl, Nat.le_of_ble_eq_true rfl⟩ rfl (fun H locs hS => ?_)
      refine lv_if_eq (tgt := 59) hx hb dX3_clashesWith_52 (by decide) (fun c52 => ?_) (fun c52 => ?_)
      · refine lv_iconst (v := 0) hx hb dX3_clashesWith_59 (by decide) ?_
        exact K60 0 (by simp [bb_nes, c44, c52]) _ _ hS _ (lv_sub hl [1, 2, 0] rfl)
      · refine lv_iconst (v := 1) hx hb dX3_clashesWith_55 (by decide) ?_
        refine lv_goto (tgt := 60) hx hb dX3_clashesWith_56 (by decide) ?_
        exact K60 1 (by simp [bb_nes, c44, c52]) _ _ hS _ (lv_sub hl [1, 2, 0] rfl)
  refine lv_aload_n hx hb dX3_clashesWith_0 rfl (lv_at hl 0 rfl) ?_
  refine db_get hx hb hts hown hK hS 12 a (bb_kS ha) rfl db_c3 0 (by decide) wd_223 rfl dX3_clashesWith_1 ?_
  refine lv_aload_n hx hb dX3_clashesWith_4 rfl (lv_at hl 1 rfl) ?_
  refine db_get hx hb hts hown hK hS 12 b (bb_kS hb1) rfl db_c3 0 (by decide) wd_223 rfl dX3_clashesWith_5 ?_
  refine lv_icmp_ne (tgt := 37) hx hb dX3_clashesWith_8 (by decide) (fun c8 => ?_) (fun c8 => ?_)
  · refine lv_iconst (v := 0) hx hb dX3_clashesWith_37 (by decide) ?_
    exact K38 0 (by simp [bb_ov, c8]) _ _ hS _ (lv_sub hl [0, 1] rfl)
  · refine lv_aload_n hx hb dX3_clashesWith_11 rfl (lv_at hl 0 rfl) ?_
    refine db_get hx hb hts hown hK hS 12 a (bb_kS ha) rfl db_c3 1 (by decide) wd_226 rfl dX3_clashesWith_12 ?_
    refine lv_aload_n hx hb dX3_clashesWith_15 rfl (lv_at hl 1 rfl) ?_
    refine db_get hx hb hts hown hK hS 12 b (bb_kS hb1) rfl db_c3 4 (by decide) wd_231 rfl dX3_clashesWith_16 ?_
    refine lv_icmp_ge (tgt := 37) hx hb dX3_clashesWith_19 (by decide) (fun c19 => ?_) (fun c19 => ?_)
    · refine lv_iconst (v := 0) hx hb dX3_clashesWith_37 (by decide) ?_
      exact K38 0 (by simp [bb_ov, c8, c19]) _ _ hS _ (lv_sub hl [0, 1] rfl)
    · refine lv_aload_n hx hb dX3_clashesWith_22 rfl (lv_at hl 1 rfl) ?_
      refine db_get hx hb hts hown hK hS 12 b (bb_kS hb1) rfl db_c3 1 (by decide) wd_226 rfl dX3_clashesWith_23 ?_
      refine lv_aload_n hx hb dX3_clashesWith_26 rfl (lv_at hl 0 rfl) ?_
      refine db_get hx hb hts hown hK hS 12 a (bb_kS ha) rfl db_c3 4 (by decide) wd_231 rfl dX3_clashesWith_27 ?_
      refine lv_icmp_ge (tgt := 37) hx hb dX3_clashesWith_30 (by decide) (fun c30 => ?_) (fun c30 => ?_)
      · refine lv_iconst (v := 0) hx hb dX3_clashesWith_37 (by decide) ?_
        exact K38 0 (by simp [bb_ov, c8, c19, c30]) _ _ hS _ (lv_sub hl [0, 1] rfl)
      · refine lv_iconst (v := 1) hx hb dX3_clashesWith_33 (by decide) ?_
        refine lv_goto (tgt := 38) hx hb dX3_clashesWith_34 (by decide) ?_
        exact K38 1 (by simp [bb_ov, c8, c19, c30]) _ _ hS _ (lv_sub hl [0, 1] rfl)

set_option maxHeartbeats 4000000 in
set_option maxRecDepth 100000 in
theorem c_X3_goesBefore (l : Launch) (Γ : db_G) (N : Nat → Nat) (L : Nat → Nat → Nat) (cnt : Nat) (X : db_X) (hN : bb_N N) (a b : Nat) (ha : a < cnt) (hb1 : b < cnt) : db_C l Γ yX3_goesBefore cX3_goesBefore 2 (some .boolean) (db_rm 0 0) [.ref (L 12 a), .ref (L 12 b)] L (bb_ok (N 0) cnt) (bb_cel Γ N L) X (some (.int (bb_gb X a b))) X := by
  have hn0 : N 0 < 2 ^ 31 := by have := hN.2.1; omega
  have hn1 : N 1 < 2 ^ 31 := by have := hN.2.2.1; omega
  have hn2 : N 2 < 2 ^ 31 := by have := hN.2.2.2.1; omega
  have hn3 : N 3 < 2 ^ 31 := by have := hN.2.2.2.2; omega
  refine db_introZ (by decide +kernel) (Nat.le_of_ble_eq_true rfl) (db_01 (db_01 (Or.inl rfl) (Or.inr rfl)) (db_01 (Or.inl rfl) (Or.inr rfl))) ?_
  intro p e s m args below meth c A Q ls hC hS hl hret
  have hC : db_Cx p s m args meth c Γ RX3 cX3_goesBefore 2 (some .boolean) := hC
  obtain ⟨hx, hb, hml, hr, hlocks, hown, hts, hK⟩ := id hC
  have hl : lv_has ls 2 [(0, .ref (L 12 a)), (1, .ref (L 12 b))] := hl
  refine lv_aload_n hx hb dX3_goesBefore_0 rfl (lv_at hl 0 rfl) ?_
  refine db_get hx hb hts hown hK hS 12 a (bb_kS ha) rfl db_c3 1 (by decide) wd_226 rfl dX3_goesBefore_1 ?_
  refine lv_aload_n hx hb dX3_goesBefore_4 rfl (lv_at hl 1 rfl) ?_
  refine db_get hx hb hts hown hK hS 12 b (bb_kS hb1) rfl db_c3 1 (by decide) wd_226 rfl dX3_goesBefore_5 ?_
  refine lv_icmp_ne (tgt := 30) hx hb dX3_goesBefore_8 (by decide) (fun c8 => ?_) (fun c8 => ?_)
  · refine lv_aload_n hx hb dX3_goesBefore_30 rfl (lv_at hl 0 rfl) ?_
    refine db_get hx hb hts hown hK hS 12 a (bb_kS ha) rfl db_c3 1 (by decide) wd_226 rfl dX3_goesBefore_31 ?_
    refine lv_aload_n hx hb dX3_goesBefore_34 rfl (lv_at hl 1 rfl) ?_
    refine db_get hx hb hts hown hK hS 12 b (bb_kS hb1) rfl db_c3 1 (by decide) wd_226 rfl dX3_goesBefore_35 ?_
    refine lv_icmp_ge (tgt := 45) hx hb dX3_goesBefore_38 (by decide) (fun c38 => ?_) (fun c38 => ?_)
    · refine lv_iconst (v := 0) hx hb dX3_goesBefore_45 (by decide) ?_
      exact hret _ _ _ _ _ _ hS (by simp [bb_gb, c8, c38]) (rfl) dX3_goesBefore_46
    · refine lv_iconst (v := 1) hx hb dX3_goesBefore_41 (by decide) ?_
      refine lv_goto (tgt := 46) hx hb dX3_goesBefore_42 (by decide) ?_
      exact hret _ _ _ _ _ _ hS (by simp [bb_gb, c8, c38]) (rfl) dX3_goesBefore_46
  · refine lv_aload_n hx hb dX3_goesBefore_11 rfl (lv_at hl 0 rfl) ?_
    refine db_get hx hb hts hown hK hS 12 a (bb_kS ha) rfl db_c3 3 (by decide) wd_230 rfl dX3_goesBefore_12 ?_
    refine lv_aload_n hx hb dX3_goesBefore_15 rfl (lv_at hl 1 rfl) ?_
    refine db_get hx hb hts hown hK hS 12 b (bb_kS hb1) rfl db_c3 3 (by decide) wd_230 rfl dX3_goesBefore_16 ?_
    refine lv_icmp_le (tgt := 26) hx hb dX3_goesBefore_19 (by decide) (fun c19 => ?_) (fun c19 => ?_)
    · refine lv_iconst (v := 0) hx hb dX3_goesBefore_26 (by decide) ?_
      refine lv_goto (tgt := 46) hx hb dX3_goesBefore_27 (by decide) ?_
      exact hret _ _ _ _ _ _ hS (by simp [bb_gb, c8, c19]) (rfl) dX3_goesBefore_46
    · refine lv_iconst (v := 1) hx hb dX3_goesBefore_22 (by decide) ?_
      refine lv_goto (tgt := 46) hx hb dX3_goesBefore_23 (by decide) ?_
      exact hret _ _ _ _ _ _ hS (by simp [bb_gb, c8, c19]) (rfl) dX3_goesBefore_46

set_option maxHeartbeats 4000000 in
set_option maxRecDepth 100000 in
theorem c_X4_clashes (l : Launch) (Γ : db_G) (N : Nat → Nat) (L : Nat → Nat → Nat) (cnt : Nat) (X : db_X) (hN : bb_N N) (sz b : Nat) (hI : bb_I N cnt sz X) (hcn : cnt < 2 ^ 31) (hb1 : b < cnt) : db_C l Γ yX4_clashes cX4_clashes 3 (some .boolean) (db_rm 2 44) [.ref (L 4 0), .ref (L 12 b)] L (bb_ok (N 0) cnt) (bb_cel Γ N L) X (some (.int (bb_clF X b sz 0))) X := by
  have hn0 : N 0 < 2 ^ 31 := by have := hN.2.1; omega
  have hn1 : N 1 < 2 ^ 31 := by have := hN.2.2.1; omega
  have hn2 : N 2 < 2 ^ 31 := by have := hN.2.2.2.1; omega
  have hn3 : N 3 < 2 ^ 31 := by have := hN.2.2.2.2; omega
  refine db_introZ (by decide +kernel) (Nat.le_of_ble_eq_true rfl) (bb_clF01 _ _) ?_
  intro p e s m args below meth c A Q ls hC hS hl hret
  have hC : db_Cx p s m args meth c Γ RX4 cX4_clashes 3 (some .boolean) := hC
  obtain ⟨hx, hb, hml, hr, hlocks, hown, hts, hK⟩ := id hC
  have hl : lv_has ls 3 [(0, .ref (L 4 0)), (1, .ref (L 12 b))] := hl
  have hsz : sz < 2 ^ 31 := by have := hI.2.2.2.1; omega
  refine lv_iconst (v := 0) hx hb dX4_clashes_0 (by decide) ?_
  refine lv_istore_n (lv' := [(2, .int 0), (0, .ref (L 4 0)), (1, .ref (L 12 b))]) hx hb dX4_clashes_1 rfl hl (by decide) rfl (fun ls hl => ?_)
  have K2 : ∀ (q : Nat) (u : Nat) (hq : sz + 1 - u ≤ q) (hu0 : u ≤ sz) (hrem : bb_clF X b sz 0 = bb_clF X b (sz - u) u) (H : Heap) (locs : List Loc) (hS : db_S Γ A s.heap L (bb_ok (N 0) cnt) (bb_cel Γ N L) X H locs) (ls : Array Slot) (hl : lv_has ls 3 [(0, .ref (L 4 0)), (1, .ref (L 12 b)), (2, .int (nI u))]), W p l e (db_rm 2 44) s m args below meth c H locs 0 0 Q (F0 m 2 ls []) := by
    intro q2
    induction q2 with
    | zero =>
      intro u hq2 hu0 hrem
      exact absurd hq2 (by omega)
    | succ q2 ih2 =>
      intro u hq2 hu0 hrem H locs hS ls hl
      refine lv_iload_n hx hb dX4_clashes_2 rfl (lv_at hl 2 rfl) ?_
      refine lv_aload_n hx hb dX4_clashes_3 rfl (lv_at hl 0 rfl) ?_
      refine db_get hx hb hts hown hK hS 4 0 (bb_k 4 rfl) rfl db_c4 1 (by decide) wd_132 rfl dX4_clashes_4 ?_
      rw [show X 4 0 1 = nI sz from hI.2.2.1]
      refine lv_icmp_ge (tgt := 31) hx hb dX4_clashes_7 (by decide) (fun c7 => ?_) (fun c7 => ?_)
      · have hu : u = sz := by
          rcases Nat.lt_or_ge u (sz) with q9 | q9
          · exact absurd c7 (nI_ge q9 hsz)
          · omega
        refine lv_iconst (v := 0) hx hb dX4_clashes_31 (by decide) ?_
        exact hret _ _ _ _ _ _ hS (by rw [hrem, hu, Nat.sub_self]; rfl) (rfl) dX4_clashes_32
      · have hu : u < sz := by
          rcases Nat.lt_or_ge u (sz) with q9 | q9
          · exact q9
          · exact absurd (nI_le q9 (by omega)) c7
        have hlk : db_in (bb_sec X u 2) (N 1) := (hI.2.2.2.2 u hu).2
        refine lv_aload_n hx hb dX4_clashes_10 rfl (lv_at hl 0 rfl) ?_
        refine db_get hx hb hts hown hK hS 4 0 (bb_k 4 rfl) rfl db_c4 0 (by decide) wd_130 rfl dX4_clashes_11 ?_
        refine lv_iload_n hx hb dX4_clashes_14 rfl (lv_at hl 2 rfl) ?_
        refine db_ald hx hb hK hS 5 0 (bb_k 5 rfl) 3 rfl rfl u rfl (Nat.lt_of_lt_of_le hu hI.2.2.2.1) hn2 (bb_rowf (hI.2.2.2.2 u hu).1 hcn) dX4_clashes_15 ?_
        refine lv_aload_n hx hb dX4_clashes_16 rfl (lv_at hl 1 rfl) ?_
        refine db_cVN (As := [.ref (L 12 b)]) (rest := []) (st1 := [.int (bb_cl X ((X 5 0 u).toNatClampNeg) b)]) hC hS 12 ((X 5 0 u).toNatClampNeg) (bb_kS ((hI.2.2.2.2 u hu).1.lt hcn)) rfl db_c3 (c_X3_clashesWith l Γ N L cnt X hN ((X 5 0 u).toNatClampNeg) b ((hI.2.2.2.2 u hu).1.lt hcn) hb1) (cw_X3_clashesWith (Nat.le_of_ble_eq_true rfl) (Nat.le_of_ble_eq_true rfl)) wn_252 wd_254 ws_5 rfl hl.1 rfl (Nat.le_of_ble_eq_true rfl) dX4_clashes_17 ⟨Nat.le_of_ble_eq_true rfl, Nat.le_of_ble_eq_true rfl⟩ rfl (fun H locs hS => ?_)
        refine lv_if_eq (tgt := 25) hx hb dX4_clashes_20 (by decide) (fun c20 => ?_) (fun c20 => ?_)
        · refine lv_iinc (v := (nI (u + 1))) (lv' := [(2, .int (nI (u + 1))), (0, .ref (L 4 0)), (1, .ref (L 12 b))]) hx hb dX4_clashes_25 hl (k := 2) rfl (nI_1 _) (by decide) rfl (fun ls hl => ?_)
          refine lv_goto (tgt := 2) hx hb dX4_clashes_28 (by decide) ?_
          exact ih2 (u + 1) (by omega) hu (by rw [hrem, show sz - u = (sz - (u + 1)) + 1 by omega, bb_clF, if_pos c20]) _ _ hS _ (lv_sub hl [1, 2, 0] rfl)
        · refine lv_iconst (v := 1) hx hb dX4_clashes_23 (by decide) ?_
          exact hret _ _ _ _ _ _ hS (by rw [hrem, show sz - u = (sz - (u + 1)) + 1 by omega, bb_clF, if_neg c20]) (rfl) dX4_clashes_24
  exact K2 _ 0 (Nat.le_refl _) (Nat.zero_le _) rfl _ _ hS _ (lv_sub hl [1, 2, 0] rfl)

set_option maxHeartbeats 4000000 in
set_option maxRecDepth 100000 in
theorem c_X4_removeAllOf (l : Launch) (Γ : db_G) (N : Nat → Nat) (L : Nat → Nat → Nat) (cnt : Nat) (X : db_X) (hN : bb_N N) (t : Int32) (sz : Nat) (hI : bb_I N cnt sz X) (hcn : cnt < 2 ^ 31) : db_C l Γ yX4_removeAllOf cX4_removeAllOf 4 (none) (db_rm 0 0) [.ref (L 4 0), .int t] L (bb_ok (N 0) cnt) (bb_cel Γ N L) X none (bb_rmA X sz t) := by
  have hn0 : N 0 < 2 ^ 31 := by have := hN.2.1; omega
  have hn1 : N 1 < 2 ^ 31 := by have := hN.2.2.1; omega
  have hn2 : N 2 < 2 ^ 31 := by have := hN.2.2.2.1; omega
  have hn3 : N 3 < 2 ^ 31 := by have := hN.2.2.2.2; omega
  refine db_introV (by decide +kernel) (Nat.le_of_ble_eq_true rfl) ?_
  intro p e s m args below meth c A Q ls hC hS hl hret
  have hC : db_Cx p s m args meth c Γ RX4 cX4_removeAllOf 4 (none) := hC
  obtain ⟨hx, hb, hml, hr, hlocks, hown, hts, hK⟩ := id hC
  have hl : lv_has ls 4 [(0, .ref (L 4 0)), (1, .int t)] := hl
  have hsz : sz < 2 ^ 31 := by have := hI.2.2.2.1; omega
  refine lv_iconst (v := 0) hx hb dX4_removeAllOf_0 (by decide) ?_
  refine lv_istore_n (lv' := [(2, .int 0), (0, .ref (L 4 0)), (1, .int t)]) hx hb dX4_removeAllOf_1 rfl hl (by decide) rfl (fun ls hl => ?_)
  refine lv_iconst (v := 0) hx hb dX4_removeAllOf_2 (by decide) ?_
  refine lv_istore_n (lv' := [(3, .int 0), (2, .int 0), (0, .ref (L 4 0)), (1, .int t)]) hx hb dX4_removeAllOf_3 rfl hl (by decide) rfl (fun ls hl => ?_)
  have K4 : ∀ (q : Nat) (u : Nat) (v : Nat) (Xa : db_X) (hq : sz + 1 - u ≤ q) (hu0 : u ≤ sz) (hv0 : v ≤ u) (hIa : bb_I N cnt sz Xa) (hrem : bb_rmF t sz 0 0 X = bb_rmF t (sz - u) u v Xa) (H : Heap) (locs : List Loc) (hS : db_S Γ A s.heap L (bb_ok (N 0) cnt) (bb_cel Γ N L) Xa H locs) (ls : Array Slot) (hl : lv_has ls 4 [(0, .ref (L 4 0)), (1, .int t), (2, .int (nI v)), (3, .int (nI u))]), W p l e (db_rm 0 0) s m args below meth c H locs 0 0 Q (F0 m 4 ls []) := by
    intro q4
    induction q4 with
    | zero =>
      intro u v Xa hq4 hu0 hv0 hIa hrem
      exact absurd hq4 (by omega)
    | succ q4 ih4 =>
      intro u v Xa hq4 hu0 hv0 hIa hrem H locs hS ls hl
      refine lv_iload_n hx hb dX4_removeAllOf_4 rfl (lv_at hl 3 rfl) ?_
      refine lv_aload_n hx hb dX4_removeAllOf_5 rfl (lv_at hl 0 rfl) ?_
      refine db_get hx hb hts hown hK hS 4 0 (bb_k 4 rfl) rfl db_c4 1 (by decide) wd_132 rfl dX4_removeAllOf_6 ?_
      rw [show Xa 4 0 1 = nI sz from hIa.2.2.1]
      refine lv_icmp_ge (tgt := 46) hx hb dX4_removeAllOf_9 (by decide) (fun c9 => ?_) (fun c9 => ?_)
      · have hu : u = sz := by
          rcases Nat.lt_or_ge u (sz) with q9 | q9
          · exact absurd c9 (nI_ge q9 hsz)
          · omega
        refine lv_aload_n hx hb dX4_removeAllOf_46 rfl (lv_at hl 0 rfl) ?_
        refine lv_iload_n hx hb dX4_removeAllOf_47 rfl (lv_at hl 2 rfl) ?_
        refine db_put hx hb hts hown hK hS 4 0 (bb_k 4 rfl) rfl db_c4 1 (by decide) wd_132 rfl rfl rfl (Nat.le_of_ble_eq_true rfl) rfl dX4_removeAllOf_48 (fun H locs hS => ?_)
        obtain ⟨X1, eX1⟩ : ∃ z, z = db_up Xa 4 0 1 (nI v) := ⟨_, rfl⟩
        rw [← eX1] at hS
        exact hret _ _ _ _ _ hS (by rw [bb_rmA, hrem, hu, Nat.sub_self, eX1]; rfl) dX4_removeAllOf_51
      · have hu : u < sz := by
          rcases Nat.lt_or_ge u (sz) with q9 | q9
          · exact q9
          · exact absurd (nI_le q9 (by omega)) c9
        have hlk : db_in (bb_sec Xa u 2) (N 1) := (hIa.2.2.2.2 u hu).2
        refine lv_aload_n hx hb dX4_removeAllOf_12 rfl (lv_at hl 0 rfl) ?_
        refine db_get hx hb hts hown hK hS 4 0 (bb_k 4 rfl) rfl db_c4 0 (by decide) wd_130 rfl dX4_removeAllOf_13 ?_
        refine lv_iload_n hx hb dX4_removeAllOf_16 rfl (lv_at hl 3 rfl) ?_
        refine db_ald hx hb hK hS 5 0 (bb_k 5 rfl) 3 rfl rfl u rfl (Nat.lt_of_lt_of_le hu hIa.2.2.2.1) hn2 (bb_rowf (hIa.2.2.2.2 u hu).1 hcn) dX4_removeAllOf_17 ?_
        refine db_getN hx hb hts hown hK hS 12 ((Xa 5 0 u).toNatClampNeg) (bb_kS ((hIa.2.2.2.2 u hu).1.lt hcn)) rfl db_c3 0 (by decide) wn_224 rfl dX4_removeAllOf_18 ?_
        refine lv_iload_n hx hb dX4_removeAllOf_21 rfl (lv_at hl 1 rfl) ?_
        refine lv_icmp_eq (tgt := 40) hx hb dX4_removeAllOf_22 (by decide) (fun c22 => ?_) (fun c22 => ?_)
        · have c22 : bb_sec Xa u 0 = t := c22
          refine lv_iinc (v := (nI (u + 1))) (lv' := [(3, .int (nI (u + 1))), (0, .ref (L 4 0)), (1, .int t), (2, .int (nI v))]) hx hb dX4_removeAllOf_40 hl (k := 3) rfl (nI_1 _) (by decide) rfl (fun ls hl => ?_)
          refine lv_goto (tgt := 4) hx hb dX4_removeAllOf_43 (by decide) ?_
          exact ih4 (u + 1) v Xa (by omega) hu (by omega) hIa (by rw [hrem, show sz - u = (sz - (u + 1)) + 1 by omega, bb_rmF, if_pos c22]) _ _ hS _ (lv_sub hl [1, 2, 3, 0] rfl)
        · have c22 : ¬ bb_sec Xa u 0 = t := c22
          refine lv_aload_n hx hb dX4_removeAllOf_25 rfl (lv_at hl 0 rfl) ?_
          refine db_get hx hb hts hown hK hS 4 0 (bb_k 4 rfl) rfl db_c4 0 (by decide) wd_130 rfl dX4_removeAllOf_26 ?_
          refine lv_iload_n hx hb dX4_removeAllOf_29 rfl (lv_at hl 2 rfl) ?_
          refine lv_aload_n hx hb dX4_removeAllOf_30 rfl (lv_at hl 0 rfl) ?_
          refine db_get hx hb hts hown hK hS 4 0 (bb_k 4 rfl) rfl db_c4 0 (by decide) wd_130 rfl dX4_removeAllOf_31 ?_
          refine lv_iload_n hx hb dX4_removeAllOf_34 rfl (lv_at hl 3 rfl) ?_
          refine db_ald hx hb hK hS 5 0 (bb_k 5 rfl) 3 rfl rfl u rfl (Nat.lt_of_lt_of_le hu hIa.2.2.2.1) hn2 (bb_rowf (hIa.2.2.2.2 u hu).1 hcn) dX4_removeAllOf_35 ?_
          refine db_ast5 hx hb hK hS v rfl (by have := hIa.2.2.2.1; omega) hn2 (Xa 5 0 u) (hIa.2.2.2.2 u hu).1 hcn rfl dX4_removeAllOf_36 (fun H locs hS => ?_)
          obtain ⟨X2, eX2⟩ : ∃ z, z = db_up Xa 5 0 v (Xa 5 0 u) := ⟨_, rfl⟩
          rw [← eX2] at hS
          refine lv_iinc (v := (nI (v + 1))) (lv' := [(2, .int (nI (v + 1))), (0, .ref (L 4 0)), (1, .int t), (3, .int (nI u))]) hx hb dX4_removeAllOf_37 hl (k := 2) rfl (nI_1 _) (by decide) rfl (fun ls hl => ?_)
          refine lv_iinc (v := (nI (u + 1))) (lv' := [(3, .int (nI (u + 1))), (2, .int (nI (v + 1))), (0, .ref (L 4 0)), (1, .int t)]) hx hb dX4_removeAllOf_40 hl (k := 3) rfl (nI_1 _) (by decide) rfl (fun ls hl => ?_)
          refine lv_goto (tgt := 4) hx hb dX4_removeAllOf_43 (by decide) ?_
          exact ih4 (u + 1) (v + 1) X2 (by omega) hu (by omega) (by rw [eX2]; exact hIa.up5 (hIa.2.2.2.2 u hu).1 (hIa.2.2.2.2 u hu).2) (by rw [hrem, show sz - u = (sz - (u + 1)) + 1 by omega, bb_rmF, if_neg c22, eX2]) _ _ hS _ (lv_sub hl [2, 3, 1, 0] rfl)
  exact K4 _ 0 0 X (Nat.le_refl _) (Nat.zero_le _) (Nat.le_refl _) hI rfl _ _ hS _ (lv_sub hl [2, 3, 1, 0] rfl)

theorem bb_remove01 {N : Nat → Nat} {X : db_X} {sz : Nat} {t : Int32} : (bb_remove N X sz t).1 = 0 ∨ (bb_remove N X sz t).1 = 1 := by
  unfold bb_remove
  split
  · exact Or.inl rfl
  · exact Or.inr rfl

set_option maxHeartbeats 4000000 in
set_option maxRecDepth 100000 in
theorem c_X6_removeTask (l : Launch) (Γ : db_G) (N : Nat → Nat) (L : Nat → Nat → Nat) (cnt : Nat) (X : db_X) (hN : bb_N N) (t : Int32) (sz : Nat) (hI : bb_I N cnt sz X) (hcn : cnt < 2 ^ 31) : db_C l Γ yX6_removeTask cX6_removeTask 2 (some .boolean) (db_rm 4 93) [.ref (L 0 0), .int t] L (bb_ok (N 0) cnt) (bb_cel Γ N L) X (some (.int ((bb_remove N X sz t).1))) ((bb_remove N X sz t).2) := by
  have hn0 : N 0 < 2 ^ 31 := by have := hN.2.1; omega
  have hn1 : N 1 < 2 ^ 31 := by have := hN.2.2.1; omega
  have hn2 : N 2 < 2 ^ 31 := by have := hN.2.2.2.1; omega
  have hn3 : N 3 < 2 ^ 31 := by have := hN.2.2.2.2; omega
  refine db_introZ (by decide +kernel) (Nat.le_of_ble_eq_true rfl) bb_remove01 ?_
  intro p e s m args below meth c A Q ls hC hS hl hret
  have hC : db_Cx p s m args meth c Γ RX6 cX6_removeTask 2 (some .boolean) := hC
  obtain ⟨hx, hb, hml, hr, hlocks, hown, hts, hK⟩ := id hC
  have hl : lv_has ls 2 [(0, .ref (L 0 0)), (1, .int t)] := hl
  refine lv_aload_n hx hb dX6_removeTask_0 rfl (lv_at hl 0 rfl) ?_
  refine lv_iload_n hx hb dX6_removeTask_1 rfl (lv_at hl 1 rfl) ?_
  refine db_cV (As := [.int t]) (rest := []) (st1 := [.int (bb_isLive N X t)]) hC hS 0 0 (bb_k 0 rfl) rfl db_c6 (c_X6_isLive l Γ N L cnt X hN t ) (cw_X6_isLive (Nat.le_of_ble_eq_true rfl) (Nat.le_of_ble_eq_true rfl)) wd_209 wd_211 ws_1 rfl hl.1 rfl (Nat.le_of_ble_eq_true rfl) dX6_removeTask_2 ⟨Nat.le_of_ble_eq_true rfl, Nat.le_of_ble_eq_true rfl⟩ rfl (fun H locs hS => ?_)
  refine lv_if_ne (tgt := 10) hx hb dX6_removeTask_5 (by decide) (fun c5 => ?_) (fun c5 => ?_)
  · obtain ⟨j, hj, rfl⟩ := bb_isLive_ix hn0 c5
    refine lv_aload_n hx hb dX6_removeTask_10 rfl (lv_at hl 0 rfl) ?_
    refine db_get hx hb hts hown hK hS 0 0 (bb_k 0 rfl) rfl db_c6 0 (by decide) wd_172 rfl dX6_removeTask_11 ?_
    refine lv_iload_n hx hb dX6_removeTask_14 rfl (lv_at hl 1 rfl) ?_
    refine db_ald hx hb hK hS 11 0 (bb_k 11 rfl) 2 rfl rfl j rfl hj hn0 rfl dX6_removeTask_15 ?_
    refine lv_iconst (v := 0) hx hb dX6_removeTask_16 (by decide) ?_
    refine db_putN hx hb hts hown hK hS 1 j (bb_kT hj) rfl db_c5 1 (by decide) wn_73 rfl (db_nz (Or.inl rfl)) (db_fz (Or.inl rfl)) (Nat.le_of_ble_eq_true rfl) rfl dX6_removeTask_17 (fun H locs hS => ?_)
    obtain ⟨X1, eX1⟩ : ∃ z, z = db_up X 1 j 1 0 := ⟨_, rfl⟩
    rw [← eX1] at hS
    have hI1 : bb_I N cnt sz X1 := by rw [eX1]; exact hI.up rfl
    refine lv_aload_n hx hb dX6_removeTask_20 rfl (lv_at hl 0 rfl) ?_
    refine lv_iload_n hx hb dX6_removeTask_21 rfl (lv_at hl 1 rfl) ?_
    refine db_cV (As := [.int (nI j)]) (rest := []) (st1 := []) hC hS 0 0 (bb_k 0 rfl) rfl db_c6 (c_X6_dropJob l Γ N L cnt X1 hN sz j hI1 hj) (cw_X6_dropJob (Nat.le_of_ble_eq_true rfl) (Nat.le_of_ble_eq_true rfl)) wd_268 wd_270 ws_8 rfl hl.1 rfl (Nat.le_of_ble_eq_true rfl) dX6_removeTask_22 ⟨Nat.le_of_ble_eq_true rfl, Nat.le_of_ble_eq_true rfl⟩ rfl (fun H locs hS => ?_)
    obtain ⟨X2, eX2⟩ : ∃ z, z = bb_drop N X1 j := ⟨_, rfl⟩
    rw [← eX2] at hS
    have hI2 : bb_I N cnt sz X2 := by rw [eX2]; exact hI1.drop
    refine lv_aload_n hx hb dX6_removeTask_25 rfl (lv_at hl 0 rfl) ?_
    refine db_get hx hb hts hown hK hS 0 0 (bb_k 0 rfl) rfl db_c6 2 (by decide) wd_174 rfl dX6_removeTask_26 ?_
    refine lv_iload_n hx hb dX6_removeTask_29 rfl (lv_at hl 1 rfl) ?_
    refine db_cVN (As := [.int (nI j)]) (rest := []) (st1 := []) hC hS 4 0 (bb_k 4 rfl) rfl db_c4 (c_X4_removeAllOf l Γ N L cnt X2 hN (nI j) sz hI2 hcn) (cw_X4_removeAllOf (Nat.le_of_ble_eq_true rfl) (Nat.le_of_ble_eq_true rfl)) wn_288 wd_290 ws_13 rfl hl.1 rfl (Nat.le_of_ble_eq_true rfl) dX6_removeTask_30 ⟨Nat.le_of_ble_eq_true rfl, Nat.le_of_ble_eq_true rfl⟩ rfl (fun H locs hS => ?_)
    obtain ⟨X3, eX3⟩ : ∃ z, z = bb_rmA X2 sz (nI j) := ⟨_, rfl⟩
    rw [← eX3] at hS
    refine lv_iconst (v := 1) hx hb dX6_removeTask_33 (by decide) ?_
    exact hret _ _ _ _ _ _ hS (by rw [bb_remove, if_neg c5]) (by rw [bb_remove, if_neg c5, db_nIc hj hn0, eX3, eX2, eX1]) dX6_removeTask_34
  · refine lv_iconst (v := 0) hx hb dX6_removeTask_8 (by decide) ?_
    exact hret _ _ _ _ _ _ hS (by rw [bb_remove, if_pos c5]) (by rw [bb_remove, if_pos c5]) dX6_removeTask_9

set_option maxHeartbeats 4000000 in
set_option maxRecDepth 100000 in
theorem c_X6_demandAt (l : Launch) (Γ : db_G) (N : Nat → Nat) (L : Nat → Nat → Nat) (cnt : Nat) (X : db_X) (hN : bb_N N) (t : Int32) : db_C l Γ yX6_demandAt cX6_demandAt 10 (some .long) (db_rm 0 0) [.ref (L 0 0), .int t] L (bb_ok (N 0) cnt) (bb_cel Γ N L) X (some (.long (bb_dem X t (N 0)))) X := by
  have hn0 : N 0 < 2 ^ 31 := by have := hN.2.1; omega
  have hn1 : N 1 < 2 ^ 31 := by have := hN.2.2.1; omega
  have hn2 : N 2 < 2 ^ 31 := by have := hN.2.2.2.1; omega
  have hn3 : N 3 < 2 ^ 31 := by have := hN.2.2.2.2; omega
  refine db_introL (by decide +kernel) (Nat.le_of_ble_eq_true rfl) ?_
  intro p e s m args below meth c A Q ls hC hS hl hret
  have hC : db_Cx p s m args meth c Γ RX6 cX6_demandAt 10 (some .long) := hC
  obtain ⟨hx, hb, hml, hr, hlocks, hown, hts, hK⟩ := id hC
  have hl : lv_has ls 10 [(0, .ref (L 0 0)), (1, .int t)] := hl
  refine lv_lconst (v := 0) hx hb dX6_demandAt_0 (by decide) ?_
  refine lv_lstore_n (lv' := [(2, .long 0), (0, .ref (L 0 0)), (1, .int t)]) hx hb dX6_demandAt_1 rfl hl (by decide) rfl (fun ls hl => ?_)
  refine lv_aload_n hx hb dX6_demandAt_2 rfl (lv_at hl 1 rfl) ?_
  refine db_get hx hb hts hown hK hS 0 0 (bb_k 0 rfl) rfl db_c6 0 (by decide) wd_172 rfl dX6_demandAt_3 ?_
  refine lv_astore (lv' := [(4, .ref (L 11 0)), (2, .long 0), (0, .ref (L 0 0)), (1, .int t)]) hx hb dX6_demandAt_6 hl (by decide) rfl (fun ls hl => ?_)
  refine lv_aload hx hb dX6_demandAt_8 (lv_at hl 0 rfl) ?_
  refine db_alen hx hb hK hS 11 0 (bb_k 11 rfl) 2 rfl rfl dX6_demandAt_10 ?_
  refine lv_istore (lv' := [(5, .int (nI (N 0))), (4, .ref (L 11 0)), (2, .long 0), (0, .ref (L 0 0)), (1, .int t)]) hx hb dX6_demandAt_11 hl (by decide) rfl (fun ls hl => ?_)
  refine lv_iconst (v := 0) hx hb dX6_demandAt_13 (by decide) ?_
  refine lv_istore (lv' := [(6, .int 0), (5, .int (nI (N 0))), (4, .ref (L 11 0)), (2, .long 0), (0, .ref (L 0 0)), (1, .int t)]) hx hb dX6_demandAt_14 hl (by decide) rfl (fun ls hl => ?_)
  have K16 : ∀ (q : Nat) (j : Nat) (acc : Int64) (hq : N 0 + 1 - j ≤ q) (hj0 : j ≤ N 0) (hacc : acc = bb_dem X t j) (H : Heap) (locs : List Loc) (hS : db_S Γ A s.heap L (bb_ok (N 0) cnt) (bb_cel Γ N L) X H locs) (ls : Array Slot) (hl : lv_has ls 10 [(0, .ref (L 0 0)), (1, .int t), (2, .long acc), (4, .ref (L 11 0)), (5, .int (nI (N 0))), (6, .int (nI j))]), W p l e (db_rm 0 0) s m args below meth c H locs 0 0 Q (F0 m 16 ls []) := by
    intro q16
    induction q16 with
    | zero =>
      intro j acc hq16 hj0 hacc
      exact absurd hq16 (by omega)
    | succ q16 ih16 =>
      intro j acc hq16 hj0 hacc H locs hS ls hl
      refine lv_iload hx hb dX6_demandAt_16 (lv_at hl 5 rfl) ?_
      refine lv_iload hx hb dX6_demandAt_18 (lv_at hl 4 rfl) ?_
      refine lv_icmp_ge (tgt := 91) hx hb dX6_demandAt_20 (by decide) (fun c20 => ?_) (fun c20 => ?_)
      · have hj : j = N 0 := by
          rcases Nat.lt_or_ge j (N 0) with q9 | q9
          · exact absurd c20 (nI_ge q9 hn0)
          · omega
        refine lv_lload_n hx hb dX6_demandAt_91 rfl (lv_at hl 2 rfl) ?_
        exact hret _ _ _ _ _ _ hS (by rw [hacc, hj]) (rfl) dX6_demandAt_92
      · have hj : j < N 0 := by
          rcases Nat.lt_or_ge j (N 0) with q9 | q9
          · exact q9
          · exact absurd (nI_le q9 (by omega)) c20
        refine lv_aload hx hb dX6_demandAt_23 (lv_at hl 3 rfl) ?_
        refine lv_iload hx hb dX6_demandAt_25 (lv_at hl 5 rfl) ?_
        refine db_ald hx hb hK hS 11 0 (bb_k 11 rfl) 2 rfl rfl j rfl hj hn0 rfl dX6_demandAt_27 ?_
        refine lv_astore (lv' := [(7, .ref (L 1 j)), (0, .ref (L 0 0)), (1, .int t), (2, .long acc), (4, .ref (L 11 0)), (5, .int (nI (N 0))), (6, .int (nI j))]) hx hb dX6_demandAt_28 hl (by decide) rfl (fun ls hl => ?_)
        refine lv_aload hx hb dX6_demandAt_30 (lv_at hl 0 rfl) ?_
        refine db_getN hx hb hts hown hK hS 1 j (bb_kT hj) rfl db_c5 1 (by decide) wn_73 rfl dX6_demandAt_32 ?_
        refine lv_if_eq (tgt := 85) hx hb dX6_demandAt_35 (by decide) (fun c35 => ?_) (fun c35 => ?_)
        · refine lv_iinc (v := (nI (j + 1))) (lv' := [(6, .int (nI (j + 1))), (7, .ref (L 1 j)), (0, .ref (L 0 0)), (1, .int t), (2, .long acc), (4, .ref (L 11 0)), (5, .int (nI (N 0)))]) hx hb dX6_demandAt_85 hl (k := 6) rfl (nI_1 _) (by decide) rfl (fun ls hl => ?_)
          refine lv_goto (tgt := 16) hx hb dX6_demandAt_88 (by decide) ?_
          exact ih16 (j + 1) acc (by omega) hj (by rw [bb_dem, ← hacc, if_pos c35]) _ _ hS _ (lv_sub hl [2, 3, 4, 5, 6, 0] rfl)
        · refine lv_aload hx hb dX6_demandAt_38 (lv_at hl 0 rfl) ?_
          refine db_getN hx hb hts hown hK hS 1 j (bb_kT hj) rfl db_c5 4 (by decide) wn_79 rfl dX6_demandAt_40 ?_
          refine lv_iload_n hx hb dX6_demandAt_43 rfl (lv_at hl 2 rfl) ?_
          refine lv_icmp_gt (tgt := 85) hx hb dX6_demandAt_44 (by decide) (fun c44 => ?_) (fun c44 => ?_)
          · refine lv_iinc (v := (nI (j + 1))) (lv' := [(6, .int (nI (j + 1))), (7, .ref (L 1 j)), (0, .ref (L 0 0)), (1, .int t), (2, .long acc), (4, .ref (L 11 0)), (5, .int (nI (N 0)))]) hx hb dX6_demandAt_85 hl (k := 6) rfl (nI_1 _) (by decide) rfl (fun ls hl => ?_)
            refine lv_goto (tgt := 16) hx hb dX6_demandAt_88 (by decide) ?_
            exact ih16 (j + 1) acc (by omega) hj (by rw [bb_dem, ← hacc, if_neg c35, if_pos c44]) _ _ hS _ (lv_sub hl [2, 3, 4, 5, 6, 0] rfl)
          · refine lv_aload hx hb dX6_demandAt_47 (lv_at hl 0 rfl) ?_
            refine db_getN hx hb hts hown hK hS 1 j (bb_kT hj) rfl db_c5 2 (by decide) wn_75 rfl dX6_demandAt_49 ?_
            refine lv_if_le (tgt := 85) hx hb dX6_demandAt_52 (by decide) (fun c52 => ?_) (fun c52 => ?_)
            · refine lv_iinc (v := (nI (j + 1))) (lv' := [(6, .int (nI (j + 1))), (7, .ref (L 1 j)), (0, .ref (L 0 0)), (1, .int t), (2, .long acc), (4, .ref (L 11 0)), (5, .int (nI (N 0)))]) hx hb dX6_demandAt_85 hl (k := 6) rfl (nI_1 _) (by decide) rfl (fun ls hl => ?_)
              refine lv_goto (tgt := 16) hx hb dX6_demandAt_88 (by decide) ?_
              exact ih16 (j + 1) acc (by omega) hj (by rw [bb_dem, ← hacc, if_neg c35, if_neg c44, if_pos c52]) _ _ hS _ (lv_sub hl [2, 3, 4, 5, 6, 0] rfl)
            · refine lv_iconst (v := 1) hx hb dX6_demandAt_55 (by decide) ?_
              refine lv_iload_n hx hb dX6_demandAt_56 rfl (lv_at hl 2 rfl) ?_
              refine lv_aload hx hb dX6_demandAt_57 (lv_at hl 0 rfl) ?_
              refine db_getN hx hb hts hown hK hS 1 j (bb_kT hj) rfl db_c5 4 (by decide) wn_79 rfl dX6_demandAt_59 ?_
              refine lv_isub hx hb dX6_demandAt_62 ?_
              refine lv_aload hx hb dX6_demandAt_63 (lv_at hl 0 rfl) ?_
              refine db_getN hx hb hts hown hK hS 1 j (bb_kT hj) rfl db_c5 2 (by decide) wn_75 rfl dX6_demandAt_65 ?_
              refine lv_idiv hx hb dX6_demandAt_68 (fun q => c52 (by rw [q]; decide)) ?_
              refine lv_iadd hx hb dX6_demandAt_69 ?_
              refine lv_i2l hx hb dX6_demandAt_70 rfl ?_
              refine lv_lstore (lv' := [(8, .long ((1 + ((t - (X 1 j 4)) / (X 1 j 2))).toInt64)), (7, .ref (L 1 j)), (0, .ref (L 0 0)), (1, .int t), (2, .long acc), (4, .ref (L 11 0)), (5, .int (nI (N 0))), (6, .int (nI j))]) hx hb dX6_demandAt_71 hl (by decide) rfl (fun ls hl => ?_)
              refine lv_lload_n hx hb dX6_demandAt_73 rfl (lv_at hl 4 rfl) ?_
              refine lv_aload hx hb dX6_demandAt_74 (lv_at hl 1 rfl) ?_
              refine db_getN hx hb hts hown hK hS 1 j (bb_kT hj) rfl db_c5 3 (by decide) wn_77 rfl dX6_demandAt_76 ?_
              refine lv_i2l hx hb dX6_demandAt_79 rfl ?_
              refine lv_lload hx hb dX6_demandAt_80 (lv_at hl 0 rfl) ?_
              refine lv_lmul hx hb dX6_demandAt_82 ?_
              refine lv_ladd hx hb dX6_demandAt_83 ?_
              refine lv_lstore_n (lv' := [(2, .long (acc + (((X 1 j 3).toInt64) * ((1 + ((t - (X 1 j 4)) / (X 1 j 2))).toInt64)))), (8, .long ((1 + ((t - (X 1 j 4)) / (X 1 j 2))).toInt64)), (7, .ref (L 1 j)), (0, .ref (L 0 0)), (1, .int t), (4, .ref (L 11 0)), (5, .int (nI (N 0))), (6, .int (nI j))]) hx hb dX6_demandAt_84 rfl hl (by decide) rfl (fun ls hl => ?_)
              refine lv_iinc (v := (nI (j + 1))) (lv' := [(6, .int (nI (j + 1))), (2, .long (acc + (((X 1 j 3).toInt64) * ((1 + ((t - (X 1 j 4)) / (X 1 j 2))).toInt64)))), (8, .long ((1 + ((t - (X 1 j 4)) / (X 1 j 2))).toInt64)), (7, .ref (L 1 j)), (0, .ref (L 0 0)), (1, .int t), (4, .ref (L 11 0)), (5, .int (nI (N 0)))]) hx hb dX6_demandAt_85 hl (k := 7) rfl (nI_1 _) (by decide) rfl (fun ls hl => ?_)
              refine lv_goto (tgt := 16) hx hb dX6_demandAt_88 (by decide) ?_
              exact ih16 (j + 1) (acc + (((X 1 j 3).toInt64) * ((1 + ((t - (X 1 j 4)) / (X 1 j 2))).toInt64))) (by omega) hj (by rw [bb_dem, ← hacc, if_neg c35, if_neg c44, if_neg c52]) _ _ hS _ (lv_sub hl [4, 5, 1, 6, 7, 0] rfl)
  exact K16 _ 0 0 (Nat.le_refl _) (Nat.zero_le _) rfl _ _ hS _ (lv_sub hl [4, 5, 3, 2, 1, 0] rfl)
end
section
/-! the least deadline of those that wait, in two ways -/
theorem php : ∀ (n : Nat) (f : Nat → Nat), (∀ k, k ≤ n → f k < n) → ∃ a b : Nat, a < b ∧ b ≤ n ∧ f a = f b
  | 0, f, h => absurd (h 0 (Nat.le_refl _)) (by omega)
  | n + 1, f, h => by
    by_cases q : ∃ k, k ≤ n ∧ f k = f (n + 1)
    · obtain ⟨k, h1, h2⟩ := q
      exact ⟨k, n + 1, by omega, Nat.le_refl _, h2⟩
    · have hne : ∀ k, k ≤ n → f k ≠ f (n + 1) := fun k hk e => q ⟨k, hk, e⟩
      obtain ⟨a, b, h1, h2, h3⟩ := php n (fun k => if f k < f (n + 1) then f k else f k - 1) (by
        intro k hk
        have h4 := h k (by omega)
        have h5 := h (n + 1) (Nat.le_refl _)
        have h6 := hne k hk
        split <;> omega)
      refine ⟨a, b, h1, by omega, ?_⟩
      have h6 := hne a (by omega)
      have h7 := hne b (by omega)
      split at h3 <;> split at h3 <;> omega
def db_it (nx : Nat → Int32) : Nat → Int32 → Int32
  | 0, h => h
  | k + 1, h => if h = -1 then -1 else db_it nx k (nx h.toNatClampNeg)
def db_rg (n : Nat) (nx : Nat → Int32) : Prop := ∀ s, s < n → nx s = -1 ∨ db_in (nx s) n
theorem db_it_none {nx : Nat → Int32} : ∀ k, db_it nx k (-1) = -1
  | 0 => rfl
  | k + 1 => by simp [db_it]
theorem db_it_s {nx : Nat → Int32} {k s : Nat} (hs : s < 2 ^ 31) : db_it nx (k + 1) (nI s) = db_it nx k (nx s) := by
  rw [db_it, if_neg (nI_ne1 hs), nI_clamp hs]
theorem db_it_add {nx : Nat → Int32} : ∀ (a b : Nat) (h : Int32), db_it nx (a + b) h = db_it nx b (db_it nx a h)
  | 0, b, h => by simp [db_it]
  | a + 1, b, h => by
    rw [show a + 1 + b = (a + b) + 1 by omega]
    by_cases q : h = -1
    · subst q
      rw [db_it_none, db_it_none, db_it_none]
    · rw [db_it, if_neg q, db_it, if_neg q]
      exact db_it_add a b _
theorem db_it_rg {n : Nat} {nx : Nat → Int32} (hn : n < 2 ^ 31) (hr : db_rg n nx) : ∀ (k : Nat) (h : Int32), (h = -1 ∨ db_in h n) → (db_it nx k h = -1 ∨ db_in (db_it nx k h) n)
  | 0, h, hh => hh
  | k + 1, h, hh => by
    rcases hh with q | q
    · subst q
      rw [db_it_none]; exact Or.inl rfl
    · rw [db_it, if_neg (q.ne1 hn)]
      exact db_it_rg hn hr k _ (hr _ (q.lt hn))
theorem db_it_short {n : Nat} {nx : Nat → Int32} (hn : n < 2 ^ 31) (hr : db_rg n nx) {h : Int32} (hh : h = -1 ∨ db_in h n) {t : Nat} (ht : t < n) : ∀ M : Nat, db_it nx M h = nI t → ∃ m, m < n ∧ db_it nx m h = nI t := by
  intro M
  induction M using Nat.strongRecOn with
  | _ M ih =>
    intro e
    by_cases q : M < n
    · exact ⟨M, q, e⟩
    · have hne : ∀ k, k ≤ M → db_in (db_it nx k h) n := by
        intro k hk
        rcases db_it_rg hn hr k h hh with z | z
        · have e2 := db_it_add (nx := nx) k (M - k) h
          rw [show k + (M - k) = M by omega, z, db_it_none, e] at e2
          exact absurd e2 (nI_ne1 (by omega))
        · exact z
      obtain ⟨a, b, h1, h2, h3⟩ := php n (fun k => (db_it nx k h).toNatClampNeg) (fun k hk => (hne k (by omega)).lt hn)
      have e3 : db_it nx a h = db_it nx b h := by
        rw [(hne a (by omega)).eq hn, (hne b (by omega)).eq hn]
        exact congrArg nI h3
      refine ih (a + (M - b)) (by omega) ?_
      rw [db_it_add, e3, ← db_it_add, show b + (M - b) = M by omega]
      exact e
def db_isE (n : Nat) (due nx E : Nat → Int32) : Prop := (∀ t, t < n → E t ≤ due t) ∧ (∀ s t, s < n → t < n → nx s = nI t → E t ≤ E s) ∧ ∀ t, t < n → ∃ s, s < n ∧ E t = due s ∧ ∃ m, db_it nx m (nI s) = nI t
theorem db_isE.path {n : Nat} {due nx E : Nat → Int32} (hn : n < 2 ^ 31) (hr : db_rg n nx) (h : db_isE n due nx E) {t : Nat} (ht : t < n) : ∀ (m s : Nat), s < n → db_it nx m (nI s) = nI t → E t ≤ E s
  | 0, s, hs, e => by
    have e : nI s = nI t := e
    rw [nI_eq (by omega) (by omega)] at e
    subst e
    exact Int32.le_refl _
  | m + 1, s, hs, e => by
    rw [db_it_s (by omega)] at e
    rcases hr s hs with q | ⟨u, hu, q⟩
    · rw [q, db_it_none] at e
      exact absurd e.symm (nI_ne1 (by omega))
    · rw [q] at e
      exact Int32.le_trans (db_isE.path hn hr h ht m u hu e) (h.2.1 s u hs hu q)
theorem db_isE.le {n : Nat} {due nx E E' : Nat → Int32} (hn : n < 2 ^ 31) (hr : db_rg n nx) (h : db_isE n due nx E) (h' : db_isE n due nx E') {t : Nat} (ht : t < n) : E' t ≤ E t := by
  obtain ⟨s, hs, e, m, hm⟩ := h.2.2 t ht
  rw [e]
  exact Int32.le_trans (h'.path hn hr ht m s hs hm) (h'.1 s hs)
theorem db_isE.uniq {n : Nat} {due nx E E' : Nat → Int32} (hn : n < 2 ^ 31) (hr : db_rg n nx) (h : db_isE n due nx E) (h' : db_isE n due nx E') {t : Nat} (ht : t < n) : E t = E' t :=
  Int32.le_antisymm (h'.le hn hr h ht) (h.le hn hr h' ht)
theorem db_isE.congr {n : Nat} {due due' nx nx' E E' : Nat → Int32} (h : db_isE n due nx E) (hn : n < 2 ^ 31) (hr : db_rg n nx) (h1 : ∀ t, t < n → due t = due' t) (h2 : ∀ t, t < n → nx t = nx' t) (h3 : ∀ t, t < n → E t = E' t) : db_isE n due' nx' E' := by
  refine ⟨fun t ht => by rw [← h3 t ht, ← h1 t ht]; exact h.1 t ht, fun s t hs ht e => by rw [← h3 s hs, ← h3 t ht]; exact h.2.1 s t hs ht (by rw [h2 s hs]; exact e), fun t ht => ?_⟩
  obtain ⟨s, hs, e, m, hm⟩ := h.2.2 t ht
  refine ⟨s, hs, by rw [← h3 t ht, ← h1 s hs]; exact e, m, ?_⟩
  have key : ∀ (m s : Nat), s < n → db_it nx m (nI s) = db_it nx' m (nI s) := by
    intro m
    induction m with
    | zero => intro s _; rfl
    | succ m ih =>
      intro s hs
      rw [db_it_s (by omega), db_it_s (by omega), ← h2 s hs]
      rcases hr s hs with q | ⟨u, hu, q⟩
      · rw [q, db_it_none, db_it_none]
      · rw [q]; exact ih u hu
  rw [← key m s hs]
  exact hm
/-! the class's walk up the chains -/
theorem bb_ch_le {d : Int32} : ∀ (k : Nat) (h : Int32) (X : db_X) (t : Nat), bb_ch d k h X 2 t 5 ≤ X 2 t 5
  | 0, _, _, _ => Int32.le_refl _
  | k + 1, h, X, t => by
    rw [bb_ch]
    split
    · exact Int32.le_refl _
    · refine Int32.le_trans (bb_ch_le k _ _ t) ?_
      simp only [bb_ch1, db_up]
      split
      · rename_i q
        rw [q.2.1]
        split
        · rename_i z; exact Int32.le_of_lt z
        · exact Int32.le_refl _
      · exact Int32.le_refl _
theorem bb_ch_in {d : Int32} {nx : Nat → Int32} : ∀ (k : Nat) (h : Int32) (X : db_X), (∀ i, bb_hab X i = nx i) → ∀ (t m : Nat), t < 2 ^ 31 → m < k → db_it nx m h = nI t → bb_ch d k h X 2 t 5 ≤ d
  | 0, _, _, _, _, _, _, hm, _ => absurd hm (by omega)
  | k + 1, h, X, hX, t, m, ht, hm, e => by
    have hX1 : ∀ i, bb_hab (bb_ch1 d X h.toNatClampNeg) i = nx i := fun i => (bb_ch1_s5.hab i).trans (hX i)
    rw [bb_ch]
    by_cases q : h = -1
    · subst q
      rw [db_it_none] at e
      exact absurd e.symm (nI_ne1 ht)
    · rw [if_neg q]
      cases m with
      | zero =>
        have e : h = nI t := e
        refine Int32.le_trans (bb_ch_le k _ _ t) ?_
        subst e
        rw [nI_clamp ht]
        simp only [bb_ch1, db_up, and_self, if_true]
        split
        · exact Int32.le_refl _
        · rename_i z; exact Int32.not_lt.mp z
      | succ m =>
        rw [db_it, if_neg q] at e
        rw [hX1]
        exact bb_ch_in k _ _ hX1 t m ht (by omega) e
theorem bb_ch_or {d : Int32} {nx : Nat → Int32} {n : Nat} (hn : n < 2 ^ 31) (hr : db_rg n nx) : ∀ (k : Nat) (h : Int32) (X : db_X), (∀ i, bb_hab X i = nx i) → (h = -1 ∨ db_in h n) → ∀ t : Nat, bb_ch d k h X 2 t 5 = X 2 t 5 ∨ (bb_ch d k h X 2 t 5 = d ∧ ∃ m, m < k ∧ db_it nx m h = nI t)
  | 0, _, _, _, _, _ => Or.inl rfl
  | k + 1, h, X, hX, hh, t => by
    have hX1 : ∀ i, bb_hab (bb_ch1 d X h.toNatClampNeg) i = nx i := fun i => (bb_ch1_s5.hab i).trans (hX i)
    rw [bb_ch]
    by_cases q : h = -1
    · rw [if_pos q]; exact Or.inl rfl
    · rw [if_neg q]
      have hin := hh.resolve_left q
      rw [hX1]
      rcases bb_ch_or hn hr k (nx h.toNatClampNeg) (bb_ch1 d X h.toNatClampNeg) hX1 (hr _ (hin.lt hn)) t with z | ⟨z, m, hm, e⟩
      · rw [z]
        simp only [bb_ch1, db_up]
        split
        · rename_i w
          split
          · refine Or.inr ⟨rfl, 0, by omega, ?_⟩
            show h = nI t
            rw [w.2.1]; exact hin.eq hn
          · rw [w.2.1]; exact Or.inl rfl
        · exact Or.inl rfl
      · exact Or.inr ⟨z, m + 1, by omega, by rw [db_it, if_neg q]; exact e⟩
theorem bb_in1_5 {X : db_X} : ∀ (n t : Nat), t < n → bb_in1 X n 2 t 5 = X 2 t 2
  | 0, _, h => absurd h (by omega)
  | n + 1, t, h => by
    rw [bb_in1]
    by_cases q : t = n
    · subst q
      simp only [db_up, and_self, if_true]
      exact bb_in1_s5 t 2 t 2 (by simp)
    · simp only [db_up, q, false_and, and_false, if_false]
      exact bb_in1_5 n t (by omega)
theorem bb_inh_isE {N : Nat → Nat} {X : db_X} (hN : bb_N N) (hW : bb_W N X) (hO : bb_O N X) : db_isE (N 0) (fun i => X 2 i 2) (bb_hab X) (fun i => bb_inh N X 2 i 5) := by
  have hn : N 0 < 2 ^ 31 := by have := hN.2.1; omega
  have hr : db_rg (N 0) (bb_hab X) := fun s hs => bb_hab_cases hN hW hO hs
  have s5 : ∀ i, bb_s5 (bb_in2 N (bb_in1 X (N 0)) i) X := fun i => (bb_in2_s5 i).tr (bb_in1_s5 _)
  have hX : ∀ i j, bb_hab (bb_in2 N (bb_in1 X (N 0)) i) j = bb_hab X j := fun i j => (s5 i).hab j
  have hd : ∀ i j, bb_in2 N (bb_in1 X (N 0)) i 2 j 2 = X 2 j 2 := fun i j => s5 i 2 j 2 (by simp)
  have mono : ∀ i t, bb_in2 N (bb_in1 X (N 0)) (i + 1) 2 t 5 ≤ bb_in2 N (bb_in1 X (N 0)) i 2 t 5 := fun i t => bb_ch_le _ _ _ _
  have le : ∀ k i t, bb_in2 N (bb_in1 X (N 0)) (i + k) 2 t 5 ≤ bb_in2 N (bb_in1 X (N 0)) i 2 t 5 := by
    intro k i t
    induction k with
    | zero => exact Int32.le_refl _
    | succ k ih => exact Int32.le_trans (mono (i + k) t) ih
  have inn : ∀ s t m, s < N 0 → t < N 0 → m < N 0 → db_it (bb_hab X) m (bb_hab X s) = nI t → bb_inh N X 2 t 5 ≤ X 2 s 2 := by
    intro s t m hs ht hm e
    have h1 : bb_in2 N (bb_in1 X (N 0)) (s + 1) 2 t 5 ≤ X 2 s 2 := by
      rw [bb_in2, hd]
      exact bb_ch_in _ _ _ (hX s) t m (by omega) hm (by rw [hX]; exact e)
    have h2 := le (N 0 - (s + 1)) (s + 1) t
    rw [show s + 1 + (N 0 - (s + 1)) = N 0 by omega] at h2
    exact Int32.le_trans h2 h1
  have orr : ∀ i t, i ≤ N 0 → t < N 0 → bb_in2 N (bb_in1 X (N 0)) i 2 t 5 = X 2 t 2 ∨ ∃ s, s < i ∧ bb_in2 N (bb_in1 X (N 0)) i 2 t 5 = X 2 s 2 ∧ ∃ m, m < N 0 ∧ db_it (bb_hab X) m (bb_hab X s) = nI t := by
    intro i t hi ht
    induction i with
    | zero => exact Or.inl (bb_in1_5 _ _ ht)
    | succ i ih =>
      rcases bb_ch_or (d := bb_in2 N (bb_in1 X (N 0)) i 2 i 2) hn hr (N 0) (bb_hab (bb_in2 N (bb_in1 X (N 0)) i) i) (bb_in2 N (bb_in1 X (N 0)) i) (hX i) (by rw [hX]; exact hr i (by omega)) t with z | ⟨z, m, hm, e⟩
      · rw [bb_in2, z]
        rcases ih (by omega) with w | ⟨s, h1, h2⟩
        · exact Or.inl w
        · exact Or.inr ⟨s, by omega, h2⟩
      · rw [bb_in2, z, hd]
        exact Or.inr ⟨i, by omega, rfl, m, hm, by rw [hX] at e; exact e⟩
  refine ⟨fun t ht => ?_, fun s t hs ht e => ?_, fun t ht => ?_⟩
  · have h1 := le (N 0) 0 t
    rw [Nat.zero_add] at h1
    refine Int32.le_trans h1 ?_
    show bb_in1 X (N 0) 2 t 5 ≤ _
    rw [bb_in1_5 _ _ ht]
    exact Int32.le_refl _
  · show bb_inh N X 2 t 5 ≤ bb_inh N X 2 s 5
    rcases orr (N 0) s (Nat.le_refl _) hs with z | ⟨i, hi, z, m, hm, e2⟩
    · rw [show bb_inh N X 2 s 5 = X 2 s 2 from z]
      exact inn s t 0 hs ht (by have := hN.1; omega) e
    · rw [show bb_inh N X 2 s 5 = X 2 i 2 from z]
      have e3 : db_it (bb_hab X) (m + 1) (bb_hab X i) = nI t := by
        rw [db_it_add, e2, db_it_s (by omega)]
        exact e
      obtain ⟨m', hm', e4⟩ := db_it_short hn hr (hr i hi) ht _ e3
      exact inn i t m' hi ht hm' e4
  · rcases orr (N 0) t (Nat.le_refl _) ht with z | ⟨i, hi, z, m, hm, e2⟩
    · exact ⟨t, ht, z, 0, rfl⟩
    · exact ⟨i, hi, z, m + 1, by rw [db_it_s (by omega)]; exact e2⟩
/-- the effective deadlines -/
noncomputable def db_E (n : Nat) (due nx : Nat → Int32) : Nat → Int32 := Classical.epsilon (fun E => db_isE n due nx E)
theorem db_E_eq {n : Nat} {due nx E : Nat → Int32} (hn : n < 2 ^ 31) (hr : db_rg n nx) (h : db_isE n due nx E) {t : Nat} (ht : t < n) : db_E n due nx t = E t := by
  have hx : ∃ E, db_isE n due nx E := ⟨E, h⟩
  exact (Classical.epsilon_spec hx).uniq hn hr h ht
end
section
/-! the reference in numbers -/
def mm_isLive (N : Nat → Nat) (Y : db_X) (t : Int32) : Int32 := if t < 0 then 0 else if nI (N 0) ≤ t then 0 else if Y 6 0 t.toNatClampNeg = 0 then 0 else 1
def mm_isP (N : Nat → Nat) (Y : db_X) (t : Int32) : Int32 := if mm_isLive N Y t = 0 then 0 else if Y 17 0 t.toNatClampNeg = 0 then 0 else 1
theorem mm_isLive_ix {N : Nat → Nat} {X : db_X} {t : Int32} (hn : N 0 < 2 ^ 31) (h : ¬ mm_isLive N X t = 0) : ∃ j : Nat, j < N 0 ∧ t = nI j := by
  unfold mm_isLive at h
  refine db_ix hn (fun q => h ?_) (fun q => h ?_)
  · simp [q]
  · simp [q]
theorem mm_isP_ix {N : Nat → Nat} {X : db_X} {t : Int32} (hn : N 0 < 2 ^ 31) (h : ¬ mm_isP N X t = 0) : ∃ j : Nat, j < N 0 ∧ t = nI j := by
  refine mm_isLive_ix (X := X) hn (fun q => h ?_)
  simp [mm_isP, q]
theorem mm_isP_n {N : Nat → Nat} {X : db_X} {j : Nat} (hn : N 0 < 2 ^ 31) (hj : j < N 0) : mm_isP N X (nI j) = if X 6 0 j = 0 then 0 else if X 17 0 j = 0 then 0 else 1 := by
  unfold mm_isP mm_isLive
  rw [if_neg (nI_pos (by omega)), if_neg (nI_ge hj hn), db_nIc hj hn]
  by_cases q : X 6 0 j = 0
  · simp [q]
  · simp [q]
def mm_nx (N : Nat → Nat) (Y : db_X) (s : Nat) : Int32 := if mm_isP N Y (nI s) = 0 then -1 else if Y 21 0 s = -1 then -1 else Y 23 0 (Y 21 0 s).toNatClampNeg
def mm_W (N : Nat → Nat) (Y : db_X) : Prop := ∀ i, i < N 0 → Y 21 0 i = -1 ∨ db_in (Y 21 0 i) (N 1)
def mm_O (N : Nat → Nat) (Y : db_X) : Prop := ∀ k, k < N 1 → Y 23 0 k = -1 ∨ db_in (Y 23 0 k) (N 0)
def mm_Sec (N : Nat → Nat) (sz : Nat) (Y : db_X) : Prop := Y 0 0 24 = nI sz ∧ sz ≤ N 2 ∧ ∀ s, s < sz → db_in (Y 26 0 s) (N 1)
def mm_I (N : Nat → Nat) (sz : Nat) (Y : db_X) : Prop := mm_W N Y ∧ mm_O N Y ∧ mm_Sec N sz Y
theorem mm_nx_rg {N : Nat → Nat} {Y : db_X} (hN : bb_N N) (hW : mm_W N Y) (hO : mm_O N Y) : db_rg (N 0) (mm_nx N Y) := by
  intro s hs
  unfold mm_nx
  split
  · exact Or.inl rfl
  · split
    · exact Or.inl rfl
    · rename_i q
      exact hO _ (((hW s hs).resolve_left q).lt (by have := hN.2.2.1; omega))
/-- the effective deadlines are laid down -/
noncomputable def mm_rk (N : Nat → Nat) (Y : db_X) : db_X := fun k i f => if k = 29 ∧ i = 0 ∧ f < N 0 then db_E (N 0) (fun i => Y 19 0 i) (mm_nx N Y) f else Y k i f
def mm_s (N : Nat → Nat) (X Y : db_X) : Prop := ∀ k i f, ¬ (k = 29 ∧ i = 0 ∧ f < N 0) → X k i f = Y k i f
theorem mm_s.rf {N : Nat → Nat} {X : db_X} : mm_s N X X := fun _ _ _ _ => rfl
theorem mm_s.tr {N : Nat → Nat} {X Y Z : db_X} (h : mm_s N X Y) (h2 : mm_s N Y Z) : mm_s N X Z := fun k i f q => (h k i f q).trans (h2 k i f q)
theorem mm_s.up {N : Nat → Nat} {X : db_X} {j : Nat} {v : Int32} (hj : j < N 0) : mm_s N (db_up X 29 0 j v) X := by
  intro k i f q
  simp only [db_up]
  rw [if_neg]
  rintro ⟨rfl, rfl, rfl⟩
  exact q ⟨rfl, rfl, hj⟩
theorem mm_s.isLive {N : Nat → Nat} {X Y : db_X} (h : mm_s N X Y) (t : Int32) : mm_isLive N X t = mm_isLive N Y t := by
  unfold mm_isLive
  rw [h 6 0 _ (by simp)]
theorem mm_s.isP {N : Nat → Nat} {X Y : db_X} (h : mm_s N X Y) (t : Int32) : mm_isP N X t = mm_isP N Y t := by
  unfold mm_isP
  rw [h.isLive, h 17 0 _ (by simp)]
theorem mm_s.nx {N : Nat → Nat} {X Y : db_X} (h : mm_s N X Y) (s : Nat) : mm_nx N X s = mm_nx N Y s := by
  unfold mm_nx
  rw [h.isP, h 21 0 s (by simp), h 23 0 _ (by simp)]
theorem mm_s.I {N : Nat → Nat} {sz : Nat} {X Y : db_X} (h : mm_s N X Y) (hI : mm_I N sz Y) : mm_I N sz X :=
  ⟨fun i hi => by rw [h 21 0 i (by simp)]; exact hI.1 i hi, fun k hk => by rw [h 23 0 k (by simp)]; exact hI.2.1 k hk, by rw [h 0 0 24 (by simp)]; exact hI.2.2.1, hI.2.2.2.1, fun s hs => by rw [h 26 0 s (by simp)]; exact hI.2.2.2.2 s hs⟩
theorem mm_rk_s {N : Nat → Nat} {Y : db_X} : mm_s N (mm_rk N Y) Y := by
  intro k i f q
  unfold mm_rk
  rw [if_neg q]
theorem mm_rk_of {N : Nat → Nat} {sz : Nat} {X Y : db_X} (hN : bb_N N) (hI : mm_I N sz X) (h : mm_s N Y X) (hE : db_isE (N 0) (fun i => X 19 0 i) (mm_nx N X) (fun i => Y 29 0 i)) : Y = mm_rk N X := by
  funext k i f
  unfold mm_rk
  by_cases q : k = 29 ∧ i = 0 ∧ f < N 0
  · rw [if_pos q]
    obtain ⟨rfl, rfl, hf⟩ := q
    exact (db_E_eq (by have := hN.2.1; omega) (mm_nx_rg hN hI.1 hI.2.1) hE hf).symm
  · rw [if_neg q]
    exact h k i f q
def mm_sum (F : Nat → Int32) : Nat → Nat
  | 0 => 0
  | n + 1 => mm_sum F n + ((F n).toInt + 2147483648).toNat
theorem mm_sum_congr {F G : Nat → Int32} : ∀ n, (∀ i, i < n → F i = G i) → mm_sum F n = mm_sum G n
  | 0, _ => rfl
  | n + 1, h => by rw [mm_sum, mm_sum, mm_sum_congr n (fun i hi => h i (by omega)), h n (by omega)]
theorem mm_sum_lt {F G : Nat → Int32} {h : Nat} (hl : F h < G h) : ∀ n, h < n → (∀ i, i < n → i ≠ h → F i = G i) → mm_sum F n < mm_sum G n
  | 0, hh, _ => absurd hh (by omega)
  | n + 1, hh, e => by
    rw [mm_sum, mm_sum]
    by_cases q : h = n
    · subst q
      rw [mm_sum_congr h (fun i hi => e i (by omega) (by omega))]
      have h1 := Int32.lt_iff_toInt_lt.mp hl
      have h2 := Int32.minValue_le_toInt (F h)
      have h3 := Int32.minValue_le_toInt (G h)
      have e4 : Int32.minValue.toInt = -2147483648 := by decide
      omega
    · have h1 := mm_sum_lt hl n (by omega) (fun i hi => e i (by omega))
      rw [e n (by omega) (fun z => q z.symm)]
      omega
def mm_b (x : Int32) : Nat := if x = 0 then 0 else 1
def mm_ahead (N : Nat → Nat) (Y : db_X) (a : Int32) : Int32 := db_ah (fun j => decide (¬ mm_isP N Y (nI j) = 0 ∧ Y 21 0 j = a)) (fun j => Y 29 0 j) (N 0)
theorem mm_ahead_in {N : Nat → Nat} {X : db_X} {a : Int32} (h : ¬ mm_ahead N X a = -1) : db_in (mm_ahead N X a) (N 0) := by
  rcases db_ah_in (sel := fun j => decide (¬ mm_isP N X (nI j) = 0 ∧ X 21 0 j = a)) (ef := fun j => X 29 0 j) (N 0) with q | ⟨j, q1, q2, -⟩
  · exact absurd q h
  · exact ⟨j, q1, q2⟩
def mm_lg3 (X : db_X) (k : Nat) (a : Int32) : db_X := db_up (db_up X 23 0 k a) 21 0 a.toNatClampNeg (-1)
def mm_lg2 (N : Nat → Nat) (X : db_X) (k : Nat) : db_X := if mm_ahead N X (nI k) = -1 then X else mm_lg3 X k (mm_ahead N X (nI k))
noncomputable def mm_lg (N : Nat → Nat) (X : db_X) (k : Nat) : db_X := mm_lg2 N (mm_rk N (db_up X 23 0 k (-1))) k
noncomputable def mm_dropL (N : Nat → Nat) (X : db_X) (i : Nat) : Nat → db_X
  | 0 => X
  | k + 1 => if mm_dropL N X i k 23 0 k = nI i then mm_lg N (mm_dropL N X i k) k else mm_dropL N X i k
def mm_drop0 (X : db_X) (i : Nat) : db_X := db_up (db_up (db_up X 17 0 i 0) 21 0 i (-1)) 22 0 i 0
noncomputable def mm_drop (N : Nat → Nat) (X : db_X) (i : Nat) : db_X := mm_dropL N (mm_drop0 X i) i (N 1)
/-! what stays so -/
theorem mm_I.up {N : Nat → Nat} {sz : Nat} {X : db_X} (h : mm_I N sz X) {k i f : Nat} {v : Int32} (hk : (!(k == 21) && !(k == 23) && !(k == 26) && !(k == 0 && f == 24)) = true) : mm_I N sz (db_up X k i f v) := by
  simp only [Bool.and_eq_true, Bool.not_eq_true', beq_eq_false_iff_ne, ne_eq, Bool.and_eq_false_iff] at hk
  obtain ⟨⟨⟨h1, h3⟩, h4⟩, h5⟩ := hk
  have e : ∀ k' i' f', (k' = 21 ∨ k' = 23 ∨ k' = 26 ∨ (k' = 0 ∧ f' = 24)) → db_up X k i f v k' i' f' = X k' i' f' := by
    intro k' i' f' q
    simp only [db_up]
    rw [if_neg]
    rintro ⟨rfl, rfl, rfl⟩
    rcases q with q | q | q | q
    · exact h1 q
    · exact h3 q
    · exact h4 q
    · rcases h5 with h5 | h5
      · exact h5 q.1
      · exact h5 q.2
  refine ⟨fun i' hi => by rw [e 21 0 i' (by simp)]; exact h.1 i' hi, fun k' hk => by rw [e 23 0 k' (by simp)]; exact h.2.1 k' hk, by rw [e 0 0 24 (by simp)]; exact h.2.2.1, h.2.2.2.1, fun p hp => by rw [e 26 0 p (by simp)]; exact h.2.2.2.2 p hp⟩
theorem mm_I.up21 {N : Nat → Nat} {sz : Nat} {X : db_X} (h : mm_I N sz X) {i : Nat} {v : Int32} (hv : v = -1 ∨ db_in v (N 1)) : mm_I N sz (db_up X 21 0 i v) := by
  have e : ∀ k' i' f', ¬ k' = 21 → db_up X 21 0 i v k' i' f' = X k' i' f' := by
    intro k' i' f' q
    simp [db_up, q]
  refine ⟨fun i' hi => ?_, fun k' hk => by rw [e 23 0 k' (by simp)]; exact h.2.1 k' hk, by rw [e 0 0 24 (by simp)]; exact h.2.2.1, h.2.2.2.1, fun p hp => by rw [e 26 0 p (by simp)]; exact h.2.2.2.2 p hp⟩
  by_cases q : i' = i
  · simp [db_up, q]; exact hv
  · simp [db_up, q]; exact h.1 i' hi
theorem mm_I.up23 {N : Nat → Nat} {sz : Nat} {X : db_X} (h : mm_I N sz X) {k : Nat} {v : Int32} (hv : v = -1 ∨ db_in v (N 0)) : mm_I N sz (db_up X 23 0 k v) := by
  have e : ∀ k' i' f', ¬ k' = 23 → db_up X 23 0 k v k' i' f' = X k' i' f' := by
    intro k' i' f' q
    simp [db_up, q]
  refine ⟨fun i' hi => by rw [e 21 0 i' (by simp)]; exact h.1 i' hi, fun k' hk => ?_, by rw [e 0 0 24 (by simp)]; exact h.2.2.1, h.2.2.2.1, fun p hp => by rw [e 26 0 p (by simp)]; exact h.2.2.2.2 p hp⟩
  by_cases q : k' = k
  · simp [db_up, q]; exact hv
  · simp [db_up, q]; exact h.2.1 k' hk
theorem mm_I.rk {N : Nat → Nat} {sz : Nat} {X : db_X} (h : mm_I N sz X) : mm_I N sz (mm_rk N X) := mm_rk_s.I h
theorem mm_I.lg {N : Nat → Nat} {sz : Nat} {X : db_X} (h : mm_I N sz X) {k : Nat} : mm_I N sz (mm_lg N X k) := by
  unfold mm_lg mm_lg2
  have h1 := (h.up23 (k := k) (v := -1) (Or.inl rfl)).rk
  split
  · exact h1
  · rename_i q
    exact (h1.up23 (Or.inr (mm_ahead_in q))).up21 (Or.inl rfl)
theorem mm_I.dropL {N : Nat → Nat} {sz : Nat} {X : db_X} (h : mm_I N sz X) {i : Nat} : ∀ k : Nat, mm_I N sz (mm_dropL N X i k)
  | 0 => h
  | k + 1 => by
    unfold mm_dropL
    split
    · exact (mm_I.dropL h k).lg
    · exact mm_I.dropL h k
theorem mm_I.drop {N : Nat → Nat} {sz : Nat} {X : db_X} (h : mm_I N sz X) {i : Nat} : mm_I N sz (mm_drop N X i) := ((((h.up rfl).up21 (Or.inl rfl)).up rfl).dropL _)
end
section
set_option maxHeartbeats 4000000 in
set_option maxRecDepth 100000 in
theorem c_X7_isLive (l : Launch) (Γ : db_G) (N : Nat → Nat) (L : Nat → Nat → Nat) (X : db_X) (hN : bb_N N) (t : Int32) : db_C l Γ yX7_isLive cX7_isLive 2 (some .boolean) (db_rm 0 0) [.ref (L 0 0), .int t] L mm_ok (mm_cel Γ N L) X (some (.int (mm_isLive N X t))) X := by
  have hn0 : N 0 < 2 ^ 31 := by have := hN.2.1; omega
  have hn1 : N 1 < 2 ^ 31 := by have := hN.2.2.1; omega
  have hn2 : N 2 < 2 ^ 31 := by have := hN.2.2.2.1; omega
  have hn3 : N 3 < 2 ^ 31 := by have := hN.2.2.2.2; omega
  refine db_introZ (by decide +kernel) (Nat.le_of_ble_eq_true rfl) (db_01 (Or.inl rfl) (db_01 (Or.inl rfl) (db_01 (Or.inl rfl) (Or.inr rfl)))) ?_
  intro p e s m args below meth c A Q ls hC hS hl hret
  have hC : db_Cx p s m args meth c Γ RX7 cX7_isLive 2 (some .boolean) := hC
  obtain ⟨hx, hb, hml, hr, hlocks, hown, hts, hK⟩ := id hC
  have hl : lv_has ls 2 [(0, .ref (L 0 0)), (1, .int t)] := hl
  refine lv_iload_n hx hb dX7_isLive_0 rfl (lv_at hl 1 rfl) ?_
  refine lv_if_lt (tgt := 25) hx hb dX7_isLive_1 (by decide) (fun c1 => ?_) (fun c1 => ?_)
  · refine lv_iconst (v := 0) hx hb dX7_isLive_25 (by decide) ?_
    exact hret _ _ _ _ _ _ hS (by simp [mm_isLive, c1]) (rfl) dX7_isLive_26
  · refine lv_iload_n hx hb dX7_isLive_4 rfl (lv_at hl 1 rfl) ?_
    refine lv_aload_n hx hb dX7_isLive_5 rfl (lv_at hl 0 rfl) ?_
    refine db_get hx hb hts hown hK hS 0 0 (mm_k 0 rfl) rfl db_c7 0 (by decide) wd_441 rfl dX7_isLive_6 ?_
    refine lv_icmp_ge (tgt := 25) hx hb dX7_isLive_9 (by decide) (fun c9 => ?_) (fun c9 => ?_)
    · refine lv_iconst (v := 0) hx hb dX7_isLive_25 (by decide) ?_
      exact hret _ _ _ _ _ _ hS (by simp [mm_isLive, c1, c9]) (rfl) dX7_isLive_26
    · obtain ⟨j, hj, rfl⟩ := db_ix hn0 c1 c9
      refine lv_aload_n hx hb dX7_isLive_12 rfl (lv_at hl 0 rfl) ?_
      refine db_get hx hb hts hown hK hS 0 0 (mm_k 0 rfl) rfl db_c7 6 (by decide) wd_447 rfl dX7_isLive_13 ?_
      refine lv_iload_n hx hb dX7_isLive_16 rfl (lv_at hl 1 rfl) ?_
      refine db_zld hx hb hK hS 6 0 (mm_k 6 rfl) rfl j rfl (Nat.lt_of_lt_of_le hj hN.2.1) (by decide) dX7_isLive_17 ?_
      refine lv_if_eq (tgt := 25) hx hb dX7_isLive_18 (by decide) (fun c18 => ?_) (fun c18 => ?_)
      · refine lv_iconst (v := 0) hx hb dX7_isLive_25 (by decide) ?_
        exact hret _ _ _ _ _ _ hS (by simp [mm_isLive, c1, c9, c18, db_nIc hj hn0]) (rfl) dX7_isLive_26
      · refine lv_iconst (v := 1) hx hb dX7_isLive_21 (by decide) ?_
        refine lv_goto (tgt := 26) hx hb dX7_isLive_22 (by decide) ?_
        exact hret _ _ _ _ _ _ hS (by simp [mm_isLive, c1, c9, c18, db_nIc hj hn0]) (rfl) dX7_isLive_26

set_option maxHeartbeats 4000000 in
set_option maxRecDepth 100000 in
theorem c_X7_isPending (l : Launch) (Γ : db_G) (N : Nat → Nat) (L : Nat → Nat → Nat) (X : db_X) (hN : bb_N N) (t : Int32) : db_C l Γ yX7_isPending cX7_isPending 2 (some .boolean) (db_rm 1 21) [.ref (L 0 0), .int t] L mm_ok (mm_cel Γ N L) X (some (.int (mm_isP N X t))) X := by
  have hn0 : N 0 < 2 ^ 31 := by have := hN.2.1; omega
  have hn1 : N 1 < 2 ^ 31 := by have := hN.2.2.1; omega
  have hn2 : N 2 < 2 ^ 31 := by have := hN.2.2.2.1; omega
  have hn3 : N 3 < 2 ^ 31 := by have := hN.2.2.2.2; omega
  refine db_introZ (by decide +kernel) (Nat.le_of_ble_eq_true rfl) (db_01 (Or.inl rfl) (db_01 (Or.inl rfl) (Or.inr rfl))) ?_
  intro p e s m args below meth c A Q ls hC hS hl hret
  have hC : db_Cx p s m args meth c Γ RX7 cX7_isPending 2 (some .boolean) := hC
  obtain ⟨hx, hb, hml, hr, hlocks, hown, hts, hK⟩ := id hC
  have hl : lv_has ls 2 [(0, .ref (L 0 0)), (1, .int t)] := hl
  refine lv_aload_n hx hb dX7_isPending_0 rfl (lv_at hl 0 rfl) ?_
  refine lv_iload_n hx hb dX7_isPending_1 rfl (lv_at hl 1 rfl) ?_
  refine db_cV (As := [.int t]) (rest := []) (st1 := [.int (mm_isLive N X t)]) hC hS 0 0 (mm_k 0 rfl) rfl db_c7 (c_X7_isLive l Γ N L X hN t ) (cw_X7_isLive (Nat.le_of_ble_eq_true rfl) (Nat.le_of_ble_eq_true rfl)) wd_559 wd_561 ws_34 rfl hl.1 rfl (Nat.le_of_ble_eq_true rfl) dX7_isPending_2 ⟨Nat.le_of_ble_eq_true rfl, Nat.le_of_ble_eq_true rfl⟩ rfl (fun H locs hS => ?_)
  refine lv_if_eq (tgt := 21) hx hb dX7_isPending_5 (by decide) (fun c5 => ?_) (fun c5 => ?_)
  · refine lv_iconst (v := 0) hx hb dX7_isPending_21 (by decide) ?_
    exact hret _ _ _ _ _ _ hS (by simp [mm_isP, c5]) (rfl) dX7_isPending_22
  · obtain ⟨j, hj, rfl⟩ := mm_isLive_ix hn0 c5
    refine lv_aload_n hx hb dX7_isPending_8 rfl (lv_at hl 0 rfl) ?_
    refine db_get hx hb hts hown hK hS 0 0 (mm_k 0 rfl) rfl db_c7 17 (by decide) wd_458 rfl dX7_isPending_9 ?_
    refine lv_iload_n hx hb dX7_isPending_12 rfl (lv_at hl 1 rfl) ?_
    refine db_zld hx hb hK hS 17 0 (mm_k 17 rfl) rfl j rfl (Nat.lt_of_lt_of_le hj hN.2.1) (by decide) dX7_isPending_13 ?_
    refine lv_if_eq (tgt := 21) hx hb dX7_isPending_14 (by decide) (fun c14 => ?_) (fun c14 => ?_)
    · refine lv_iconst (v := 0) hx hb dX7_isPending_21 (by decide) ?_
      exact hret _ _ _ _ _ _ hS (by simp [mm_isP, c5, c14, db_nIc hj hn0]) (rfl) dX7_isPending_22
    · refine lv_iconst (v := 1) hx hb dX7_isPending_17 (by decide) ?_
      refine lv_goto (tgt := 22) hx hb dX7_isPending_18 (by decide) ?_
      exact hret _ _ _ _ _ _ hS (by simp [mm_isP, c5, c14, db_nIc hj hn0]) (rfl) dX7_isPending_22

set_option maxHeartbeats 4000000 in
set_option maxRecDepth 100000 in
theorem c_X7_isLock (l : Launch) (Γ : db_G) (N : Nat → Nat) (L : Nat → Nat → Nat) (X : db_X) (hN : bb_N N) (t : Int32) : db_C l Γ yX7_isLock cX7_isLock 2 (some .boolean) (db_rm 0 0) [.ref (L 0 0), .int t] L mm_ok (mm_cel Γ N L) X (some (.int (bb_isLock N t))) X := by
  have hn0 : N 0 < 2 ^ 31 := by have := hN.2.1; omega
  have hn1 : N 1 < 2 ^ 31 := by have := hN.2.2.1; omega
  have hn2 : N 2 < 2 ^ 31 := by have := hN.2.2.2.1; omega
  have hn3 : N 3 < 2 ^ 31 := by have := hN.2.2.2.2; omega
  refine db_introZ (by decide +kernel) (Nat.le_of_ble_eq_true rfl) (db_01 (Or.inl rfl) (db_01 (Or.inl rfl) (Or.inr rfl))) ?_
  intro p e s m args below meth c A Q ls hC hS hl hret
  have hC : db_Cx p s m args meth c Γ RX7 cX7_isLock 2 (some .boolean) := hC
  obtain ⟨hx, hb, hml, hr, hlocks, hown, hts, hK⟩ := id hC
  have hl : lv_has ls 2 [(0, .ref (L 0 0)), (1, .int t)] := hl
  refine lv_iload_n hx hb dX7_isLock_0 rfl (lv_at hl 1 rfl) ?_
  refine lv_if_lt (tgt := 16) hx hb dX7_isLock_1 (by decide) (fun c1 => ?_) (fun c1 => ?_)
  · refine lv_iconst (v := 0) hx hb dX7_isLock_16 (by decide) ?_
    exact hret _ _ _ _ _ _ hS (by simp [bb_isLock, c1]) (rfl) dX7_isLock_17
  · refine lv_iload_n hx hb dX7_isLock_4 rfl (lv_at hl 1 rfl) ?_
    refine lv_aload_n hx hb dX7_isLock_5 rfl (lv_at hl 0 rfl) ?_
    refine db_get hx hb hts hown hK hS 0 0 (mm_k 0 rfl) rfl db_c7 1 (by decide) wd_442 rfl dX7_isLock_6 ?_
    refine lv_icmp_ge (tgt := 16) hx hb dX7_isLock_9 (by decide) (fun c9 => ?_) (fun c9 => ?_)
    · refine lv_iconst (v := 0) hx hb dX7_isLock_16 (by decide) ?_
      exact hret _ _ _ _ _ _ hS (by simp [bb_isLock, c1, c9]) (rfl) dX7_isLock_17
    · refine lv_iconst (v := 1) hx hb dX7_isLock_12 (by decide) ?_
      refine lv_goto (tgt := 17) hx hb dX7_isLock_13 (by decide) ?_
      exact hret _ _ _ _ _ _ hS (by simp [bb_isLock, c1, c9]) (rfl) dX7_isLock_17

set_option maxHeartbeats 4000000 in
set_option maxRecDepth 100000 in
theorem c_X7_reckons (l : Launch) (Γ : db_G) (N : Nat → Nat) (L : Nat → Nat → Nat) (X : db_X) (hN : bb_N N) (sz : Nat) (hI : mm_I N sz X) : db_C l Γ yX7_reckons cX7_reckons 4 (none) (db_rm 2 42) [.ref (L 0 0)] L mm_ok (mm_cel Γ N L) X none (mm_rk N X) := by
  have hn0 : N 0 < 2 ^ 31 := by have := hN.2.1; omega
  have hn1 : N 1 < 2 ^ 31 := by have := hN.2.2.1; omega
  have hn2 : N 2 < 2 ^ 31 := by have := hN.2.2.2.1; omega
  have hn3 : N 3 < 2 ^ 31 := by have := hN.2.2.2.2; omega
  refine db_introV (by decide +kernel) (Nat.le_of_ble_eq_true rfl) ?_
  intro p e s m args below meth c A Q ls hC hS hl hret
  have hC : db_Cx p s m args meth c Γ RX7 cX7_reckons 4 (none) := hC
  obtain ⟨hx, hb, hml, hr, hlocks, hown, hts, hK⟩ := id hC
  have hl : lv_has ls 4 [(0, .ref (L 0 0))] := hl
  refine lv_iconst (v := 0) hx hb dX7_reckons_0 (by decide) ?_
  refine lv_istore_n (lv' := [(1, .int 0), (0, .ref (L 0 0))]) hx hb dX7_reckons_1 rfl hl (by decide) rfl (fun ls hl => ?_)
  have K2 : ∀ (q : Nat) (j : Nat) (Xa : db_X) (hq : N 0 + 1 - j ≤ q) (hj0 : j ≤ N 0) (hsa : mm_s N Xa X) (hFa : ∀ f, f < j → Xa 29 0 f = X 19 0 f) (H : Heap) (locs : List Loc) (hS : db_S Γ A s.heap L mm_ok (mm_cel Γ N L) Xa H locs) (ls : Array Slot) (hl : lv_has ls 4 [(0, .ref (L 0 0)), (1, .int (nI j))]), W p l e (db_rm 2 42) s m args below meth c H locs 0 0 Q (F0 m 2 ls []) := by
    intro q2
    induction q2 with
    | zero =>
      intro j Xa hq2 hj0 hsa hFa
      exact absurd hq2 (by omega)
    | succ q2 ih2 =>
      intro j Xa hq2 hj0 hsa hFa H locs hS ls hl
      refine lv_iload_n hx hb dX7_reckons_2 rfl (lv_at hl 1 rfl) ?_
      refine lv_aload_n hx hb dX7_reckons_3 rfl (lv_at hl 0 rfl) ?_
      refine db_get hx hb hts hown hK hS 0 0 (mm_k 0 rfl) rfl db_c7 0 (by decide) wd_441 rfl dX7_reckons_4 ?_
      refine lv_icmp_ge (tgt := 28) hx hb dX7_reckons_7 (by decide) (fun c7 => ?_) (fun c7 => ?_)
      · have hj : j = N 0 := by
          rcases Nat.lt_or_ge j (N 0) with q9 | q9
          · exact absurd c7 (nI_ge q9 hn0)
          · omega
        refine lv_iconst (v := 1) hx hb dX7_reckons_28 (by decide) ?_
        refine lv_istore_n (lv' := [(1, .int 1), (0, .ref (L 0 0))]) hx hb dX7_reckons_29 rfl hl (by decide) rfl (fun ls hl => ?_)
        have K30 : ∀ (q : Nat) (more : Int32) (Xb : db_X) (dd : Nat) (hq : dd ≤ q) (hsb : mm_s N Xb X) (hAb : ∀ t, t < N 0 → Xb 29 0 t ≤ X 19 0 t) (hCb : ∀ t, t < N 0 → ∃ s, s < N 0 ∧ Xb 29 0 t = X 19 0 s ∧ ∃ m, db_it (mm_nx N X) m (nI s) = nI t) (hB : more = 0 → ∀ s t, s < N 0 → t < N 0 → mm_nx N X s = nI t → Xb 29 0 t ≤ Xb 29 0 s) (hd : 2 * mm_sum (fun i => Xb 29 0 i) (N 0) + mm_b more < dd) (H : Heap) (locs : List Loc) (hS : db_S Γ A s.heap L mm_ok (mm_cel Γ N L) Xb H locs) (ls : Array Slot) (hl : lv_has ls 4 [(0, .ref (L 0 0)), (1, .int more)]), W p l e (db_rm 2 42) s m args below meth c H locs 0 0 Q (F0 m 30 ls []) := by
          intro q30
          induction q30 with
          | zero =>
            intro more Xb dd hq30 hsb hAb hCb hB hd
            exact absurd hq30 (by omega)
          | succ q30 ih30 =>
            intro more Xb dd hq30 hsb hAb hCb hB hd H locs hS ls hl
            refine lv_iload_n hx hb dX7_reckons_30 rfl (lv_at hl 1 rfl) ?_
            refine lv_if_eq (tgt := 125) hx hb dX7_reckons_31 (by decide) (fun c31 => ?_) (fun c31 => ?_)
            · exact hret _ _ _ _ _ hS (mm_rk_of hN hI hsb ⟨hAb, hB c31, hCb⟩) dX7_reckons_125
            · refine lv_iconst (v := 0) hx hb dX7_reckons_34 (by decide) ?_
              refine lv_istore_n (lv' := [(1, .int 0), (0, .ref (L 0 0))]) hx hb dX7_reckons_35 rfl hl (by decide) rfl (fun ls hl => ?_)
              refine lv_iconst (v := 0) hx hb dX7_reckons_36 (by decide) ?_
              refine lv_istore_n (lv' := [(2, .int 0), (1, .int 0), (0, .ref (L 0 0))]) hx hb dX7_reckons_37 rfl hl (by decide) rfl (fun ls hl => ?_)
              have K38 : ∀ (q : Nat) (t : Nat) (mo : Int32) (Xc : db_X) (hq : N 0 + 1 - t ≤ q) (ht0 : t ≤ N 0) (hsc : mm_s N Xc X) (hAc : ∀ t, t < N 0 → Xc 29 0 t ≤ X 19 0 t) (hCc : ∀ t, t < N 0 → ∃ s, s < N 0 ∧ Xc 29 0 t = X 19 0 s ∧ ∃ m, db_it (mm_nx N X) m (nI s) = nI t) (hmo : (mo = 0 ∧ Xc = Xb ∧ ∀ s, s < t → ∀ u, u < N 0 → mm_nx N X s = nI u → Xc 29 0 u ≤ Xc 29 0 s) ∨ (mo = 1 ∧ mm_sum (fun i => Xc 29 0 i) (N 0) < mm_sum (fun i => Xb 29 0 i) (N 0))) (H : Heap) (locs : List Loc) (hS : db_S Γ A s.heap L mm_ok (mm_cel Γ N L) Xc H locs) (ls : Array Slot) (hl : lv_has ls 4 [(0, .ref (L 0 0)), (1, .int mo), (2, .int (nI t))]), W p l e (db_rm 2 42) s m args below meth c H locs 0 0 Q (F0 m 38 ls []) := by
                intro q38
                induction q38 with
                | zero =>
                  intro t mo Xc hq38 ht0 hsc hAc hCc hmo
                  exact absurd hq38 (by omega)
                | succ q38 ih38 =>
                  intro t mo Xc hq38 ht0 hsc hAc hCc hmo H locs hS ls hl
                  have hIc : mm_I N sz Xc := hsc.I hI
                  refine lv_iload_n hx hb dX7_reckons_38 rfl (lv_at hl 2 rfl) ?_
                  refine lv_aload_n hx hb dX7_reckons_39 rfl (lv_at hl 0 rfl) ?_
                  refine db_get hx hb hts hown hK hS 0 0 (mm_k 0 rfl) rfl db_c7 0 (by decide) wd_441 rfl dX7_reckons_40 ?_
                  refine lv_icmp_ge (tgt := 122) hx hb dX7_reckons_43 (by decide) (fun c43 => ?_) (fun c43 => ?_)
                  · have ht : t = N 0 := by
                      rcases Nat.lt_or_ge t (N 0) with q9 | q9
                      · exact absurd c43 (nI_ge q9 hn0)
                      · omega
                    refine lv_goto (tgt := 30) hx hb dX7_reckons_122 (by decide) ?_
                    have hBn : mo = 0 → ∀ s t, s < N 0 → t < N 0 → mm_nx N X s = nI t → Xc 29 0 t ≤ Xc 29 0 s := by
                      intro q9 s9 t9 hs9 ht9 e9
                      rcases hmo with ⟨h1, h2, h3⟩ | ⟨h1, h2⟩
                      · exact h3 s9 (by omega) t9 ht9 e9
                      · rw [h1] at q9; exact absurd q9 (by decide)
                    have hnew : 2 * mm_sum (fun i => Xc 29 0 i) (N 0) + mm_b mo + 1 ≤ q30 := by
                      have hb1 : mm_b more = 1 := by unfold mm_b; rw [if_neg c31]
                      rcases hmo with ⟨h1, h2, -⟩ | ⟨h1, h2⟩
                      · have hb0 : mm_b mo = 0 := by rw [h1]; rfl
                        rw [h2]; omega
                      · have hb0 : mm_b mo = 1 := by rw [h1]; rfl
                        omega
                    exact ih30 mo Xc (2 * mm_sum (fun i => Xc 29 0 i) (N 0) + mm_b mo + 1) (by omega) hsc hAc hCc hBn (by omega) _ _ hS _ (lv_sub hl [0, 1] rfl)
                  · have ht : t < N 0 := by
                      rcases Nat.lt_or_ge t (N 0) with q9 | q9
                      · exact q9
                      · exact absurd (nI_le q9 (by omega)) c43
                    refine lv_aload_n hx hb dX7_reckons_46 rfl (lv_at hl 0 rfl) ?_
                    refine lv_iload_n hx hb dX7_reckons_47 rfl (lv_at hl 2 rfl) ?_
                    refine db_cV (As := [.int (nI t)]) (rest := []) (st1 := [.int (mm_isP N Xc (nI t))]) hC hS 0 0 (mm_k 0 rfl) rfl db_c7 (c_X7_isPending l Γ N L Xc hN (nI t) ) (cw_X7_isPending (Nat.le_of_ble_eq_true rfl) (Nat.le_of_ble_eq_true rfl)) wd_591 wd_593 ws_41 rfl hl.1 rfl (Nat.le_of_ble_eq_true rfl) dX7_reckons_48 ⟨Nat.le_of_ble_eq_true rfl, Nat.le_of_ble_eq_true rfl⟩ rfl (fun H locs hS => ?_)
                    refine lv_if_eq (tgt := 116) hx hb dX7_reckons_51 (by decide) (fun c51 => ?_) (fun c51 => ?_)
                    · refine lv_iinc (v := (nI (t + 1))) (lv' := [(2, .int (nI (t + 1))), (0, .ref (L 0 0)), (1, .int mo)]) hx hb dX7_reckons_116 hl (k := 2) rfl (nI_1 _) (by decide) rfl (fun ls hl => ?_)
                      refine lv_goto (tgt := 38) hx hb dX7_reckons_119 (by decide) ?_
                      have hmn : (mo = 0 ∧ Xc = Xb ∧ ∀ s, s < t + 1 → ∀ u, u < N 0 → mm_nx N X s = nI u → Xc 29 0 u ≤ Xc 29 0 s) ∨ (mo = 1 ∧ mm_sum (fun i => Xc 29 0 i) (N 0) < mm_sum (fun i => Xb 29 0 i) (N 0)) := by
                        rcases hmo with ⟨h1, h2, h3⟩ | h1
                        · refine Or.inl ⟨h1, h2, fun s9 hs9 u9 hu9 e9 => ?_⟩
                          by_cases q9 : s9 = t
                          · rw [q9] at e9 ⊢
                            rw [mm_nx, ← hsc.isP, if_pos c51] at e9; exact absurd e9.symm (nI_ne1 (by omega))
                          · exact h3 s9 (by omega) u9 hu9 e9
                        · exact Or.inr h1
                      exact ih38 (t + 1) mo Xc (by omega) ht hsc hAc hCc hmn _ _ hS _ (lv_sub hl [1, 2, 0] rfl)
                    · refine lv_aload_n hx hb dX7_reckons_54 rfl (lv_at hl 0 rfl) ?_
                      refine db_get hx hb hts hown hK hS 0 0 (mm_k 0 rfl) rfl db_c7 21 (by decide) wd_462 rfl dX7_reckons_55 ?_
                      refine lv_iload_n hx hb dX7_reckons_58 rfl (lv_at hl 2 rfl) ?_
                      refine db_ild hx hb hK hS 21 0 (mm_k 21 rfl) rfl t rfl (Nat.lt_of_lt_of_le ht hN.2.1) (by decide) dX7_reckons_59 ?_
                      refine lv_iconst (v := -1) hx hb dX7_reckons_60 (by decide) ?_
                      refine lv_icmp_ne (tgt := 67) hx hb dX7_reckons_61 (by decide) (fun c61 => ?_) (fun c61 => ?_)
                      · have hwin : db_in (Xc 21 0 t) (N 1) := (hIc.1 t ht).resolve_left c61
                        refine lv_aload_n hx hb dX7_reckons_67 rfl (lv_at hl 0 rfl) ?_
                        refine db_get hx hb hts hown hK hS 0 0 (mm_k 0 rfl) rfl db_c7 23 (by decide) wd_464 rfl dX7_reckons_68 ?_
                        refine lv_aload_n hx hb dX7_reckons_71 rfl (lv_at hl 0 rfl) ?_
                        refine db_get hx hb hts hown hK hS 0 0 (mm_k 0 rfl) rfl db_c7 21 (by decide) wd_462 rfl dX7_reckons_72 ?_
                        refine lv_iload_n hx hb dX7_reckons_75 rfl (lv_at hl 2 rfl) ?_
                        refine db_ild hx hb hK hS 21 0 (mm_k 21 rfl) rfl t rfl (Nat.lt_of_lt_of_le ht hN.2.1) (by decide) dX7_reckons_76 ?_
                        refine db_ild hx hb hK hS 23 0 (mm_k 23 rfl) rfl ((Xc 21 0 t).toNatClampNeg) (hwin.eq hn1) (Nat.lt_of_lt_of_le (hwin.lt hn1) hN.2.2.1) (by decide) dX7_reckons_77 ?_
                        refine lv_istore_n (lv' := [(3, .int (Xc 23 0 ((Xc 21 0 t).toNatClampNeg))), (0, .ref (L 0 0)), (1, .int mo), (2, .int (nI t))]) hx hb dX7_reckons_78 rfl hl (by decide) rfl (fun ls hl => ?_)
                        refine lv_iload_n hx hb dX7_reckons_79 rfl (lv_at hl 0 rfl) ?_
                        refine lv_iconst (v := -1) hx hb dX7_reckons_80 (by decide) ?_
                        refine lv_icmp_eq (tgt := 116) hx hb dX7_reckons_81 (by decide) (fun c81 => ?_) (fun c81 => ?_)
                        · refine lv_iinc (v := (nI (t + 1))) (lv' := [(2, .int (nI (t + 1))), (3, .int (Xc 23 0 ((Xc 21 0 t).toNatClampNeg))), (0, .ref (L 0 0)), (1, .int mo)]) hx hb dX7_reckons_116 hl (k := 3) rfl (nI_1 _) (by decide) rfl (fun ls hl => ?_)
                          refine lv_goto (tgt := 38) hx hb dX7_reckons_119 (by decide) ?_
                          have hmn : (mo = 0 ∧ Xc = Xb ∧ ∀ s, s < t + 1 → ∀ u, u < N 0 → mm_nx N X s = nI u → Xc 29 0 u ≤ Xc 29 0 s) ∨ (mo = 1 ∧ mm_sum (fun i => Xc 29 0 i) (N 0) < mm_sum (fun i => Xb 29 0 i) (N 0)) := by
                            rcases hmo with ⟨h1, h2, h3⟩ | h1
                            · refine Or.inl ⟨h1, h2, fun s9 hs9 u9 hu9 e9 => ?_⟩
                              by_cases q9 : s9 = t
                              · rw [q9] at e9 ⊢
                                rw [mm_nx, ← hsc.isP, if_neg c51, ← hsc 21 0 t (by simp), if_neg c61, ← hsc 23 0 _ (by simp), c81] at e9; exact absurd e9.symm (nI_ne1 (by omega))
                              · exact h3 s9 (by omega) u9 hu9 e9
                            · exact Or.inr h1
                          exact ih38 (t + 1) mo Xc (by omega) ht hsc hAc hCc hmn _ _ hS _ (lv_sub hl [2, 3, 0] rfl)
                        · have hhin : db_in (Xc 23 0 (Xc 21 0 t).toNatClampNeg) (N 0) := (hIc.2.1 _ (hwin.lt hn1)).resolve_left c81
                          refine lv_aload_n hx hb dX7_reckons_84 rfl (lv_at hl 1 rfl) ?_
                          refine db_get hx hb hts hown hK hS 0 0 (mm_k 0 rfl) rfl db_c7 29 (by decide) wd_470 rfl dX7_reckons_85 ?_
                          refine lv_iload_n hx hb dX7_reckons_88 rfl (lv_at hl 0 rfl) ?_
                          refine db_ild hx hb hK hS 29 0 (mm_k 29 rfl) rfl ((Xc 23 0 ((Xc 21 0 t).toNatClampNeg)).toNatClampNeg) (hhin.eq hn0) (Nat.lt_of_lt_of_le (hhin.lt hn0) hN.2.1) (by decide) dX7_reckons_89 ?_
                          refine lv_aload_n hx hb dX7_reckons_90 rfl (lv_at hl 1 rfl) ?_
                          refine db_get hx hb hts hown hK hS 0 0 (mm_k 0 rfl) rfl db_c7 29 (by decide) wd_470 rfl dX7_reckons_91 ?_
                          refine lv_iload_n hx hb dX7_reckons_94 rfl (lv_at hl 3 rfl) ?_
                          refine db_ild hx hb hK hS 29 0 (mm_k 29 rfl) rfl t rfl (Nat.lt_of_lt_of_le ht hN.2.1) (by decide) dX7_reckons_95 ?_
                          refine lv_icmp_gt (tgt := 102) hx hb dX7_reckons_96 (by decide) (fun c96 => ?_) (fun c96 => ?_)
                          · refine lv_aload_n hx hb dX7_reckons_102 rfl (lv_at hl 1 rfl) ?_
                            refine db_get hx hb hts hown hK hS 0 0 (mm_k 0 rfl) rfl db_c7 29 (by decide) wd_470 rfl dX7_reckons_103 ?_
                            refine lv_iload_n hx hb dX7_reckons_106 rfl (lv_at hl 0 rfl) ?_
                            refine lv_aload_n hx hb dX7_reckons_107 rfl (lv_at hl 1 rfl) ?_
                            refine db_get hx hb hts hown hK hS 0 0 (mm_k 0 rfl) rfl db_c7 29 (by decide) wd_470 rfl dX7_reckons_108 ?_
                            refine lv_iload_n hx hb dX7_reckons_111 rfl (lv_at hl 3 rfl) ?_
                            refine db_ild hx hb hK hS 29 0 (mm_k 29 rfl) rfl t rfl (Nat.lt_of_lt_of_le ht hN.2.1) (by decide) dX7_reckons_112 ?_
                            refine db_ist hx hb hK hS 29 0 (mm_k 29 rfl) (fun _ => rfl) ((Xc 23 0 ((Xc 21 0 t).toNatClampNeg)).toNatClampNeg) (hhin.eq hn0) (Nat.lt_of_lt_of_le (hhin.lt hn0) hN.2.1) (by decide) dX7_reckons_113 (fun H locs hS => ?_)
                            obtain ⟨X1, eX1⟩ : ∃ z, z = db_up Xc 29 0 ((Xc 23 0 ((Xc 21 0 t).toNatClampNeg)).toNatClampNeg) (Xc 29 0 t) := ⟨_, rfl⟩
                            rw [← eX1] at hS
                            refine lv_iconst (v := 1) hx hb dX7_reckons_114 (by decide) ?_
                            refine lv_istore_n (lv' := [(1, .int 1), (3, .int (Xc 23 0 ((Xc 21 0 t).toNatClampNeg))), (0, .ref (L 0 0)), (2, .int (nI t))]) hx hb dX7_reckons_115 rfl hl (by decide) rfl (fun ls hl => ?_)
                            refine lv_iinc (v := (nI (t + 1))) (lv' := [(2, .int (nI (t + 1))), (1, .int 1), (3, .int (Xc 23 0 ((Xc 21 0 t).toNatClampNeg))), (0, .ref (L 0 0))]) hx hb dX7_reckons_116 hl (k := 3) rfl (nI_1 _) (by decide) rfl (fun ls hl => ?_)
                            refine lv_goto (tgt := 38) hx hb dX7_reckons_119 (by decide) ?_
                            have hh : db_in (Xc 23 0 (Xc 21 0 t).toNatClampNeg) (N 0) := hhin
                            have hedge : mm_nx N X t = nI (Xc 23 0 (Xc 21 0 t).toNatClampNeg).toNatClampNeg := by rw [mm_nx, ← hsc.isP, if_neg c51, ← hsc 21 0 t (by simp), if_neg c61, ← hsc 23 0 _ (by simp)]; exact hh.eq hn0
                            have hs1 : mm_s N X1 X := by rw [eX1]; exact (mm_s.up (hh.lt hn0)).tr hsc
                            have hv1 : ∀ u, X1 29 0 u = if u = (Xc 23 0 (Xc 21 0 t).toNatClampNeg).toNatClampNeg then Xc 29 0 t else Xc 29 0 u := by intro u; rw [eX1]; by_cases q9 : u = (Xc 23 0 (Xc 21 0 t).toNatClampNeg).toNatClampNeg <;> simp [db_up, q9]
                            have hA1 : ∀ u, u < N 0 → X1 29 0 u ≤ X 19 0 u := by
                              intro u hu
                              rw [hv1]
                              split
                              · rename_i q9; exact Int32.le_trans (by rw [q9]; exact Int32.le_of_lt c96) (hAc u hu)
                              · exact hAc u hu
                            have hC1 : ∀ u, u < N 0 → ∃ s, s < N 0 ∧ X1 29 0 u = X 19 0 s ∧ ∃ m, db_it (mm_nx N X) m (nI s) = nI u := by
                              intro u hu
                              rw [hv1]
                              split
                              · rename_i q9
                                obtain ⟨s9, h1, h2, m9, h3⟩ := hCc t ht
                                exact ⟨s9, h1, h2, m9 + 1, by rw [db_it_add, h3, db_it_s (by omega), q9]; exact hedge⟩
                              · exact hCc u hu
                            have hm1 : mm_sum (fun i => X1 29 0 i) (N 0) < mm_sum (fun i => Xb 29 0 i) (N 0) := by
                              have h1 : mm_sum (fun i => X1 29 0 i) (N 0) < mm_sum (fun i => Xc 29 0 i) (N 0) := mm_sum_lt (h := (Xc 23 0 (Xc 21 0 t).toNatClampNeg).toNatClampNeg) (by show X1 29 0 _ < Xc 29 0 _; rw [hv1, if_pos rfl]; exact c96) (N 0) (hh.lt hn0) (fun i hi q9 => by show X1 29 0 i = Xc 29 0 i; rw [hv1, if_neg q9])
                              rcases hmo with ⟨-, h2, -⟩ | ⟨-, h2⟩
                              · rw [← h2]; exact h1
                              · omega
                            exact ih38 (t + 1) 1 X1 (by omega) ht hs1 hA1 hC1 (Or.inr ⟨rfl, hm1⟩) _ _ hS _ (lv_sub hl [3, 1, 0] rfl)
                          · refine lv_goto (tgt := 116) hx hb dX7_reckons_99 (by decide) ?_
                            refine lv_iinc (v := (nI (t + 1))) (lv' := [(2, .int (nI (t + 1))), (3, .int (Xc 23 0 ((Xc 21 0 t).toNatClampNeg))), (0, .ref (L 0 0)), (1, .int mo)]) hx hb dX7_reckons_116 hl (k := 3) rfl (nI_1 _) (by decide) rfl (fun ls hl => ?_)
                            refine lv_goto (tgt := 38) hx hb dX7_reckons_119 (by decide) ?_
                            have hmn : (mo = 0 ∧ Xc = Xb ∧ ∀ s, s < t + 1 → ∀ u, u < N 0 → mm_nx N X s = nI u → Xc 29 0 u ≤ Xc 29 0 s) ∨ (mo = 1 ∧ mm_sum (fun i => Xc 29 0 i) (N 0) < mm_sum (fun i => Xb 29 0 i) (N 0)) := by
                              rcases hmo with ⟨h1, h2, h3⟩ | h1
                              · refine Or.inl ⟨h1, h2, fun s9 hs9 u9 hu9 e9 => ?_⟩
                                by_cases q9 : s9 = t
                                · rw [q9] at e9 ⊢
                                  rw [mm_nx, ← hsc.isP, if_neg c51, ← hsc 21 0 t (by simp), if_neg c61, ← hsc 23 0 _ (by simp)] at e9; rw [e9, nI_clamp (by omega)] at c96; exact Int32.not_lt.mp c96
                                · exact h3 s9 (by omega) u9 hu9 e9
                              · exact Or.inr h1
                            exact ih38 (t + 1) mo Xc (by omega) ht hsc hAc hCc hmn _ _ hS _ (lv_sub hl [2, 3, 0] rfl)
                      · refine lv_goto (tgt := 116) hx hb dX7_reckons_64 (by decide) ?_
                        refine lv_iinc (v := (nI (t + 1))) (lv' := [(2, .int (nI (t + 1))), (0, .ref (L 0 0)), (1, .int mo)]) hx hb dX7_reckons_116 hl (k := 2) rfl (nI_1 _) (by decide) rfl (fun ls hl => ?_)
                        refine lv_goto (tgt := 38) hx hb dX7_reckons_119 (by decide) ?_
                        have hmn : (mo = 0 ∧ Xc = Xb ∧ ∀ s, s < t + 1 → ∀ u, u < N 0 → mm_nx N X s = nI u → Xc 29 0 u ≤ Xc 29 0 s) ∨ (mo = 1 ∧ mm_sum (fun i => Xc 29 0 i) (N 0) < mm_sum (fun i => Xb 29 0 i) (N 0)) := by
                          rcases hmo with ⟨h1, h2, h3⟩ | h1
                          · refine Or.inl ⟨h1, h2, fun s9 hs9 u9 hu9 e9 => ?_⟩
                            by_cases q9 : s9 = t
                            · rw [q9] at e9 ⊢
                              rw [mm_nx, ← hsc.isP, if_neg c51, ← hsc 21 0 t (by simp), if_pos c61] at e9; exact absurd e9.symm (nI_ne1 (by omega))
                            · exact h3 s9 (by omega) u9 hu9 e9
                          · exact Or.inr h1
                        exact ih38 (t + 1) mo Xc (by omega) ht hsc hAc hCc hmn _ _ hS _ (lv_sub hl [1, 2, 0] rfl)
              exact K38 _ 0 0 Xb (Nat.le_refl _) (Nat.zero_le _) hsb hAb hCb (Or.inl ⟨rfl, rfl, fun s hs => absurd hs (by omega)⟩) _ _ hS _ (lv_sub hl [2, 1, 0] rfl)
        exact K30 _ 1 Xa (2 * mm_sum (fun i => Xa 29 0 i) (N 0) + mm_b 1 + 1) (Nat.le_refl _) hsa (fun t ht => by rw [hFa t (by omega)]; exact Int32.le_refl _) (fun t ht => ⟨t, ht, hFa t (by omega), 0, rfl⟩) (fun q9 => absurd q9 (by decide)) (by omega) _ _ hS _ (lv_sub hl [1, 0] rfl)
      · have hj : j < N 0 := by
          rcases Nat.lt_or_ge j (N 0) with q9 | q9
          · exact q9
          · exact absurd (nI_le q9 (by omega)) c7
        refine lv_aload_n hx hb dX7_reckons_10 rfl (lv_at hl 0 rfl) ?_
        refine db_get hx hb hts hown hK hS 0 0 (mm_k 0 rfl) rfl db_c7 29 (by decide) wd_470 rfl dX7_reckons_11 ?_
        refine lv_iload_n hx hb dX7_reckons_14 rfl (lv_at hl 1 rfl) ?_
        refine lv_aload_n hx hb dX7_reckons_15 rfl (lv_at hl 0 rfl) ?_
        refine db_get hx hb hts hown hK hS 0 0 (mm_k 0 rfl) rfl db_c7 19 (by decide) wd_460 rfl dX7_reckons_16 ?_
        refine lv_iload_n hx hb dX7_reckons_19 rfl (lv_at hl 1 rfl) ?_
        refine db_ild hx hb hK hS 19 0 (mm_k 19 rfl) rfl j rfl (Nat.lt_of_lt_of_le hj hN.2.1) (by decide) dX7_reckons_20 ?_
        refine db_ist hx hb hK hS 29 0 (mm_k 29 rfl) (fun _ => rfl) j rfl (Nat.lt_of_lt_of_le hj hN.2.1) (by decide) dX7_reckons_21 (fun H locs hS => ?_)
        obtain ⟨X2, eX2⟩ : ∃ z, z = db_up Xa 29 0 j (Xa 19 0 j) := ⟨_, rfl⟩
        rw [← eX2] at hS
        refine lv_iinc (v := (nI (j + 1))) (lv' := [(1, .int (nI (j + 1))), (0, .ref (L 0 0))]) hx hb dX7_reckons_22 hl (k := 1) rfl (nI_1 _) (by decide) rfl (fun ls hl => ?_)
        refine lv_goto (tgt := 2) hx hb dX7_reckons_25 (by decide) ?_
        have hFn : ∀ f, f < j + 1 → X2 29 0 f = X 19 0 f := by
          intro f hf
          rw [eX2]
          by_cases q9 : f = j
          · subst q9; simp [db_up]; exact hsa 19 0 f (by simp)
          · simp [db_up, q9]; exact hFa f (by omega)
        exact ih2 (j + 1) X2 (by omega) hj (by rw [eX2]; exact (mm_s.up hj).tr hsa) hFn _ _ hS _ (lv_sub hl [1, 0] rfl)
  exact K2 _ 0 X (Nat.le_refl _) (Nat.zero_le _) mm_s.rf (fun f hf => absurd hf (by omega)) _ _ hS _ (lv_sub hl [1, 0] rfl)

set_option maxHeartbeats 4000000 in
set_option maxRecDepth 100000 in
theorem c_X7_ahead (l : Launch) (Γ : db_G) (N : Nat → Nat) (L : Nat → Nat → Nat) (X : db_X) (hN : bb_N N) (a : Int32) (sz : Nat) (hI : mm_I N sz X) : db_C l Γ yX7_ahead cX7_ahead 4 (some .int) (db_rm 3 65) [.ref (L 0 0), .int a] L mm_ok (mm_cel Γ N L) X (some (.int (mm_ahead N (mm_rk N X) a))) (mm_rk N X) := by
  have hn0 : N 0 < 2 ^ 31 := by have := hN.2.1; omega
  have hn1 : N 1 < 2 ^ 31 := by have := hN.2.2.1; omega
  have hn2 : N 2 < 2 ^ 31 := by have := hN.2.2.2.1; omega
  have hn3 : N 3 < 2 ^ 31 := by have := hN.2.2.2.2; omega
  refine db_introI (by decide +kernel) (Nat.le_of_ble_eq_true rfl) ?_
  intro p e s m args below meth c A Q ls hC hS hl hret
  have hC : db_Cx p s m args meth c Γ RX7 cX7_ahead 4 (some .int) := hC
  obtain ⟨hx, hb, hml, hr, hlocks, hown, hts, hK⟩ := id hC
  have hl : lv_has ls 4 [(0, .ref (L 0 0)), (1, .int a)] := hl
  refine lv_aload_n hx hb dX7_ahead_0 rfl (lv_at hl 0 rfl) ?_
  refine db_cV (As := []) (rest := []) (st1 := []) hC hS 0 0 (mm_k 0 rfl) rfl db_c7 (c_X7_reckons l Γ N L X hN sz hI) (cw_X7_reckons (Nat.le_of_ble_eq_true rfl) (Nat.le_of_ble_eq_true rfl)) wd_587 wd_589 ws_40 rfl hl.1 rfl (Nat.le_of_ble_eq_true rfl) dX7_ahead_1 ⟨Nat.le_of_ble_eq_true rfl, Nat.le_of_ble_eq_true rfl⟩ rfl (fun H locs hS => ?_)
  obtain ⟨X1, eX1⟩ : ∃ z, z = mm_rk N X := ⟨_, rfl⟩
  rw [← eX1] at hS
  obtain ⟨Xr, eXr⟩ : ∃ z, z = X1 := ⟨_, rfl⟩
  rw [← eXr] at hS
  refine lv_iconst (v := -1) hx hb dX7_ahead_4 (by decide) ?_
  refine lv_istore_n (lv' := [(2, .int (-1)), (0, .ref (L 0 0)), (1, .int a)]) hx hb dX7_ahead_5 rfl hl (by decide) rfl (fun ls hl => ?_)
  refine lv_iconst (v := 0) hx hb dX7_ahead_6 (by decide) ?_
  refine lv_istore_n (lv' := [(3, .int 0), (2, .int (-1)), (0, .ref (L 0 0)), (1, .int a)]) hx hb dX7_ahead_7 rfl hl (by decide) rfl (fun ls hl => ?_)
  have K8 : ∀ (q : Nat) (j : Nat) (f : Int32) (hq : N 0 + 1 - j ≤ q) (hj0 : j ≤ N 0) (ef : f = db_ah (fun j => decide (¬ mm_isP N Xr (nI j) = 0 ∧ Xr 21 0 j = a)) (fun j => Xr 29 0 j) j) (H : Heap) (locs : List Loc) (hS : db_S Γ A s.heap L mm_ok (mm_cel Γ N L) Xr H locs) (ls : Array Slot) (hl : lv_has ls 4 [(0, .ref (L 0 0)), (1, .int a), (2, .int f), (3, .int (nI j))]), W p l e (db_rm 3 65) s m args below meth c H locs 0 0 Q (F0 m 8 ls []) := by
    intro q8
    induction q8 with
    | zero =>
      intro j f hq8 hj0 ef
      exact absurd hq8 (by omega)
    | succ q8 ih8 =>
      intro j f hq8 hj0 ef H locs hS ls hl
      refine lv_iload_n hx hb dX7_ahead_8 rfl (lv_at hl 3 rfl) ?_
      refine lv_aload_n hx hb dX7_ahead_9 rfl (lv_at hl 0 rfl) ?_
      refine db_get hx hb hts hown hK hS 0 0 (mm_k 0 rfl) rfl db_c7 0 (by decide) wd_441 rfl dX7_ahead_10 ?_
      refine lv_icmp_ge (tgt := 65) hx hb dX7_ahead_13 (by decide) (fun c13 => ?_) (fun c13 => ?_)
      · have hj : j = N 0 := by
          rcases Nat.lt_or_ge j (N 0) with q9 | q9
          · exact absurd c13 (nI_ge q9 hn0)
          · omega
        refine lv_iload_n hx hb dX7_ahead_65 rfl (lv_at hl 2 rfl) ?_
        exact hret _ _ _ _ _ _ hS (by rw [ef, hj, eXr, eX1]; rfl) (by rw [eXr, eX1]) dX7_ahead_66
      · have hj : j < N 0 := by
          rcases Nat.lt_or_ge j (N 0) with q9 | q9
          · exact q9
          · exact absurd (nI_le q9 (by omega)) c13
        refine lv_aload_n hx hb dX7_ahead_16 rfl (lv_at hl 0 rfl) ?_
        refine lv_iload_n hx hb dX7_ahead_17 rfl (lv_at hl 3 rfl) ?_
        refine db_cV (As := [.int (nI j)]) (rest := []) (st1 := [.int (mm_isP N Xr (nI j))]) hC hS 0 0 (mm_k 0 rfl) rfl db_c7 (c_X7_isPending l Γ N L Xr hN (nI j) ) (cw_X7_isPending (Nat.le_of_ble_eq_true rfl) (Nat.le_of_ble_eq_true rfl)) wd_591 wd_593 ws_41 rfl hl.1 rfl (Nat.le_of_ble_eq_true rfl) dX7_ahead_18 ⟨Nat.le_of_ble_eq_true rfl, Nat.le_of_ble_eq_true rfl⟩ rfl (fun H locs hS => ?_)
        refine lv_if_eq (tgt := 59) hx hb dX7_ahead_21 (by decide) (fun c21 => ?_) (fun c21 => ?_)
        · refine lv_iinc (v := (nI (j + 1))) (lv' := [(3, .int (nI (j + 1))), (0, .ref (L 0 0)), (1, .int a), (2, .int f)]) hx hb dX7_ahead_59 hl (k := 3) rfl (nI_1 _) (by decide) rfl (fun ls hl => ?_)
          refine lv_goto (tgt := 8) hx hb dX7_ahead_62 (by decide) ?_
          exact ih8 (j + 1) f (by omega) hj (by rw [db_ah, ← ef, if_neg (by simp [c21])]) _ _ hS _ (lv_sub hl [1, 2, 3, 0] rfl)
        · refine lv_aload_n hx hb dX7_ahead_24 rfl (lv_at hl 0 rfl) ?_
          refine db_get hx hb hts hown hK hS 0 0 (mm_k 0 rfl) rfl db_c7 21 (by decide) wd_462 rfl dX7_ahead_25 ?_
          refine lv_iload_n hx hb dX7_ahead_28 rfl (lv_at hl 3 rfl) ?_
          refine db_ild hx hb hK hS 21 0 (mm_k 21 rfl) rfl j rfl (Nat.lt_of_lt_of_le hj hN.2.1) (by decide) dX7_ahead_29 ?_
          refine lv_iload_n hx hb dX7_ahead_30 rfl (lv_at hl 1 rfl) ?_
          refine lv_icmp_eq (tgt := 37) hx hb dX7_ahead_31 (by decide) (fun c31 => ?_) (fun c31 => ?_)
          · refine lv_iload_n hx hb dX7_ahead_37 rfl (lv_at hl 2 rfl) ?_
            refine lv_iconst (v := -1) hx hb dX7_ahead_38 (by decide) ?_
            refine lv_icmp_eq (tgt := 57) hx hb dX7_ahead_39 (by decide) (fun c39 => ?_) (fun c39 => ?_)
            · refine lv_iload_n hx hb dX7_ahead_57 rfl (lv_at hl 3 rfl) ?_
              refine lv_istore_n (lv' := [(2, .int (nI j)), (0, .ref (L 0 0)), (1, .int a), (3, .int (nI j))]) hx hb dX7_ahead_58 rfl hl (by decide) rfl (fun ls hl => ?_)
              refine lv_iinc (v := (nI (j + 1))) (lv' := [(3, .int (nI (j + 1))), (2, .int (nI j)), (0, .ref (L 0 0)), (1, .int a)]) hx hb dX7_ahead_59 hl (k := 3) rfl (nI_1 _) (by decide) rfl (fun ls hl => ?_)
              refine lv_goto (tgt := 8) hx hb dX7_ahead_62 (by decide) ?_
              exact ih8 (j + 1) (nI j) (by omega) hj (by rw [db_ah, ← ef, if_pos (by simp [c21, c31]), if_pos c39]) _ _ hS _ (lv_sub hl [2, 3, 1, 0] rfl)
            · have hin : db_in f (N 0) := by
                rcases db_ah_in (sel := fun j => decide (¬ mm_isP N Xr (nI j) = 0 ∧ Xr 21 0 j = a)) (ef := fun j => Xr 29 0 j) j with q9 | ⟨w, q1, q2, -⟩
                · exact absurd (ef.trans q9) c39
                · exact ⟨w, by omega, ef.trans q2⟩
              refine lv_aload_n hx hb dX7_ahead_42 rfl (lv_at hl 0 rfl) ?_
              refine db_get hx hb hts hown hK hS 0 0 (mm_k 0 rfl) rfl db_c7 29 (by decide) wd_470 rfl dX7_ahead_43 ?_
              refine lv_iload_n hx hb dX7_ahead_46 rfl (lv_at hl 3 rfl) ?_
              refine db_ild hx hb hK hS 29 0 (mm_k 29 rfl) rfl j rfl (Nat.lt_of_lt_of_le hj hN.2.1) (by decide) dX7_ahead_47 ?_
              refine lv_aload_n hx hb dX7_ahead_48 rfl (lv_at hl 0 rfl) ?_
              refine db_get hx hb hts hown hK hS 0 0 (mm_k 0 rfl) rfl db_c7 29 (by decide) wd_470 rfl dX7_ahead_49 ?_
              refine lv_iload_n hx hb dX7_ahead_52 rfl (lv_at hl 2 rfl) ?_
              refine db_ild hx hb hK hS 29 0 (mm_k 29 rfl) rfl f.toNatClampNeg (hin.eq hn0) (Nat.lt_of_lt_of_le (hin.lt hn0) hN.2.1) (by decide) dX7_ahead_53 ?_
              refine lv_icmp_ge (tgt := 59) hx hb dX7_ahead_54 (by decide) (fun c54 => ?_) (fun c54 => ?_)
              · refine lv_iinc (v := (nI (j + 1))) (lv' := [(3, .int (nI (j + 1))), (0, .ref (L 0 0)), (1, .int a), (2, .int f)]) hx hb dX7_ahead_59 hl (k := 3) rfl (nI_1 _) (by decide) rfl (fun ls hl => ?_)
                refine lv_goto (tgt := 8) hx hb dX7_ahead_62 (by decide) ?_
                exact ih8 (j + 1) f (by omega) hj (by rw [db_ah, ← ef, if_pos (by simp [c21, c31]), if_neg c39, if_neg (Int32.not_lt.mpr c54)]) _ _ hS _ (lv_sub hl [1, 2, 3, 0] rfl)
              · refine lv_iload_n hx hb dX7_ahead_57 rfl (lv_at hl 3 rfl) ?_
                refine lv_istore_n (lv' := [(2, .int (nI j)), (0, .ref (L 0 0)), (1, .int a), (3, .int (nI j))]) hx hb dX7_ahead_58 rfl hl (by decide) rfl (fun ls hl => ?_)
                refine lv_iinc (v := (nI (j + 1))) (lv' := [(3, .int (nI (j + 1))), (2, .int (nI j)), (0, .ref (L 0 0)), (1, .int a)]) hx hb dX7_ahead_59 hl (k := 3) rfl (nI_1 _) (by decide) rfl (fun ls hl => ?_)
                refine lv_goto (tgt := 8) hx hb dX7_ahead_62 (by decide) ?_
                exact ih8 (j + 1) (nI j) (by omega) hj (by rw [db_ah, ← ef, if_pos (by simp [c21, c31]), if_neg c39, if_pos (Int32.not_le.mp c54)]) _ _ hS _ (lv_sub hl [2, 3, 1, 0] rfl)
          · refine lv_goto (tgt := 59) hx hb dX7_ahead_34 (by decide) ?_
            refine lv_iinc (v := (nI (j + 1))) (lv' := [(3, .int (nI (j + 1))), (0, .ref (L 0 0)), (1, .int a), (2, .int f)]) hx hb dX7_ahead_59 hl (k := 3) rfl (nI_1 _) (by decide) rfl (fun ls hl => ?_)
            refine lv_goto (tgt := 8) hx hb dX7_ahead_62 (by decide) ?_
            exact ih8 (j + 1) f (by omega) hj (by rw [db_ah, ← ef, if_neg (by simp [c31])]) _ _ hS _ (lv_sub hl [1, 2, 3, 0] rfl)
  exact K8 _ 0 (-1) (Nat.le_refl _) (Nat.zero_le _) rfl _ _ hS _ (lv_sub hl [2, 3, 1, 0] rfl)

set_option maxHeartbeats 4000000 in
set_option maxRecDepth 100000 in
theorem c_X7_letsGo (l : Launch) (Γ : db_G) (N : Nat → Nat) (L : Nat → Nat → Nat) (X : db_X) (hN : bb_N N) (sz k : Nat) (hI : mm_I N sz X) (hk : k < N 1) : db_C l Γ yX7_letsGo cX7_letsGo 3 (none) (db_rm 4 88) [.ref (L 0 0), .int (nI k)] L mm_ok (mm_cel Γ N L) X none (mm_lg N X k) := by
  have hn0 : N 0 < 2 ^ 31 := by have := hN.2.1; omega
  have hn1 : N 1 < 2 ^ 31 := by have := hN.2.2.1; omega
  have hn2 : N 2 < 2 ^ 31 := by have := hN.2.2.2.1; omega
  have hn3 : N 3 < 2 ^ 31 := by have := hN.2.2.2.2; omega
  refine db_introV (by decide +kernel) (Nat.le_of_ble_eq_true rfl) ?_
  intro p e s m args below meth c A Q ls hC hS hl hret
  have hC : db_Cx p s m args meth c Γ RX7 cX7_letsGo 3 (none) := hC
  obtain ⟨hx, hb, hml, hr, hlocks, hown, hts, hK⟩ := id hC
  have hl : lv_has ls 3 [(0, .ref (L 0 0)), (1, .int (nI k))] := hl
  refine lv_aload_n hx hb dX7_letsGo_0 rfl (lv_at hl 0 rfl) ?_
  refine db_get hx hb hts hown hK hS 0 0 (mm_k 0 rfl) rfl db_c7 23 (by decide) wd_464 rfl dX7_letsGo_1 ?_
  refine lv_iload_n hx hb dX7_letsGo_4 rfl (lv_at hl 1 rfl) ?_
  refine lv_iconst (v := -1) hx hb dX7_letsGo_5 (by decide) ?_
  refine db_ist hx hb hK hS 23 0 (mm_k 23 rfl) (fun _ => rfl) k rfl (Nat.lt_of_lt_of_le hk hN.2.2.1) (by decide) dX7_letsGo_6 (fun H locs hS => ?_)
  obtain ⟨X1, eX1⟩ : ∃ z, z = db_up X 23 0 k (-1) := ⟨_, rfl⟩
  rw [← eX1] at hS
  have hI1 : mm_I N sz X1 := by rw [eX1]; exact hI.up23 (Or.inl rfl)
  refine lv_aload_n hx hb dX7_letsGo_7 rfl (lv_at hl 0 rfl) ?_
  refine lv_iload_n hx hb dX7_letsGo_8 rfl (lv_at hl 1 rfl) ?_
  refine db_cV (As := [.int (nI k)]) (rest := []) (st1 := [.int (mm_ahead N (mm_rk N X1) (nI k))]) hC hS 0 0 (mm_k 0 rfl) rfl db_c7 (c_X7_ahead l Γ N L X1 hN (nI k) sz hI1) (cw_X7_ahead (Nat.le_of_ble_eq_true rfl) (Nat.le_of_ble_eq_true rfl)) wd_583 wd_585 ws_39 rfl hl.1 rfl (Nat.le_of_ble_eq_true rfl) dX7_letsGo_9 ⟨Nat.le_of_ble_eq_true rfl, Nat.le_of_ble_eq_true rfl⟩ rfl (fun H locs hS => ?_)
  obtain ⟨X2, eX2⟩ : ∃ z, z = mm_rk N X1 := ⟨_, rfl⟩
  rw [← eX2] at hS
  rw [show mm_ahead N (mm_rk N X1) (nI k) = mm_ahead N X2 (nI k) by rw [eX2]]
  refine lv_istore_n (lv' := [(2, .int (mm_ahead N X2 (nI k))), (0, .ref (L 0 0)), (1, .int (nI k))]) hx hb dX7_letsGo_12 rfl hl (by decide) rfl (fun ls hl => ?_)
  refine lv_iload_n hx hb dX7_letsGo_13 rfl (lv_at hl 0 rfl) ?_
  refine lv_iconst (v := -1) hx hb dX7_letsGo_14 (by decide) ?_
  refine lv_icmp_ne (tgt := 19) hx hb dX7_letsGo_15 (by decide) (fun c15 => ?_) (fun c15 => ?_)
  · have hin : db_in (mm_ahead N X2 (nI k)) (N 0) := mm_ahead_in c15
    refine lv_aload_n hx hb dX7_letsGo_19 rfl (lv_at hl 1 rfl) ?_
    refine db_get hx hb hts hown hK hS 0 0 (mm_k 0 rfl) rfl db_c7 23 (by decide) wd_464 rfl dX7_letsGo_20 ?_
    refine lv_iload_n hx hb dX7_letsGo_23 rfl (lv_at hl 2 rfl) ?_
    refine lv_iload_n hx hb dX7_letsGo_24 rfl (lv_at hl 0 rfl) ?_
    refine db_ist hx hb hK hS 23 0 (mm_k 23 rfl) (fun _ => rfl) k rfl (Nat.lt_of_lt_of_le hk hN.2.2.1) (by decide) dX7_letsGo_25 (fun H locs hS => ?_)
    obtain ⟨X3, eX3⟩ : ∃ z, z = db_up X2 23 0 k (mm_ahead N X2 (nI k)) := ⟨_, rfl⟩
    rw [← eX3] at hS
    refine lv_aload_n hx hb dX7_letsGo_26 rfl (lv_at hl 1 rfl) ?_
    refine db_get hx hb hts hown hK hS 0 0 (mm_k 0 rfl) rfl db_c7 21 (by decide) wd_462 rfl dX7_letsGo_27 ?_
    refine lv_iload_n hx hb dX7_letsGo_30 rfl (lv_at hl 0 rfl) ?_
    refine lv_iconst (v := -1) hx hb dX7_letsGo_31 (by decide) ?_
    refine db_ist hx hb hK hS 21 0 (mm_k 21 rfl) (fun _ => rfl) ((mm_ahead N X2 (nI k)).toNatClampNeg) (hin.eq hn0) (Nat.lt_of_lt_of_le (hin.lt hn0) hN.2.1) (by decide) dX7_letsGo_32 (fun H locs hS => ?_)
    obtain ⟨X4, eX4⟩ : ∃ z, z = db_up X3 21 0 ((mm_ahead N X2 (nI k)).toNatClampNeg) (-1) := ⟨_, rfl⟩
    rw [← eX4] at hS
    exact hret _ _ _ _ _ hS (by rw [mm_lg, mm_lg2, ← eX1, ← eX2, if_neg c15, eX4, eX3]; rfl) dX7_letsGo_33
  · exact hret _ _ _ _ _ hS (by rw [mm_lg, mm_lg2, ← eX1, ← eX2, if_pos c15]) dX7_letsGo_18

theorem c_X7_letsGo' (l : Launch) (Γ : db_G) (N : Nat → Nat) (L : Nat → Nat → Nat) (X : db_X) (hN : bb_N N) (t : Int32) (sz : Nat) (hI : mm_I N sz X) (ht : db_in t (N 1)) : db_C l Γ yX7_letsGo cX7_letsGo 3 (none) (db_rm 4 88) [.ref (L 0 0), .int t] L mm_ok (mm_cel Γ N L) X none (mm_lg N X t.toNatClampNeg) := by
  have hn1 : N 1 < 2 ^ 31 := by have := hN.2.2.1; omega
  have h := c_X7_letsGo l Γ N L X hN sz t.toNatClampNeg hI (ht.lt hn1)
  rw [← ht.eq hn1] at h
  exact h

set_option maxHeartbeats 4000000 in
set_option maxRecDepth 100000 in
theorem c_X7_drops (l : Launch) (Γ : db_G) (N : Nat → Nat) (L : Nat → Nat → Nat) (X : db_X) (hN : bb_N N) (sz i : Nat) (hI : mm_I N sz X) (hi : i < N 0) : db_C l Γ yX7_drops cX7_drops 3 (none) (db_rm 5 110) [.ref (L 0 0), .int (nI i)] L mm_ok (mm_cel Γ N L) X none (mm_drop N X i) := by
  have hn0 : N 0 < 2 ^ 31 := by have := hN.2.1; omega
  have hn1 : N 1 < 2 ^ 31 := by have := hN.2.2.1; omega
  have hn2 : N 2 < 2 ^ 31 := by have := hN.2.2.2.1; omega
  have hn3 : N 3 < 2 ^ 31 := by have := hN.2.2.2.2; omega
  refine db_introV (by decide +kernel) (Nat.le_of_ble_eq_true rfl) ?_
  intro p e s m args below meth c A Q ls hC hS hl hret
  have hC : db_Cx p s m args meth c Γ RX7 cX7_drops 3 (none) := hC
  obtain ⟨hx, hb, hml, hr, hlocks, hown, hts, hK⟩ := id hC
  have hl : lv_has ls 3 [(0, .ref (L 0 0)), (1, .int (nI i))] := hl
  refine lv_aload_n hx hb dX7_drops_0 rfl (lv_at hl 0 rfl) ?_
  refine db_get hx hb hts hown hK hS 0 0 (mm_k 0 rfl) rfl db_c7 17 (by decide) wd_458 rfl dX7_drops_1 ?_
  refine lv_iload_n hx hb dX7_drops_4 rfl (lv_at hl 1 rfl) ?_
  refine lv_iconst (v := 0) hx hb dX7_drops_5 (by decide) ?_
  refine db_zst hx hb hK hS 17 0 (mm_k 17 rfl) (fun _ => rfl) i rfl (Nat.lt_of_lt_of_le hi hN.2.1) (by decide) (Or.inl rfl) dX7_drops_6 (fun H locs hS => ?_)
  obtain ⟨X1, eX1⟩ : ∃ z, z = db_up X 17 0 i 0 := ⟨_, rfl⟩
  rw [← eX1] at hS
  refine lv_aload_n hx hb dX7_drops_7 rfl (lv_at hl 0 rfl) ?_
  refine db_get hx hb hts hown hK hS 0 0 (mm_k 0 rfl) rfl db_c7 21 (by decide) wd_462 rfl dX7_drops_8 ?_
  refine lv_iload_n hx hb dX7_drops_11 rfl (lv_at hl 1 rfl) ?_
  refine lv_iconst (v := -1) hx hb dX7_drops_12 (by decide) ?_
  refine db_ist hx hb hK hS 21 0 (mm_k 21 rfl) (fun _ => rfl) i rfl (Nat.lt_of_lt_of_le hi hN.2.1) (by decide) dX7_drops_13 (fun H locs hS => ?_)
  obtain ⟨X2, eX2⟩ : ∃ z, z = db_up X1 21 0 i (-1) := ⟨_, rfl⟩
  rw [← eX2] at hS
  refine lv_aload_n hx hb dX7_drops_14 rfl (lv_at hl 0 rfl) ?_
  refine db_get hx hb hts hown hK hS 0 0 (mm_k 0 rfl) rfl db_c7 22 (by decide) wd_463 rfl dX7_drops_15 ?_
  refine lv_iload_n hx hb dX7_drops_18 rfl (lv_at hl 1 rfl) ?_
  refine lv_iconst (v := 0) hx hb dX7_drops_19 (by decide) ?_
  refine db_zst hx hb hK hS 22 0 (mm_k 22 rfl) (fun _ => rfl) i rfl (Nat.lt_of_lt_of_le hi hN.2.1) (by decide) (Or.inl rfl) dX7_drops_20 (fun H locs hS => ?_)
  obtain ⟨X3, eX3⟩ : ∃ z, z = db_up X2 22 0 i 0 := ⟨_, rfl⟩
  rw [← eX3] at hS
  refine lv_iconst (v := 0) hx hb dX7_drops_21 (by decide) ?_
  refine lv_istore_n (lv' := [(2, .int 0), (0, .ref (L 0 0)), (1, .int (nI i))]) hx hb dX7_drops_22 rfl hl (by decide) rfl (fun ls hl => ?_)
  have K23 : ∀ (q : Nat) (k : Nat) (Xa : db_X) (hq : N 1 + 1 - k ≤ q) (hk0 : k ≤ N 1) (eXa : Xa = mm_dropL N (mm_drop0 X i) i k) (H : Heap) (locs : List Loc) (hS : db_S Γ A s.heap L mm_ok (mm_cel Γ N L) Xa H locs) (ls : Array Slot) (hl : lv_has ls 3 [(0, .ref (L 0 0)), (1, .int (nI i)), (2, .int (nI k))]), W p l e (db_rm 5 110) s m args below meth c H locs 0 0 Q (F0 m 23 ls []) := by
    intro q23
    induction q23 with
    | zero =>
      intro k Xa hq23 hk0 eXa
      exact absurd hq23 (by omega)
    | succ q23 ih23 =>
      intro k Xa hq23 hk0 eXa H locs hS ls hl
      have hIa : mm_I N sz Xa := by rw [eXa]; exact (((hI.up rfl).up21 (Or.inl rfl)).up rfl).dropL k
      refine lv_iload_n hx hb dX7_drops_23 rfl (lv_at hl 2 rfl) ?_
      refine lv_aload_n hx hb dX7_drops_24 rfl (lv_at hl 0 rfl) ?_
      refine db_get hx hb hts hown hK hS 0 0 (mm_k 0 rfl) rfl db_c7 1 (by decide) wd_442 rfl dX7_drops_25 ?_
      refine lv_icmp_ge (tgt := 52) hx hb dX7_drops_28 (by decide) (fun c28 => ?_) (fun c28 => ?_)
      · have hk : k = N 1 := by
          rcases Nat.lt_or_ge k (N 1) with q9 | q9
          · exact absurd c28 (nI_ge q9 hn1)
          · omega
        exact hret _ _ _ _ _ hS (by rw [eXa, hk]; rfl) dX7_drops_52
      · have hk : k < N 1 := by
          rcases Nat.lt_or_ge k (N 1) with q9 | q9
          · exact q9
          · exact absurd (nI_le q9 (by omega)) c28
        refine lv_aload_n hx hb dX7_drops_31 rfl (lv_at hl 0 rfl) ?_
        refine db_get hx hb hts hown hK hS 0 0 (mm_k 0 rfl) rfl db_c7 23 (by decide) wd_464 rfl dX7_drops_32 ?_
        refine lv_iload_n hx hb dX7_drops_35 rfl (lv_at hl 2 rfl) ?_
        refine db_ild hx hb hK hS 23 0 (mm_k 23 rfl) rfl k rfl (Nat.lt_of_lt_of_le hk hN.2.2.1) (by decide) dX7_drops_36 ?_
        refine lv_iload_n hx hb dX7_drops_37 rfl (lv_at hl 1 rfl) ?_
        refine lv_icmp_ne (tgt := 46) hx hb dX7_drops_38 (by decide) (fun c38 => ?_) (fun c38 => ?_)
        · refine lv_iinc (v := (nI (k + 1))) (lv' := [(2, .int (nI (k + 1))), (0, .ref (L 0 0)), (1, .int (nI i))]) hx hb dX7_drops_46 hl (k := 2) rfl (nI_1 _) (by decide) rfl (fun ls hl => ?_)
          refine lv_goto (tgt := 23) hx hb dX7_drops_49 (by decide) ?_
          exact ih23 (k + 1) Xa (by omega) hk (by rw [mm_dropL, ← eXa, if_neg c38]) _ _ hS _ (lv_sub hl [1, 2, 0] rfl)
        · refine lv_aload_n hx hb dX7_drops_41 rfl (lv_at hl 0 rfl) ?_
          refine lv_iload_n hx hb dX7_drops_42 rfl (lv_at hl 2 rfl) ?_
          refine db_cV (As := [.int (nI k)]) (rest := []) (st1 := []) hC hS 0 0 (mm_k 0 rfl) rfl db_c7 (c_X7_letsGo l Γ N L Xa hN sz k hIa hk) (cw_X7_letsGo (Nat.le_of_ble_eq_true rfl) (Nat.le_of_ble_eq_true rfl)) wd_579 wd_581 ws_38 rfl hl.1 rfl (Nat.le_of_ble_eq_true rfl) dX7_drops_43 ⟨Nat.le_of_ble_eq_true rfl, Nat.le_of_ble_eq_true rfl⟩ rfl (fun H locs hS => ?_)
          obtain ⟨X4, eX4⟩ : ∃ z, z = mm_lg N Xa k := ⟨_, rfl⟩
          rw [← eX4] at hS
          refine lv_iinc (v := (nI (k + 1))) (lv' := [(2, .int (nI (k + 1))), (0, .ref (L 0 0)), (1, .int (nI i))]) hx hb dX7_drops_46 hl (k := 2) rfl (nI_1 _) (by decide) rfl (fun ls hl => ?_)
          refine lv_goto (tgt := 23) hx hb dX7_drops_49 (by decide) ?_
          exact ih23 (k + 1) X4 (by omega) hk (by rw [mm_dropL, ← eXa, if_pos c38, eX4]) _ _ hS _ (lv_sub hl [1, 2, 0] rfl)
  exact K23 _ 0 X3 (Nat.le_refl _) (Nat.zero_le _) (by rw [eX3, eX2, eX1]; rfl) _ _ hS _ (lv_sub hl [1, 2, 0] rfl)
end
