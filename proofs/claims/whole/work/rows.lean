section
-- ===== PART A: goes FIRST, ahead of the names: the tables' words, and 'selects' of the private methods out of them =====
/-- a private method of a class that the tables say can be made, by its rows of tables_1 -/
def lw_okq (q : MethodName × Nat) : Prop := (q.1.cls ≠ "java/lang/invoke/MethodHandle" ∧ q.1.cls ≠ "java/lang/invoke/VarHandle") ∧ Cond.instantiable q.1.cls q.2 ∈ tables_1 ∧ Cond.privateMethod q.1 ∈ tables_1 ∧ Cond.instanceMethod q.1 ∈ tables_1
theorem lw_p0 : lw_okq (⟨"LayerBudgets", "dropLayers", "()V"⟩, 4) := ⟨⟨by decide +kernel, by decide +kernel⟩, List.mem_of_getElem? (i := 22) (by decide +kernel), List.mem_of_getElem? (i := 73) (by decide +kernel), List.mem_of_getElem? (i := 74) (by decide +kernel)⟩
theorem lw_p1 : lw_okq (⟨"LayerBudgets$Block", "takeNothing", "()V"⟩, 7) := ⟨⟨by decide +kernel, by decide +kernel⟩, List.mem_of_getElem? (i := 106) (by decide +kernel), List.mem_of_getElem? (i := 104) (by decide +kernel), List.mem_of_getElem? (i := 105) (by decide +kernel)⟩
theorem lw_p2 : lw_okq (⟨"java/lang/Throwable", "fillInStackTrace", "(I)Ljava/lang/Throwable;"⟩, 6) := ⟨⟨by decide +kernel, by decide +kernel⟩, List.mem_of_getElem? (i := 159) (by decide +kernel), List.mem_of_getElem? (i := 157) (by decide +kernel), List.mem_of_getElem? (i := 158) (by decide +kernel)⟩
theorem lw_p3 : lw_okq (⟨"java/util/ArrayList", "add", "(Ljava/lang/Object;[Ljava/lang/Object;I)V"⟩, 3) := ⟨⟨by decide +kernel, by decide +kernel⟩, List.mem_of_getElem? (i := 30) (by decide +kernel), List.mem_of_getElem? (i := 224) (by decide +kernel), List.mem_of_getElem? (i := 225) (by decide +kernel)⟩
theorem lw_p4 : lw_okq (⟨"java/util/ArrayList", "grow", "()[Ljava/lang/Object;"⟩, 3) := ⟨⟨by decide +kernel, by decide +kernel⟩, List.mem_of_getElem? (i := 30) (by decide +kernel), List.mem_of_getElem? (i := 228) (by decide +kernel), List.mem_of_getElem? (i := 229) (by decide +kernel)⟩
theorem lw_p5 : lw_okq (⟨"java/util/ArrayList", "grow", "(I)[Ljava/lang/Object;"⟩, 3) := ⟨⟨by decide +kernel, by decide +kernel⟩, List.mem_of_getElem? (i := 30) (by decide +kernel), List.mem_of_getElem? (i := 232) (by decide +kernel), List.mem_of_getElem? (i := 233) (by decide +kernel)⟩
theorem lw_p6 : lw_okq (⟨"LayerBudgets", "hasBlock", "(I)Z"⟩, 4) := ⟨⟨by decide +kernel, by decide +kernel⟩, List.mem_of_getElem? (i := 22) (by decide +kernel), List.mem_of_getElem? (i := 283) (by decide +kernel), List.mem_of_getElem? (i := 284) (by decide +kernel)⟩
theorem lw_p7 : lw_okq (⟨"LayerBudgets$Block", "hasRoomFor", "(I)Z"⟩, 7) := ⟨⟨by decide +kernel, by decide +kernel⟩, List.mem_of_getElem? (i := 106) (by decide +kernel), List.mem_of_getElem? (i := 307) (by decide +kernel), List.mem_of_getElem? (i := 308) (by decide +kernel)⟩
theorem lw_p8 : lw_okq (⟨"LayerBudgets$Block", "append", "(IJ)V"⟩, 7) := ⟨⟨by decide +kernel, by decide +kernel⟩, List.mem_of_getElem? (i := 106) (by decide +kernel), List.mem_of_getElem? (i := 313) (by decide +kernel), List.mem_of_getElem? (i := 314) (by decide +kernel)⟩
theorem lw_p9 : lw_okq (⟨"LayerBudgets$Block", "renewSteps", "()V"⟩, 7) := ⟨⟨by decide +kernel, by decide +kernel⟩, List.mem_of_getElem? (i := 106) (by decide +kernel), List.mem_of_getElem? (i := 317) (by decide +kernel), List.mem_of_getElem? (i := 318) (by decide +kernel)⟩
theorem lw_p10 : lw_okq (⟨"LayerBudgets$Block", "newestOvertakes", "(I)Z"⟩, 7) := ⟨⟨by decide +kernel, by decide +kernel⟩, List.mem_of_getElem? (i := 106) (by decide +kernel), List.mem_of_getElem? (i := 321) (by decide +kernel), List.mem_of_getElem? (i := 322) (by decide +kernel)⟩
theorem lw_p11 : lw_okq (⟨"LayerBudgets$Block", "stepGain", "(I)J"⟩, 7) := ⟨⟨by decide +kernel, by decide +kernel⟩, List.mem_of_getElem? (i := 106) (by decide +kernel), List.mem_of_getElem? (i := 325) (by decide +kernel), List.mem_of_getElem? (i := 326) (by decide +kernel)⟩
theorem lw_p12 : lw_okq (⟨"LayerBudgets$Block", "stepBytes", "(I)I"⟩, 7) := ⟨⟨by decide +kernel, by decide +kernel⟩, List.mem_of_getElem? (i := 106) (by decide +kernel), List.mem_of_getElem? (i := 329) (by decide +kernel), List.mem_of_getElem? (i := 330) (by decide +kernel)⟩
theorem lw_p13 : lw_okq (⟨"LayerBudgets$Block", "hasStep", "(I)Z"⟩, 7) := ⟨⟨by decide +kernel, by decide +kernel⟩, List.mem_of_getElem? (i := 106) (by decide +kernel), List.mem_of_getElem? (i := 348) (by decide +kernel), List.mem_of_getElem? (i := 349) (by decide +kernel)⟩
theorem lw_p14 : lw_okq (⟨"LayerBudgets$Block", "stepEnd", "(I)I"⟩, 7) := ⟨⟨by decide +kernel, by decide +kernel⟩, List.mem_of_getElem? (i := 106) (by decide +kernel), List.mem_of_getElem? (i := 368) (by decide +kernel), List.mem_of_getElem? (i := 369) (by decide +kernel)⟩
theorem lw_p15 : lw_okq (⟨"LayerBudgets", "takeAllPasses", "()V"⟩, 4) := ⟨⟨by decide +kernel, by decide +kernel⟩, List.mem_of_getElem? (i := 22) (by decide +kernel), List.mem_of_getElem? (i := 413) (by decide +kernel), List.mem_of_getElem? (i := 414) (by decide +kernel)⟩
def lw_privs_1 : List (MethodName × Nat) := [(⟨"LayerBudgets", "dropLayers", "()V"⟩, 4), (⟨"LayerBudgets$Block", "takeNothing", "()V"⟩, 7), (⟨"java/lang/Throwable", "fillInStackTrace", "(I)Ljava/lang/Throwable;"⟩, 6), (⟨"java/util/ArrayList", "add", "(Ljava/lang/Object;[Ljava/lang/Object;I)V"⟩, 3), (⟨"java/util/ArrayList", "grow", "()[Ljava/lang/Object;"⟩, 3), (⟨"java/util/ArrayList", "grow", "(I)[Ljava/lang/Object;"⟩, 3), (⟨"LayerBudgets", "hasBlock", "(I)Z"⟩, 4), (⟨"LayerBudgets$Block", "hasRoomFor", "(I)Z"⟩, 7), (⟨"LayerBudgets$Block", "append", "(IJ)V"⟩, 7), (⟨"LayerBudgets$Block", "renewSteps", "()V"⟩, 7), (⟨"LayerBudgets$Block", "newestOvertakes", "(I)Z"⟩, 7), (⟨"LayerBudgets$Block", "stepGain", "(I)J"⟩, 7), (⟨"LayerBudgets$Block", "stepBytes", "(I)I"⟩, 7), (⟨"LayerBudgets$Block", "hasStep", "(I)Z"⟩, 7), (⟨"LayerBudgets$Block", "stepEnd", "(I)I"⟩, 7), (⟨"LayerBudgets", "takeAllPasses", "()V"⟩, 4)]
theorem lw_r1 : ∀ q ∈ lw_privs_1, lw_okq q := List.forall_mem_cons.mpr ⟨lw_p0, List.forall_mem_cons.mpr ⟨lw_p1, List.forall_mem_cons.mpr ⟨lw_p2, List.forall_mem_cons.mpr ⟨lw_p3, List.forall_mem_cons.mpr ⟨lw_p4, List.forall_mem_cons.mpr ⟨lw_p5, List.forall_mem_cons.mpr ⟨lw_p6, List.forall_mem_cons.mpr ⟨lw_p7, List.forall_mem_cons.mpr ⟨lw_p8, List.forall_mem_cons.mpr ⟨lw_p9, List.forall_mem_cons.mpr ⟨lw_p10, List.forall_mem_cons.mpr ⟨lw_p11, List.forall_mem_cons.mpr ⟨lw_p12, List.forall_mem_cons.mpr ⟨lw_p13, List.forall_mem_cons.mpr ⟨lw_p14, List.forall_mem_cons.mpr ⟨lw_p15, fun _ h => absurd h List.not_mem_nil⟩⟩⟩⟩⟩⟩⟩⟩⟩⟩⟩⟩⟩⟩⟩⟩
theorem lw_p16 : lw_okq (⟨"LayerBudgets$Block", "takeEverything", "()V"⟩, 7) := ⟨⟨by decide +kernel, by decide +kernel⟩, List.mem_of_getElem? (i := 106) (by decide +kernel), List.mem_of_getElem? (i := 417) (by decide +kernel), List.mem_of_getElem? (i := 418) (by decide +kernel)⟩
theorem lw_p17 : lw_okq (⟨"LayerBudgets$Block", "allBytes", "()I"⟩, 7) := ⟨⟨by decide +kernel, by decide +kernel⟩, List.mem_of_getElem? (i := 106) (by decide +kernel), List.mem_of_getElem? (i := 421) (by decide +kernel), List.mem_of_getElem? (i := 422) (by decide +kernel)⟩
theorem lw_p18 : lw_okq (⟨"LayerBudgets", "takeSteepestSteps", "(ILLayerBudgets$Layer;)V"⟩, 4) := ⟨⟨by decide +kernel, by decide +kernel⟩, List.mem_of_getElem? (i := 22) (by decide +kernel), List.mem_of_getElem? (i := 425) (by decide +kernel), List.mem_of_getElem? (i := 426) (by decide +kernel)⟩
theorem lw_p19 : lw_okq (⟨"LayerBudgets", "steepestBlock", "()I"⟩, 4) := ⟨⟨by decide +kernel, by decide +kernel⟩, List.mem_of_getElem? (i := 22) (by decide +kernel), List.mem_of_getElem? (i := 429) (by decide +kernel), List.mem_of_getElem? (i := 430) (by decide +kernel)⟩
theorem lw_p20 : lw_okq (⟨"LayerBudgets$Block", "hasNext", "()Z"⟩, 7) := ⟨⟨by decide +kernel, by decide +kernel⟩, List.mem_of_getElem? (i := 106) (by decide +kernel), List.mem_of_getElem? (i := 433) (by decide +kernel), List.mem_of_getElem? (i := 434) (by decide +kernel)⟩
theorem lw_p21 : lw_okq (⟨"LayerBudgets$Block", "nextGain", "()J"⟩, 7) := ⟨⟨by decide +kernel, by decide +kernel⟩, List.mem_of_getElem? (i := 106) (by decide +kernel), List.mem_of_getElem? (i := 437) (by decide +kernel), List.mem_of_getElem? (i := 438) (by decide +kernel)⟩
theorem lw_p22 : lw_okq (⟨"LayerBudgets$Block", "nextBytes", "()I"⟩, 7) := ⟨⟨by decide +kernel, by decide +kernel⟩, List.mem_of_getElem? (i := 106) (by decide +kernel), List.mem_of_getElem? (i := 441) (by decide +kernel), List.mem_of_getElem? (i := 442) (by decide +kernel)⟩
theorem lw_p23 : lw_okq (⟨"LayerBudgets", "bytesOfSlope", "(JI)I"⟩, 4) := ⟨⟨by decide +kernel, by decide +kernel⟩, List.mem_of_getElem? (i := 22) (by decide +kernel), List.mem_of_getElem? (i := 446) (by decide +kernel), List.mem_of_getElem? (i := 447) (by decide +kernel)⟩
theorem lw_p24 : lw_okq (⟨"LayerBudgets$Block", "nextHasSlope", "(JI)Z"⟩, 7) := ⟨⟨by decide +kernel, by decide +kernel⟩, List.mem_of_getElem? (i := 106) (by decide +kernel), List.mem_of_getElem? (i := 450) (by decide +kernel), List.mem_of_getElem? (i := 451) (by decide +kernel)⟩
theorem lw_p25 : lw_okq (⟨"LayerBudgets", "takeSlope", "(JI)V"⟩, 4) := ⟨⟨by decide +kernel, by decide +kernel⟩, List.mem_of_getElem? (i := 22) (by decide +kernel), List.mem_of_getElem? (i := 457) (by decide +kernel), List.mem_of_getElem? (i := 458) (by decide +kernel)⟩
theorem lw_p26 : lw_okq (⟨"LayerBudgets$Block", "takeNext", "()V"⟩, 7) := ⟨⟨by decide +kernel, by decide +kernel⟩, List.mem_of_getElem? (i := 106) (by decide +kernel), List.mem_of_getElem? (i := 461) (by decide +kernel), List.mem_of_getElem? (i := 462) (by decide +kernel)⟩
theorem lw_p27 : lw_okq (⟨"LayerBudgets", "recordCuts", "(LLayerBudgets$Layer;)V"⟩, 4) := ⟨⟨by decide +kernel, by decide +kernel⟩, List.mem_of_getElem? (i := 22) (by decide +kernel), List.mem_of_getElem? (i := 466) (by decide +kernel), List.mem_of_getElem? (i := 467) (by decide +kernel)⟩
theorem lw_p28 : lw_okq (⟨"LayerBudgets", "hasLayer", "(I)Z"⟩, 4) := ⟨⟨by decide +kernel, by decide +kernel⟩, List.mem_of_getElem? (i := 22) (by decide +kernel), List.mem_of_getElem? (i := 477) (by decide +kernel), List.mem_of_getElem? (i := 478) (by decide +kernel)⟩
theorem lw_p29 : lw_okq (⟨"LayerBudgetsModel", "throwing", "(ZZ)Z"⟩, 15) := ⟨⟨by decide +kernel, by decide +kernel⟩, List.mem_of_getElem? (i := 496) (by decide +kernel), List.mem_of_getElem? (i := 561) (by decide +kernel), List.mem_of_getElem? (i := 562) (by decide +kernel)⟩
theorem lw_p30 : lw_okq (⟨"LayerBudgetsModel", "beginOf", "(II)I"⟩, 15) := ⟨⟨by decide +kernel, by decide +kernel⟩, List.mem_of_getElem? (i := 496) (by decide +kernel), List.mem_of_getElem? (i := 579) (by decide +kernel), List.mem_of_getElem? (i := 580) (by decide +kernel)⟩
theorem lw_p31 : lw_okq (⟨"LayerBudgetsModel", "stepFrom", "(II)I"⟩, 15) := ⟨⟨by decide +kernel, by decide +kernel⟩, List.mem_of_getElem? (i := 496) (by decide +kernel), List.mem_of_getElem? (i := 583) (by decide +kernel), List.mem_of_getElem? (i := 584) (by decide +kernel)⟩
def lw_privs_2 : List (MethodName × Nat) := [(⟨"LayerBudgets$Block", "takeEverything", "()V"⟩, 7), (⟨"LayerBudgets$Block", "allBytes", "()I"⟩, 7), (⟨"LayerBudgets", "takeSteepestSteps", "(ILLayerBudgets$Layer;)V"⟩, 4), (⟨"LayerBudgets", "steepestBlock", "()I"⟩, 4), (⟨"LayerBudgets$Block", "hasNext", "()Z"⟩, 7), (⟨"LayerBudgets$Block", "nextGain", "()J"⟩, 7), (⟨"LayerBudgets$Block", "nextBytes", "()I"⟩, 7), (⟨"LayerBudgets", "bytesOfSlope", "(JI)I"⟩, 4), (⟨"LayerBudgets$Block", "nextHasSlope", "(JI)Z"⟩, 7), (⟨"LayerBudgets", "takeSlope", "(JI)V"⟩, 4), (⟨"LayerBudgets$Block", "takeNext", "()V"⟩, 7), (⟨"LayerBudgets", "recordCuts", "(LLayerBudgets$Layer;)V"⟩, 4), (⟨"LayerBudgets", "hasLayer", "(I)Z"⟩, 4), (⟨"LayerBudgetsModel", "throwing", "(ZZ)Z"⟩, 15), (⟨"LayerBudgetsModel", "beginOf", "(II)I"⟩, 15), (⟨"LayerBudgetsModel", "stepFrom", "(II)I"⟩, 15)]
theorem lw_r2 : ∀ q ∈ lw_privs_2, lw_okq q := List.forall_mem_cons.mpr ⟨lw_p16, List.forall_mem_cons.mpr ⟨lw_p17, List.forall_mem_cons.mpr ⟨lw_p18, List.forall_mem_cons.mpr ⟨lw_p19, List.forall_mem_cons.mpr ⟨lw_p20, List.forall_mem_cons.mpr ⟨lw_p21, List.forall_mem_cons.mpr ⟨lw_p22, List.forall_mem_cons.mpr ⟨lw_p23, List.forall_mem_cons.mpr ⟨lw_p24, List.forall_mem_cons.mpr ⟨lw_p25, List.forall_mem_cons.mpr ⟨lw_p26, List.forall_mem_cons.mpr ⟨lw_p27, List.forall_mem_cons.mpr ⟨lw_p28, List.forall_mem_cons.mpr ⟨lw_p29, List.forall_mem_cons.mpr ⟨lw_p30, List.forall_mem_cons.mpr ⟨lw_p31, fun _ h => absurd h List.not_mem_nil⟩⟩⟩⟩⟩⟩⟩⟩⟩⟩⟩⟩⟩⟩⟩⟩
theorem lw_p32 : lw_okq (⟨"LayerBudgetsModel", "gainOf", "(III)J"⟩, 15) := ⟨⟨by decide +kernel, by decide +kernel⟩, List.mem_of_getElem? (i := 496) (by decide +kernel), List.mem_of_getElem? (i := 587) (by decide +kernel), List.mem_of_getElem? (i := 588) (by decide +kernel)⟩
theorem lw_p33 : lw_okq (⟨"LayerBudgetsModel", "bytesOf", "(III)I"⟩, 15) := ⟨⟨by decide +kernel, by decide +kernel⟩, List.mem_of_getElem? (i := 496) (by decide +kernel), List.mem_of_getElem? (i := 591) (by decide +kernel), List.mem_of_getElem? (i := 592) (by decide +kernel)⟩
theorem lw_p34 : lw_okq (⟨"LayerBudgetsModel", "countOf", "(I)I"⟩, 15) := ⟨⟨by decide +kernel, by decide +kernel⟩, List.mem_of_getElem? (i := 496) (by decide +kernel), List.mem_of_getElem? (i := 598) (by decide +kernel), List.mem_of_getElem? (i := 599) (by decide +kernel)⟩
theorem lw_p35 : lw_okq (⟨"LayerBudgetsModel", "steepest", "()I"⟩, 15) := ⟨⟨by decide +kernel, by decide +kernel⟩, List.mem_of_getElem? (i := 496) (by decide +kernel), List.mem_of_getElem? (i := 611) (by decide +kernel), List.mem_of_getElem? (i := 612) (by decide +kernel)⟩
theorem lw_p36 : lw_okq (⟨"LayerBudgetsModel", "against", "(II)I"⟩, 15) := ⟨⟨by decide +kernel, by decide +kernel⟩, List.mem_of_getElem? (i := 496) (by decide +kernel), List.mem_of_getElem? (i := 615) (by decide +kernel), List.mem_of_getElem? (i := 616) (by decide +kernel)⟩
theorem lw_p37 : lw_okq (⟨"LayerBudgetsModel", "sumOf", "()I"⟩, 15) := ⟨⟨by decide +kernel, by decide +kernel⟩, List.mem_of_getElem? (i := 496) (by decide +kernel), List.mem_of_getElem? (i := 619) (by decide +kernel), List.mem_of_getElem? (i := 620) (by decide +kernel)⟩
theorem lw_p38 : lw_okq (⟨"LayerBudgetsModel", "costOf", "(I)J"⟩, 15) := ⟨⟨by decide +kernel, by decide +kernel⟩, List.mem_of_getElem? (i := 496) (by decide +kernel), List.mem_of_getElem? (i := 623) (by decide +kernel), List.mem_of_getElem? (i := 624) (by decide +kernel)⟩
theorem lw_p39 : lw_okq (⟨"LayerBudgetsModel", "take", "(I)V"⟩, 15) := ⟨⟨by decide +kernel, by decide +kernel⟩, List.mem_of_getElem? (i := 496) (by decide +kernel), List.mem_of_getElem? (i := 627) (by decide +kernel), List.mem_of_getElem? (i := 628) (by decide +kernel)⟩
theorem lw_p40 : lw_okq (⟨"LayerBudgetsModel", "goOn", "(I)V"⟩, 15) := ⟨⟨by decide +kernel, by decide +kernel⟩, List.mem_of_getElem? (i := 496) (by decide +kernel), List.mem_of_getElem? (i := 631) (by decide +kernel), List.mem_of_getElem? (i := 632) (by decide +kernel)⟩
def lw_privs_3 : List (MethodName × Nat) := [(⟨"LayerBudgetsModel", "gainOf", "(III)J"⟩, 15), (⟨"LayerBudgetsModel", "bytesOf", "(III)I"⟩, 15), (⟨"LayerBudgetsModel", "countOf", "(I)I"⟩, 15), (⟨"LayerBudgetsModel", "steepest", "()I"⟩, 15), (⟨"LayerBudgetsModel", "against", "(II)I"⟩, 15), (⟨"LayerBudgetsModel", "sumOf", "()I"⟩, 15), (⟨"LayerBudgetsModel", "costOf", "(I)J"⟩, 15), (⟨"LayerBudgetsModel", "take", "(I)V"⟩, 15), (⟨"LayerBudgetsModel", "goOn", "(I)V"⟩, 15)]
theorem lw_r3 : ∀ q ∈ lw_privs_3, lw_okq q := List.forall_mem_cons.mpr ⟨lw_p32, List.forall_mem_cons.mpr ⟨lw_p33, List.forall_mem_cons.mpr ⟨lw_p34, List.forall_mem_cons.mpr ⟨lw_p35, List.forall_mem_cons.mpr ⟨lw_p36, List.forall_mem_cons.mpr ⟨lw_p37, List.forall_mem_cons.mpr ⟨lw_p38, List.forall_mem_cons.mpr ⟨lw_p39, List.forall_mem_cons.mpr ⟨lw_p40, fun _ h => absurd h List.not_mem_nil⟩⟩⟩⟩⟩⟩⟩⟩⟩
def lw_privs : List (MethodName × Nat) := lw_privs_1 ++ (lw_privs_2 ++ (lw_privs_3))
def lw_tbl : List Cond := k2_sels lw_privs ++ tables_1
theorem lw_privs_ok : ∀ q ∈ lw_privs, lw_okq q := by
  show ∀ q ∈ lw_privs_1 ++ (lw_privs_2 ++ (lw_privs_3)), lw_okq q
  exact List.forall_mem_append.mpr ⟨lw_r1, List.forall_mem_append.mpr ⟨lw_r2, lw_r3⟩⟩
end
section
abbrev R_LB : String := "LayerBudgets"
def F_LB : u_T := fun k => match k with
  | 0 => ("LayerBudgets", "blockList", "Ljava/util/ArrayList;", true)
  | 1 => ("LayerBudgets", "layerList", "Ljava/util/ArrayList;", true)
  | 2 => ("LayerBudgets", "passCount", "I", false)
  | _ => ("LayerBudgets", "takenBytes", "I", false)
def t_LB : Nat → FieldType := fun k => match k with
  | 0 => .object "java/util/ArrayList"
  | 1 => .object "java/util/ArrayList"
  | 2 => .int
  | _ => .int
abbrev R_BK : String := "LayerBudgets$Block"
def F_BK : u_T := fun k => match k with
  | 0 => ("LayerBudgets$Block", "bytesUpTo", "[I", true)
  | 1 => ("LayerBudgets$Block", "gainUpTo", "[J", true)
  | 2 => ("LayerBudgets$Block", "corners", "[I", true)
  | 3 => ("LayerBudgets$Block", "passes", "I", false)
  | 4 => ("LayerBudgets$Block", "steps", "I", false)
  | 5 => ("LayerBudgets$Block", "stepsTaken", "I", false)
  | _ => ("LayerBudgets$Block", "lastCut", "I", false)
def t_BK : Nat → FieldType := fun k => match k with
  | 0 => .array (.int)
  | 1 => .array (.long)
  | 2 => .array (.int)
  | 3 => .int
  | 4 => .int
  | 5 => .int
  | _ => .int
abbrev R_LY : String := "LayerBudgets$Layer"
def F_LY : u_T := fun k => match k with
  | 0 => ("LayerBudgets$Layer", "cuts", "[I", true)
  | 1 => ("LayerBudgets$Layer", "bytes", "I", false)
  | 2 => ("LayerBudgets$Layer", "thresholdGain", "J", false)
  | _ => ("LayerBudgets$Layer", "thresholdBytes", "I", false)
def t_LY : Nat → FieldType := fun k => match k with
  | 0 => .array (.int)
  | 1 => .int
  | 2 => .long
  | _ => .int
abbrev R_AL : String := "java/util/ArrayList"
def F_AL : u_T := fun k => match k with
  | 0 => ("java/util/ArrayList", "elementData", "[Ljava/lang/Object;", false)
  | 1 => ("java/util/ArrayList", "size", "I", false)
  | _ => ("java/util/AbstractList", "modCount", "I", false)
def t_AL : Nat → FieldType := fun k => match k with
  | 0 => .array (.object "java/lang/Object")
  | 1 => .int
  | _ => .int
abbrev R_MD : String := "LayerBudgetsModel"
def F_MD : u_T := fun k => match k with
  | 0 => ("LayerBudgetsModel", "thrown", "I", false)
  | 1 => ("LayerBudgetsModel", "blocks", "I", false)
  | 2 => ("LayerBudgetsModel", "all", "I", false)
  | 3 => ("LayerBudgetsModel", "passes", "[I", true)
  | 4 => ("LayerBudgetsModel", "begins", "[I", true)
  | 5 => ("LayerBudgetsModel", "used", "I", false)
  | 6 => ("LayerBudgetsModel", "bytes", "[I", true)
  | 7 => ("LayerBudgetsModel", "gains", "[J", true)
  | 8 => ("LayerBudgetsModel", "layers", "I", false)
  | 9 => ("LayerBudgetsModel", "cuts", "[I", true)
  | 10 => ("LayerBudgetsModel", "totals", "[I", true)
  | 11 => ("LayerBudgetsModel", "lastGain", "[J", true)
  | 12 => ("LayerBudgetsModel", "lastBytes", "[I", true)
  | 13 => ("LayerBudgetsModel", "cut", "[I", true)
  | _ => ("LayerBudgetsModel", "next", "[I", true)
def t_MD : Nat → FieldType := fun k => match k with
  | 0 => .int
  | 1 => .int
  | 2 => .int
  | 3 => .array (.int)
  | 4 => .array (.int)
  | 5 => .int
  | 6 => .array (.int)
  | 7 => .array (.long)
  | 8 => .int
  | 9 => .array (.int)
  | 10 => .array (.int)
  | 11 => .array (.long)
  | 12 => .array (.int)
  | 13 => .array (.int)
  | _ => .array (.int)
abbrev vwCl : List vw_C := [(R_LB, F_LB, 4), (R_BK, F_BK, 7), (R_LY, F_LY, 4), (R_AL, F_AL, 3), (R_MD, F_MD, 15)]
theorem n_LB : ∀ a, a < 4 → ∀ b, b < 4 → a ≠ b → (F_LB a).2.1 ≠ (F_LB b).2.1 := by decide +kernel
theorem t_LB_ok : ∀ k, k < 4 → parseFieldDescriptor (F_LB k).2.2.1 = some (t_LB k) := by decide +kernel
theorem i_LB : ∀ w ∈ u_ws R_LB F_LB 4, w ∈ lw_tbl := by decide +kernel
theorem n_BK : ∀ a, a < 7 → ∀ b, b < 7 → a ≠ b → (F_BK a).2.1 ≠ (F_BK b).2.1 := by decide +kernel
theorem t_BK_ok : ∀ k, k < 7 → parseFieldDescriptor (F_BK k).2.2.1 = some (t_BK k) := by decide +kernel
theorem i_BK : ∀ w ∈ u_ws R_BK F_BK 7, w ∈ lw_tbl := by decide +kernel
theorem n_LY : ∀ a, a < 4 → ∀ b, b < 4 → a ≠ b → (F_LY a).2.1 ≠ (F_LY b).2.1 := by decide +kernel
theorem t_LY_ok : ∀ k, k < 4 → parseFieldDescriptor (F_LY k).2.2.1 = some (t_LY k) := by decide +kernel
theorem i_LY : ∀ w ∈ u_ws R_LY F_LY 4, w ∈ lw_tbl := by decide +kernel
theorem n_AL : ∀ a, a < 3 → ∀ b, b < 3 → a ≠ b → (F_AL a).2.1 ≠ (F_AL b).2.1 := by decide +kernel
theorem t_AL_ok : ∀ k, k < 3 → parseFieldDescriptor (F_AL k).2.2.1 = some (t_AL k) := by decide +kernel
theorem i_AL : ∀ w ∈ u_ws R_AL F_AL 3, w ∈ lw_tbl := by decide +kernel
theorem n_MD : ∀ a, a < 15 → ∀ b, b < 15 → a ≠ b → (F_MD a).2.1 ≠ (F_MD b).2.1 := by decide +kernel
theorem t_MD_ok : ∀ k, k < 15 → parseFieldDescriptor (F_MD k).2.2.1 = some (t_MD k) := by decide +kernel
theorem i_MD : ∀ w ∈ u_ws R_MD F_MD 15, w ∈ lw_tbl := by decide +kernel
abbrev b_LB_init : ByteArray := prog_1_method_1_code
abbrev y_LB_init : MethodName := ⟨"LayerBudgets", "<init>", "()V"⟩
abbrev b_OB_init : ByteArray := object_method_1_code
abbrev y_OB_init : MethodName := ⟨"java/lang/Object", "<init>", "()V"⟩
abbrev b_AL_init : ByteArray := prog_21_method_2_code
abbrev y_AL_init : MethodName := ⟨"java/util/ArrayList", "<init>", "()V"⟩
abbrev b_AB_init : ByteArray := prog_20_method_1_code
abbrev y_AB_init : MethodName := ⟨"java/util/AbstractList", "<init>", "()V"⟩
abbrev b_AC_init : ByteArray := prog_19_method_1_code
abbrev y_AC_init : MethodName := ⟨"java/util/AbstractCollection", "<init>", "()V"⟩
abbrev b_LB_clear : ByteArray := prog_1_method_2_code
abbrev y_LB_clear : MethodName := ⟨"LayerBudgets", "clear", "()V"⟩
abbrev b_LB_dropLayers : ByteArray := prog_1_method_14_code
abbrev y_LB_dropLayers : MethodName := ⟨"LayerBudgets", "dropLayers", "()V"⟩
abbrev b_AL_isEmpty : ByteArray := prog_21_method_9_code
abbrev y_AL_isEmpty : MethodName := ⟨"java/util/ArrayList", "isEmpty", "()Z"⟩
abbrev b_AL_clear : ByteArray := prog_21_method_40_code
abbrev y_AL_clear : MethodName := ⟨"java/util/ArrayList", "clear", "()V"⟩
abbrev b_AL_size : ByteArray := prog_21_method_8_code
abbrev y_AL_size : MethodName := ⟨"java/util/ArrayList", "size", "()I"⟩
abbrev b_AL_get : ByteArray := prog_21_method_20_code
abbrev y_AL_get : MethodName := ⟨"java/util/ArrayList", "get", "(I)Ljava/lang/Object;"⟩
abbrev b_OJ_checkIndex : ByteArray := prog_25_method_17_code
abbrev y_OJ_checkIndex : MethodName := ⟨"java/util/Objects", "checkIndex", "(II)I"⟩
abbrev b_PC_checkIndex : ByteArray := prog_29_method_11_code
abbrev y_PC_checkIndex : MethodName := ⟨"jdk/internal/util/Preconditions", "checkIndex", "(IILjava/util/function/BiFunction;)I"⟩
abbrev b_AL_elementData : ByteArray := prog_21_method_18_code
abbrev y_AL_elementData : MethodName := ⟨"java/util/ArrayList", "elementData", "(I)Ljava/lang/Object;"⟩
abbrev b_BK_takeNothing : ByteArray := prog_2_method_17_code
abbrev y_BK_takeNothing : MethodName := ⟨"LayerBudgets$Block", "takeNothing", "()V"⟩
abbrev b_LB_layers : ByteArray := prog_1_method_8_code
abbrev y_LB_layers : MethodName := ⟨"LayerBudgets", "layers", "()I"⟩
abbrev b_LW_block : ByteArray := method_3_code
abbrev y_LW_block : MethodName := ⟨"LayerBudgetsLaw", "block", "(LLayerBudgets;[J)I"⟩
abbrev b_LB_block : ByteArray := prog_1_method_3_code
abbrev y_LB_block : MethodName := ⟨"LayerBudgets", "block", "()I"⟩
abbrev b_TH_init : ByteArray := prog_18_method_2_code
abbrev y_TH_init : MethodName := ⟨"java/lang/Throwable", "<init>", "(Ljava/lang/String;)V"⟩
abbrev b_IS_init : ByteArray := prog_10_method_2_code
abbrev y_IS_init : MethodName := ⟨"java/lang/IllegalStateException", "<init>", "(Ljava/lang/String;)V"⟩
abbrev b_RE_init : ByteArray := prog_15_method_2_code
abbrev y_RE_init : MethodName := ⟨"java/lang/RuntimeException", "<init>", "(Ljava/lang/String;)V"⟩
abbrev b_EX_init : ByteArray := prog_8_method_2_code
abbrev y_EX_init : MethodName := ⟨"java/lang/Exception", "<init>", "(Ljava/lang/String;)V"⟩
abbrev b_BK_init : ByteArray := prog_2_method_1_code
abbrev y_BK_init : MethodName := ⟨"LayerBudgets$Block", "<init>", "()V"⟩
abbrev b_AL_add1 : ByteArray := prog_21_method_25_code
abbrev y_AL_add1 : MethodName := ⟨"java/util/ArrayList", "add", "(Ljava/lang/Object;)Z"⟩
abbrev b_AL_add3 : ByteArray := prog_21_method_24_code
abbrev y_AL_add3 : MethodName := ⟨"java/util/ArrayList", "add", "(Ljava/lang/Object;[Ljava/lang/Object;I)V"⟩
abbrev b_AL_grow0 : ByteArray := prog_21_method_7_code
abbrev y_AL_grow0 : MethodName := ⟨"java/util/ArrayList", "grow", "()[Ljava/lang/Object;"⟩
abbrev b_AL_grow1 : ByteArray := prog_21_method_6_code
abbrev y_AL_grow1 : MethodName := ⟨"java/util/ArrayList", "grow", "(I)[Ljava/lang/Object;"⟩
abbrev b_AS_newLength : ByteArray := prog_28_method_27_code
abbrev y_AS_newLength : MethodName := ⟨"jdk/internal/util/ArraysSupport", "newLength", "(III)I"⟩
abbrev b_MA_max : ByteArray := prog_14_method_65_code
abbrev y_MA_max : MethodName := ⟨"java/lang/Math", "max", "(II)I"⟩
abbrev b_AS_hugeLength : ByteArray := prog_28_method_28_code
abbrev y_AS_hugeLength : MethodName := ⟨"jdk/internal/util/ArraysSupport", "hugeLength", "(II)I"⟩
abbrev b_AR_copyOf2 : ByteArray := prog_22_method_119_code
abbrev y_AR_copyOf2 : MethodName := ⟨"java/util/Arrays", "copyOf", "([Ljava/lang/Object;I)[Ljava/lang/Object;"⟩
abbrev b_AR_copyOf3 : ByteArray := prog_22_method_120_code
abbrev y_AR_copyOf3 : MethodName := ⟨"java/util/Arrays", "copyOf", "([Ljava/lang/Object;ILjava/lang/Class;)[Ljava/lang/Object;"⟩
abbrev b_MA_min : ByteArray := prog_14_method_69_code
abbrev y_MA_min : MethodName := ⟨"java/lang/Math", "min", "(II)I"⟩
abbrev b_LW_pass : ByteArray := method_4_code
abbrev y_LW_pass : MethodName := ⟨"LayerBudgetsLaw", "pass", "(LLayerBudgets;IIJ[J)I"⟩
abbrev b_LB_pass : ByteArray := prog_1_method_4_code
abbrev y_LB_pass : MethodName := ⟨"LayerBudgets", "pass", "(IIJ)I"⟩
abbrev b_LB_hasBlock : ByteArray := prog_1_method_12_code
abbrev y_LB_hasBlock : MethodName := ⟨"LayerBudgets", "hasBlock", "(I)Z"⟩
abbrev b_IA_init : ByteArray := prog_9_method_2_code
abbrev y_IA_init : MethodName := ⟨"java/lang/IllegalArgumentException", "<init>", "(Ljava/lang/String;)V"⟩
abbrev b_BK_hasRoomFor : ByteArray := prog_2_method_2_code
abbrev y_BK_hasRoomFor : MethodName := ⟨"LayerBudgets$Block", "hasRoomFor", "(I)Z"⟩
abbrev b_BK_append : ByteArray := prog_2_method_4_code
abbrev y_BK_append : MethodName := ⟨"LayerBudgets$Block", "append", "(IJ)V"⟩
abbrev b_BK_renewSteps : ByteArray := prog_2_method_5_code
abbrev y_BK_renewSteps : MethodName := ⟨"LayerBudgets$Block", "renewSteps", "()V"⟩
abbrev b_BK_newestOvertakes : ByteArray := prog_2_method_6_code
abbrev y_BK_newestOvertakes : MethodName := ⟨"LayerBudgets$Block", "newestOvertakes", "(I)Z"⟩
abbrev b_BK_stepGain : ByteArray := prog_2_method_10_code
abbrev y_BK_stepGain : MethodName := ⟨"LayerBudgets$Block", "stepGain", "(I)J"⟩
abbrev b_BK_stepBytes : ByteArray := prog_2_method_9_code
abbrev y_BK_stepBytes : MethodName := ⟨"LayerBudgets$Block", "stepBytes", "(I)I"⟩
abbrev b_LB_compareSlopes : ByteArray := prog_1_method_21_code
abbrev y_LB_compareSlopes : MethodName := ⟨"LayerBudgets", "compareSlopes", "(JIJI)I"⟩
abbrev b_LG_compare : ByteArray := prog_13_method_42_code
abbrev y_LG_compare : MethodName := ⟨"java/lang/Long", "compare", "(JJ)I"⟩
abbrev b_LW_step : ByteArray := method_5_code
abbrev y_LW_step : MethodName := ⟨"LayerBudgetsLaw", "step", "(LLayerBudgets;III[J)I"⟩
abbrev b_LB_step : ByteArray := prog_1_method_5_code
abbrev y_LB_step : MethodName := ⟨"LayerBudgets", "step", "(III)I"⟩
abbrev b_BK_hasStep : ByteArray := prog_2_method_7_code
abbrev y_BK_hasStep : MethodName := ⟨"LayerBudgets$Block", "hasStep", "(I)Z"⟩
abbrev b_IX_init : ByteArray := prog_11_method_2_code
abbrev y_IX_init : MethodName := ⟨"java/lang/IndexOutOfBoundsException", "<init>", "(Ljava/lang/String;)V"⟩
abbrev b_BK_stepEnd : ByteArray := prog_2_method_8_code
abbrev y_BK_stepEnd : MethodName := ⟨"LayerBudgets$Block", "stepEnd", "(I)I"⟩
abbrev b_LW_gain : ByteArray := method_6_code
abbrev y_LW_gain : MethodName := ⟨"LayerBudgetsLaw", "gain", "(LLayerBudgets;II[J)I"⟩
abbrev b_LB_gain : ByteArray := prog_1_method_6_code
abbrev y_LB_gain : MethodName := ⟨"LayerBudgets", "gain", "(II)J"⟩
abbrev b_LW_layer : ByteArray := method_7_code
abbrev y_LW_layer : MethodName := ⟨"LayerBudgetsLaw", "layer", "(LLayerBudgets;I[J)I"⟩
abbrev b_LB_layer : ByteArray := prog_1_method_7_code
abbrev y_LB_layer : MethodName := ⟨"LayerBudgets", "layer", "(I)I"⟩
abbrev b_LY_init : ByteArray := prog_3_method_1_code
abbrev y_LY_init : MethodName := ⟨"LayerBudgets$Layer", "<init>", "(I)V"⟩
abbrev b_LB_takeAllPasses : ByteArray := prog_1_method_15_code
abbrev y_LB_takeAllPasses : MethodName := ⟨"LayerBudgets", "takeAllPasses", "()V"⟩
abbrev b_BK_takeEverything : ByteArray := prog_2_method_16_code
abbrev y_BK_takeEverything : MethodName := ⟨"LayerBudgets$Block", "takeEverything", "()V"⟩
abbrev b_BK_allBytes : ByteArray := prog_2_method_3_code
abbrev y_BK_allBytes : MethodName := ⟨"LayerBudgets$Block", "allBytes", "()I"⟩
abbrev b_LB_takeSteepestSteps : ByteArray := prog_1_method_16_code
abbrev y_LB_takeSteepestSteps : MethodName := ⟨"LayerBudgets", "takeSteepestSteps", "(ILLayerBudgets$Layer;)V"⟩
abbrev b_LB_steepestBlock : ByteArray := prog_1_method_17_code
abbrev y_LB_steepestBlock : MethodName := ⟨"LayerBudgets", "steepestBlock", "()I"⟩
abbrev b_BK_hasNext : ByteArray := prog_2_method_11_code
abbrev y_BK_hasNext : MethodName := ⟨"LayerBudgets$Block", "hasNext", "()Z"⟩
abbrev b_BK_nextGain : ByteArray := prog_2_method_13_code
abbrev y_BK_nextGain : MethodName := ⟨"LayerBudgets$Block", "nextGain", "()J"⟩
abbrev b_BK_nextBytes : ByteArray := prog_2_method_12_code
abbrev y_BK_nextBytes : MethodName := ⟨"LayerBudgets$Block", "nextBytes", "()I"⟩
abbrev b_LB_bytesOfSlope : ByteArray := prog_1_method_18_code
abbrev y_LB_bytesOfSlope : MethodName := ⟨"LayerBudgets", "bytesOfSlope", "(JI)I"⟩
abbrev b_BK_nextHasSlope : ByteArray := prog_2_method_14_code
abbrev y_BK_nextHasSlope : MethodName := ⟨"LayerBudgets$Block", "nextHasSlope", "(JI)Z"⟩
abbrev b_LB_takeSlope : ByteArray := prog_1_method_19_code
abbrev y_LB_takeSlope : MethodName := ⟨"LayerBudgets", "takeSlope", "(JI)V"⟩
abbrev b_BK_takeNext : ByteArray := prog_2_method_15_code
abbrev y_BK_takeNext : MethodName := ⟨"LayerBudgets$Block", "takeNext", "()V"⟩
abbrev b_LB_recordCuts : ByteArray := prog_1_method_20_code
abbrev y_LB_recordCuts : MethodName := ⟨"LayerBudgets", "recordCuts", "(LLayerBudgets$Layer;)V"⟩
abbrev b_LW_cut : ByteArray := method_8_code
abbrev y_LW_cut : MethodName := ⟨"LayerBudgetsLaw", "cut", "(LLayerBudgets;II[J)I"⟩
abbrev b_LB_cut : ByteArray := prog_1_method_9_code
abbrev y_LB_cut : MethodName := ⟨"LayerBudgets", "cut", "(II)I"⟩
abbrev b_LB_hasLayer : ByteArray := prog_1_method_13_code
abbrev y_LB_hasLayer : MethodName := ⟨"LayerBudgets", "hasLayer", "(I)Z"⟩
abbrev b_LW_total : ByteArray := method_9_code
abbrev y_LW_total : MethodName := ⟨"LayerBudgetsLaw", "total", "(LLayerBudgets;I[J)I"⟩
abbrev b_LB_total : ByteArray := prog_1_method_10_code
abbrev y_LB_total : MethodName := ⟨"LayerBudgets", "total", "(I)I"⟩
abbrev b_LW_threshold : ByteArray := method_10_code
abbrev y_LW_threshold : MethodName := ⟨"LayerBudgetsLaw", "threshold", "(LLayerBudgets;II[J)I"⟩
abbrev b_LB_threshold : ByteArray := prog_1_method_11_code
abbrev y_LB_threshold : MethodName := ⟨"LayerBudgets", "threshold", "(II)J"⟩
abbrev b_MD_init : ByteArray := prog_5_method_1_code
abbrev y_MD_init : MethodName := ⟨"LayerBudgetsModel", "<init>", "()V"⟩
abbrev b_MD_thrown : ByteArray := prog_5_method_2_code
abbrev y_MD_thrown : MethodName := ⟨"LayerBudgetsModel", "thrown", "()I"⟩
abbrev b_MD_clear : ByteArray := prog_5_method_5_code
abbrev y_MD_clear : MethodName := ⟨"LayerBudgetsModel", "clear", "()V"⟩
abbrev b_MD_block : ByteArray := prog_5_method_6_code
abbrev y_MD_block : MethodName := ⟨"LayerBudgetsModel", "block", "()I"⟩
abbrev b_MD_throwing : ByteArray := prog_5_method_3_code
abbrev y_MD_throwing : MethodName := ⟨"LayerBudgetsModel", "throwing", "(ZZ)Z"⟩
abbrev b_MD_pass : ByteArray := prog_5_method_7_code
abbrev y_MD_pass : MethodName := ⟨"LayerBudgetsModel", "pass", "(IIJ)I"⟩
abbrev b_MD_out : ByteArray := prog_5_method_4_code
abbrev y_MD_out : MethodName := ⟨"LayerBudgetsModel", "out", "(III)Z"⟩
abbrev b_MD_step : ByteArray := prog_5_method_14_code
abbrev y_MD_step : MethodName := ⟨"LayerBudgetsModel", "step", "(III)I"⟩
abbrev b_MD_beginOf : ByteArray := prog_5_method_12_code
abbrev y_MD_beginOf : MethodName := ⟨"LayerBudgetsModel", "beginOf", "(II)I"⟩
abbrev b_MD_stepFrom : ByteArray := prog_5_method_11_code
abbrev y_MD_stepFrom : MethodName := ⟨"LayerBudgetsModel", "stepFrom", "(II)I"⟩
abbrev b_MD_gainOf : ByteArray := prog_5_method_10_code
abbrev y_MD_gainOf : MethodName := ⟨"LayerBudgetsModel", "gainOf", "(III)J"⟩
abbrev b_MD_bytesOf : ByteArray := prog_5_method_9_code
abbrev y_MD_bytesOf : MethodName := ⟨"LayerBudgetsModel", "bytesOf", "(III)I"⟩
abbrev b_MD_compare : ByteArray := prog_5_method_8_code
abbrev y_MD_compare : MethodName := ⟨"LayerBudgetsModel", "compare", "(JIJI)I"⟩
abbrev b_MD_countOf : ByteArray := prog_5_method_13_code
abbrev y_MD_countOf : MethodName := ⟨"LayerBudgetsModel", "countOf", "(I)I"⟩
abbrev b_MD_gain : ByteArray := prog_5_method_15_code
abbrev y_MD_gain : MethodName := ⟨"LayerBudgetsModel", "gain", "(II)J"⟩
abbrev b_MD_layer : ByteArray := prog_5_method_22_code
abbrev y_MD_layer : MethodName := ⟨"LayerBudgetsModel", "layer", "(I)I"⟩
abbrev b_MD_steepest : ByteArray := prog_5_method_16_code
abbrev y_MD_steepest : MethodName := ⟨"LayerBudgetsModel", "steepest", "()I"⟩
abbrev b_MD_against : ByteArray := prog_5_method_17_code
abbrev y_MD_against : MethodName := ⟨"LayerBudgetsModel", "against", "(II)I"⟩
abbrev b_MD_sumOf : ByteArray := prog_5_method_21_code
abbrev y_MD_sumOf : MethodName := ⟨"LayerBudgetsModel", "sumOf", "()I"⟩
abbrev b_MD_costOf : ByteArray := prog_5_method_18_code
abbrev y_MD_costOf : MethodName := ⟨"LayerBudgetsModel", "costOf", "(I)J"⟩
abbrev b_MD_take : ByteArray := prog_5_method_19_code
abbrev y_MD_take : MethodName := ⟨"LayerBudgetsModel", "take", "(I)V"⟩
abbrev b_MD_goOn : ByteArray := prog_5_method_20_code
abbrev y_MD_goOn : MethodName := ⟨"LayerBudgetsModel", "goOn", "(I)V"⟩
abbrev b_MD_layers : ByteArray := prog_5_method_23_code
abbrev y_MD_layers : MethodName := ⟨"LayerBudgetsModel", "layers", "()I"⟩
abbrev b_MD_cut : ByteArray := prog_5_method_24_code
abbrev y_MD_cut : MethodName := ⟨"LayerBudgetsModel", "cut", "(II)I"⟩
abbrev b_MD_total : ByteArray := prog_5_method_25_code
abbrev y_MD_total : MethodName := ⟨"LayerBudgetsModel", "total", "(I)I"⟩
abbrev b_MD_threshold : ByteArray := prog_5_method_26_code
abbrev y_MD_threshold : MethodName := ⟨"LayerBudgetsModel", "threshold", "(II)J"⟩
abbrev b_LW_law : ByteArray := code
abbrev y_LW_law : MethodName := ⟨"LayerBudgetsLaw", "law", "([I)Z"⟩
end
section
theorem tw_at {w : Cond} (i : Nat) (h : tables_1[i]? = some w) : w ∈ lw_tbl := List.mem_append_right _ (List.mem_of_getElem? h)
theorem tw_0 : (.initialized "LayerBudgetsLaw" : Cond) ∈ lw_tbl := tw_at 0 (by decide +kernel)
theorem tw_1 : (.initialized "LayerBudgets" : Cond) ∈ lw_tbl := tw_at 1 (by decide +kernel)
theorem tw_2 : (.initialized "java/util/AbstractCollection" : Cond) ∈ lw_tbl := tw_at 2 (by decide +kernel)
theorem tw_3 : (.initialized "java/util/AbstractList" : Cond) ∈ lw_tbl := tw_at 3 (by decide +kernel)
theorem tw_4 : (.initialized "java/util/ArrayList" : Cond) ∈ lw_tbl := tw_at 4 (by decide +kernel)
theorem tw_5 : (.initialized "LayerBudgetsModel" : Cond) ∈ lw_tbl := tw_at 5 (by decide +kernel)
theorem tw_6 : (.initialized "java/util/Objects" : Cond) ∈ lw_tbl := tw_at 6 (by decide +kernel)
theorem tw_7 : (.initialized "jdk/internal/util/Preconditions" : Cond) ∈ lw_tbl := tw_at 7 (by decide +kernel)
theorem tw_8 : (.initialized "java/lang/Throwable" : Cond) ∈ lw_tbl := tw_at 8 (by decide +kernel)
theorem tw_9 : (.initialized "java/lang/Exception" : Cond) ∈ lw_tbl := tw_at 9 (by decide +kernel)
theorem tw_10 : (.initialized "java/lang/RuntimeException" : Cond) ∈ lw_tbl := tw_at 10 (by decide +kernel)
theorem tw_11 : (.initialized "java/lang/IllegalStateException" : Cond) ∈ lw_tbl := tw_at 11 (by decide +kernel)
theorem tw_12 : (.initialized "LayerBudgets$Block" : Cond) ∈ lw_tbl := tw_at 12 (by decide +kernel)
theorem tw_13 : (.initialized "jdk/internal/util/ArraysSupport" : Cond) ∈ lw_tbl := tw_at 13 (by decide +kernel)
theorem tw_14 : (.initialized "java/lang/Math" : Cond) ∈ lw_tbl := tw_at 14 (by decide +kernel)
theorem tw_15 : (.initialized "java/util/Arrays" : Cond) ∈ lw_tbl := tw_at 15 (by decide +kernel)
theorem tw_16 : (.initialized "java/lang/System" : Cond) ∈ lw_tbl := tw_at 16 (by decide +kernel)
theorem tw_17 : (.initialized "java/lang/IllegalArgumentException" : Cond) ∈ lw_tbl := tw_at 17 (by decide +kernel)
theorem tw_18 : (.initialized "java/lang/Long" : Cond) ∈ lw_tbl := tw_at 18 (by decide +kernel)
theorem tw_19 : (.initialized "java/lang/IndexOutOfBoundsException" : Cond) ∈ lw_tbl := tw_at 19 (by decide +kernel)
theorem tw_20 : (.initialized "LayerBudgets$Layer" : Cond) ∈ lw_tbl := tw_at 20 (by decide +kernel)
theorem tw_21 : (.classLink "LayerBudgetsLaw" 8 "LayerBudgets" : Cond) ∈ lw_tbl := tw_at 21 (by decide +kernel)
theorem tw_22 : (.instantiable "LayerBudgets" 4 : Cond) ∈ lw_tbl := tw_at 22 (by decide +kernel)
theorem tw_23 : (.methodLink "LayerBudgetsLaw" 45 ⟨"LayerBudgets", "<init>", "()V"⟩ : Cond) ∈ lw_tbl := tw_at 23 (by decide +kernel)
theorem tw_24 : (.instanceMethod ⟨"LayerBudgets", "<init>", "()V"⟩ : Cond) ∈ lw_tbl := tw_at 24 (by decide +kernel)
theorem tw_25 : (.code ⟨"LayerBudgets", "<init>", "()V"⟩ prog_1_method_1_code 1 none : Cond) ∈ lw_tbl := tw_at 25 (by decide +kernel)
theorem tw_26 : (.methodLink "LayerBudgets" 1 ⟨"java/lang/Object", "<init>", "()V"⟩ : Cond) ∈ lw_tbl := tw_at 26 (by decide +kernel)
theorem tw_27 : (.instanceMethod ⟨"java/lang/Object", "<init>", "()V"⟩ : Cond) ∈ lw_tbl := tw_at 27 (by decide +kernel)
theorem tw_28 : (.code ⟨"java/lang/Object", "<init>", "()V"⟩ object_method_1_code 1 none : Cond) ∈ lw_tbl := tw_at 28 (by decide +kernel)
theorem tw_29 : (.classLink "LayerBudgets" 7 "java/util/ArrayList" : Cond) ∈ lw_tbl := tw_at 29 (by decide +kernel)
theorem tw_30 : (.instantiable "java/util/ArrayList" 3 : Cond) ∈ lw_tbl := tw_at 30 (by decide +kernel)
theorem tw_31 : (.methodLink "LayerBudgets" 9 ⟨"java/util/ArrayList", "<init>", "()V"⟩ : Cond) ∈ lw_tbl := tw_at 31 (by decide +kernel)
theorem tw_32 : (.instanceMethod ⟨"java/util/ArrayList", "<init>", "()V"⟩ : Cond) ∈ lw_tbl := tw_at 32 (by decide +kernel)
theorem tw_33 : (.code ⟨"java/util/ArrayList", "<init>", "()V"⟩ prog_21_method_2_code 1 none : Cond) ∈ lw_tbl := tw_at 33 (by decide +kernel)
theorem tw_34 : (.methodLink "java/util/ArrayList" 1 ⟨"java/util/AbstractList", "<init>", "()V"⟩ : Cond) ∈ lw_tbl := tw_at 34 (by decide +kernel)
theorem tw_35 : (.instanceMethod ⟨"java/util/AbstractList", "<init>", "()V"⟩ : Cond) ∈ lw_tbl := tw_at 35 (by decide +kernel)
theorem tw_36 : (.code ⟨"java/util/AbstractList", "<init>", "()V"⟩ prog_20_method_1_code 1 none : Cond) ∈ lw_tbl := tw_at 36 (by decide +kernel)
theorem tw_37 : (.methodLink "java/util/AbstractList" 1 ⟨"java/util/AbstractCollection", "<init>", "()V"⟩ : Cond) ∈ lw_tbl := tw_at 37 (by decide +kernel)
theorem tw_38 : (.instanceMethod ⟨"java/util/AbstractCollection", "<init>", "()V"⟩ : Cond) ∈ lw_tbl := tw_at 38 (by decide +kernel)
theorem tw_39 : (.code ⟨"java/util/AbstractCollection", "<init>", "()V"⟩ prog_19_method_1_code 1 none : Cond) ∈ lw_tbl := tw_at 39 (by decide +kernel)
theorem tw_40 : (.methodLink "java/util/AbstractCollection" 1 ⟨"java/lang/Object", "<init>", "()V"⟩ : Cond) ∈ lw_tbl := tw_at 40 (by decide +kernel)
theorem tw_41 : (.fieldLink "java/util/ArrayList" 39 "java/util/ArrayList" "DEFAULTCAPACITY_EMPTY_ELEMENTDATA" "[Ljava/lang/Object;" : Cond) ∈ lw_tbl := tw_at 41 (by decide +kernel)
theorem tw_42 : (.laysStatic "java/util/ArrayList" "DEFAULTCAPACITY_EMPTY_ELEMENTDATA" "[Ljava/lang/Object;" : Cond) ∈ lw_tbl := tw_at 42 (by decide +kernel)
theorem tw_43 : (.fieldLink "java/util/ArrayList" 9 "java/util/ArrayList" "elementData" "[Ljava/lang/Object;" : Cond) ∈ lw_tbl := tw_at 43 (by decide +kernel)
theorem tw_44 : (.fieldLink "java/util/ArrayList" 48 "java/util/ArrayList" "size" "I" : Cond) ∈ lw_tbl := tw_at 44 (by decide +kernel)
theorem tw_45 : (.fieldLink "java/util/AbstractList" 7 "java/util/AbstractList" "modCount" "I" : Cond) ∈ lw_tbl := tw_at 45 (by decide +kernel)
theorem tw_46 : (.fieldLink "java/util/ArrayList" 63 "java/util/ArrayList" "modCount" "I" : Cond) ∈ lw_tbl := tw_at 46 (by decide +kernel)
theorem tw_47 : (.sameField "java/util/ArrayList" "java/util/AbstractList" "modCount" "I" : Cond) ∈ lw_tbl := tw_at 47 (by decide +kernel)
theorem tw_48 : (.lays "java/util/ArrayList" "java/util/ArrayList" "elementData" "[Ljava/lang/Object;" : Cond) ∈ lw_tbl := tw_at 48 (by decide +kernel)
theorem tw_49 : (.soleField "java/util/ArrayList" "elementData" : Cond) ∈ lw_tbl := tw_at 49 (by decide +kernel)
theorem tw_50 : (.lays "java/util/ArrayList" "java/util/ArrayList" "size" "I" : Cond) ∈ lw_tbl := tw_at 50 (by decide +kernel)
theorem tw_51 : (.soleField "java/util/ArrayList" "size" : Cond) ∈ lw_tbl := tw_at 51 (by decide +kernel)
theorem tw_52 : (.lays "java/util/ArrayList" "java/util/AbstractList" "modCount" "I" : Cond) ∈ lw_tbl := tw_at 52 (by decide +kernel)
theorem tw_53 : (.soleField "java/util/AbstractList" "modCount" : Cond) ∈ lw_tbl := tw_at 53 (by decide +kernel)
theorem tw_54 : (.superclass "java/util/ArrayList" "java/util/AbstractList" : Cond) ∈ lw_tbl := tw_at 54 (by decide +kernel)
theorem tw_55 : (.fieldLink "LayerBudgets" 10 "LayerBudgets" "blockList" "Ljava/util/ArrayList;" : Cond) ∈ lw_tbl := tw_at 55 (by decide +kernel)
theorem tw_56 : (.fieldLink "LayerBudgets" 16 "LayerBudgets" "layerList" "Ljava/util/ArrayList;" : Cond) ∈ lw_tbl := tw_at 56 (by decide +kernel)
theorem tw_57 : (.fieldLink "LayerBudgets" 25 "LayerBudgets" "passCount" "I" : Cond) ∈ lw_tbl := tw_at 57 (by decide +kernel)
theorem tw_58 : (.fieldLink "LayerBudgets" 147 "LayerBudgets" "takenBytes" "I" : Cond) ∈ lw_tbl := tw_at 58 (by decide +kernel)
theorem tw_59 : (.laysFinal "LayerBudgets" "LayerBudgets" "blockList" "Ljava/util/ArrayList;" : Cond) ∈ lw_tbl := tw_at 59 (by decide +kernel)
theorem tw_60 : (.soleField "LayerBudgets" "blockList" : Cond) ∈ lw_tbl := tw_at 60 (by decide +kernel)
theorem tw_61 : (.laysFinal "LayerBudgets" "LayerBudgets" "layerList" "Ljava/util/ArrayList;" : Cond) ∈ lw_tbl := tw_at 61 (by decide +kernel)
theorem tw_62 : (.soleField "LayerBudgets" "layerList" : Cond) ∈ lw_tbl := tw_at 62 (by decide +kernel)
theorem tw_63 : (.lays "LayerBudgets" "LayerBudgets" "passCount" "I" : Cond) ∈ lw_tbl := tw_at 63 (by decide +kernel)
theorem tw_64 : (.soleField "LayerBudgets" "passCount" : Cond) ∈ lw_tbl := tw_at 64 (by decide +kernel)
theorem tw_65 : (.lays "LayerBudgets" "LayerBudgets" "takenBytes" "I" : Cond) ∈ lw_tbl := tw_at 65 (by decide +kernel)
theorem tw_66 : (.soleField "LayerBudgets" "takenBytes" : Cond) ∈ lw_tbl := tw_at 66 (by decide +kernel)
theorem tw_67 : (.superclass "LayerBudgets" "java/lang/Object" : Cond) ∈ lw_tbl := tw_at 67 (by decide +kernel)
theorem tw_68 : (.methodLink "LayerBudgetsLaw" 49 ⟨"LayerBudgets", "clear", "()V"⟩ : Cond) ∈ lw_tbl := tw_at 68 (by decide +kernel)
theorem tw_69 : (.instanceMethod ⟨"LayerBudgets", "clear", "()V"⟩ : Cond) ∈ lw_tbl := tw_at 69 (by decide +kernel)
theorem tw_70 : (.selects "LayerBudgets" ⟨"LayerBudgets", "clear", "()V"⟩ ⟨"LayerBudgets", "clear", "()V"⟩ : Cond) ∈ lw_tbl := tw_at 70 (by decide +kernel)
theorem tw_71 : (.code ⟨"LayerBudgets", "clear", "()V"⟩ prog_1_method_2_code 1 none : Cond) ∈ lw_tbl := tw_at 71 (by decide +kernel)
theorem tw_72 : (.methodLink "LayerBudgets" 19 ⟨"LayerBudgets", "dropLayers", "()V"⟩ : Cond) ∈ lw_tbl := tw_at 72 (by decide +kernel)
theorem tw_73 : (.privateMethod ⟨"LayerBudgets", "dropLayers", "()V"⟩ : Cond) ∈ lw_tbl := tw_at 73 (by decide +kernel)
theorem tw_74 : (.instanceMethod ⟨"LayerBudgets", "dropLayers", "()V"⟩ : Cond) ∈ lw_tbl := tw_at 74 (by decide +kernel)
theorem tw_75 : (.code ⟨"LayerBudgets", "dropLayers", "()V"⟩ prog_1_method_14_code 2 none : Cond) ∈ lw_tbl := tw_at 75 (by decide +kernel)
theorem tw_76 : (.methodLink "LayerBudgets" 143 ⟨"java/util/ArrayList", "isEmpty", "()Z"⟩ : Cond) ∈ lw_tbl := tw_at 76 (by decide +kernel)
theorem tw_77 : (.instanceMethod ⟨"java/util/ArrayList", "isEmpty", "()Z"⟩ : Cond) ∈ lw_tbl := tw_at 77 (by decide +kernel)
theorem tw_78 : (.selects "java/util/ArrayList" ⟨"java/util/ArrayList", "isEmpty", "()Z"⟩ ⟨"java/util/ArrayList", "isEmpty", "()Z"⟩ : Cond) ∈ lw_tbl := tw_at 78 (by decide +kernel)
theorem tw_79 : (.code ⟨"java/util/ArrayList", "isEmpty", "()Z"⟩ prog_21_method_9_code 1 (some FieldType.boolean) : Cond) ∈ lw_tbl := tw_at 79 (by decide +kernel)
theorem tw_80 : (.methodLink "LayerBudgets" 22 ⟨"java/util/ArrayList", "clear", "()V"⟩ : Cond) ∈ lw_tbl := tw_at 80 (by decide +kernel)
theorem tw_81 : (.instanceMethod ⟨"java/util/ArrayList", "clear", "()V"⟩ : Cond) ∈ lw_tbl := tw_at 81 (by decide +kernel)
theorem tw_82 : (.selects "java/util/ArrayList" ⟨"java/util/ArrayList", "clear", "()V"⟩ ⟨"java/util/ArrayList", "clear", "()V"⟩ : Cond) ∈ lw_tbl := tw_at 82 (by decide +kernel)
theorem tw_83 : (.code ⟨"java/util/ArrayList", "clear", "()V"⟩ prog_21_method_40_code 4 none : Cond) ∈ lw_tbl := tw_at 83 (by decide +kernel)
theorem tw_84 : (.methodLink "LayerBudgets" 29 ⟨"java/util/ArrayList", "size", "()I"⟩ : Cond) ∈ lw_tbl := tw_at 84 (by decide +kernel)
theorem tw_85 : (.instanceMethod ⟨"java/util/ArrayList", "size", "()I"⟩ : Cond) ∈ lw_tbl := tw_at 85 (by decide +kernel)
theorem tw_86 : (.selects "java/util/ArrayList" ⟨"java/util/ArrayList", "size", "()I"⟩ ⟨"java/util/ArrayList", "size", "()I"⟩ : Cond) ∈ lw_tbl := tw_at 86 (by decide +kernel)
theorem tw_87 : (.code ⟨"java/util/ArrayList", "size", "()I"⟩ prog_21_method_8_code 1 (some FieldType.int) : Cond) ∈ lw_tbl := tw_at 87 (by decide +kernel)
theorem tw_88 : (.methodLink "LayerBudgets" 64 ⟨"java/util/ArrayList", "get", "(I)Ljava/lang/Object;"⟩ : Cond) ∈ lw_tbl := tw_at 88 (by decide +kernel)
theorem tw_89 : (.instanceMethod ⟨"java/util/ArrayList", "get", "(I)Ljava/lang/Object;"⟩ : Cond) ∈ lw_tbl := tw_at 89 (by decide +kernel)
theorem tw_90 : (.selects "java/util/ArrayList" ⟨"java/util/ArrayList", "get", "(I)Ljava/lang/Object;"⟩ ⟨"java/util/ArrayList", "get", "(I)Ljava/lang/Object;"⟩ : Cond) ∈ lw_tbl := tw_at 90 (by decide +kernel)
theorem tw_91 : (.code ⟨"java/util/ArrayList", "get", "(I)Ljava/lang/Object;"⟩ prog_21_method_20_code 2 (some (FieldType.object "java/lang/Object")) : Cond) ∈ lw_tbl := tw_at 91 (by decide +kernel)
theorem tw_92 : (.methodLink "java/util/ArrayList" 118 ⟨"java/util/Objects", "checkIndex", "(II)I"⟩ : Cond) ∈ lw_tbl := tw_at 92 (by decide +kernel)
theorem tw_93 : (.static ⟨"java/util/Objects", "checkIndex", "(II)I"⟩ : Cond) ∈ lw_tbl := tw_at 93 (by decide +kernel)
theorem tw_94 : (.code ⟨"java/util/Objects", "checkIndex", "(II)I"⟩ prog_25_method_17_code 2 (some FieldType.int) : Cond) ∈ lw_tbl := tw_at 94 (by decide +kernel)
theorem tw_95 : (.methodLink "java/util/Objects" 105 ⟨"jdk/internal/util/Preconditions", "checkIndex", "(IILjava/util/function/BiFunction;)I"⟩ : Cond) ∈ lw_tbl := tw_at 95 (by decide +kernel)
theorem tw_96 : (.static ⟨"jdk/internal/util/Preconditions", "checkIndex", "(IILjava/util/function/BiFunction;)I"⟩ : Cond) ∈ lw_tbl := tw_at 96 (by decide +kernel)
theorem tw_97 : (.code ⟨"jdk/internal/util/Preconditions", "checkIndex", "(IILjava/util/function/BiFunction;)I"⟩ prog_29_method_11_code 3 (some FieldType.int) : Cond) ∈ lw_tbl := tw_at 97 (by decide +kernel)
theorem tw_98 : (.methodLink "java/util/ArrayList" 123 ⟨"java/util/ArrayList", "elementData", "(I)Ljava/lang/Object;"⟩ : Cond) ∈ lw_tbl := tw_at 98 (by decide +kernel)
theorem tw_99 : (.instanceMethod ⟨"java/util/ArrayList", "elementData", "(I)Ljava/lang/Object;"⟩ : Cond) ∈ lw_tbl := tw_at 99 (by decide +kernel)
theorem tw_100 : (.selects "java/util/ArrayList" ⟨"java/util/ArrayList", "elementData", "(I)Ljava/lang/Object;"⟩ ⟨"java/util/ArrayList", "elementData", "(I)Ljava/lang/Object;"⟩ : Cond) ∈ lw_tbl := tw_at 100 (by decide +kernel)
theorem tw_101 : (.code ⟨"java/util/ArrayList", "elementData", "(I)Ljava/lang/Object;"⟩ prog_21_method_18_code 2 (some (FieldType.object "java/lang/Object")) : Cond) ∈ lw_tbl := tw_at 101 (by decide +kernel)
theorem tw_102 : (.classLink "LayerBudgets" 40 "LayerBudgets$Block" : Cond) ∈ lw_tbl := tw_at 102 (by decide +kernel)
theorem tw_103 : (.methodLinkNest "LayerBudgets" 150 ⟨"LayerBudgets$Block", "takeNothing", "()V"⟩ "LayerBudgets" : Cond) ∈ lw_tbl := tw_at 103 (by decide +kernel)
theorem tw_104 : (.privateMethod ⟨"LayerBudgets$Block", "takeNothing", "()V"⟩ : Cond) ∈ lw_tbl := tw_at 104 (by decide +kernel)
theorem tw_105 : (.instanceMethod ⟨"LayerBudgets$Block", "takeNothing", "()V"⟩ : Cond) ∈ lw_tbl := tw_at 105 (by decide +kernel)
theorem tw_106 : (.instantiable "LayerBudgets$Block" 7 : Cond) ∈ lw_tbl := tw_at 106 (by decide +kernel)
theorem tw_107 : (.code ⟨"LayerBudgets$Block", "takeNothing", "()V"⟩ prog_2_method_17_code 1 none : Cond) ∈ lw_tbl := tw_at 107 (by decide +kernel)
theorem tw_108 : (.methodLink "LayerBudgetsLaw" 80 ⟨"LayerBudgets", "layers", "()I"⟩ : Cond) ∈ lw_tbl := tw_at 108 (by decide +kernel)
theorem tw_109 : (.instanceMethod ⟨"LayerBudgets", "layers", "()I"⟩ : Cond) ∈ lw_tbl := tw_at 109 (by decide +kernel)
theorem tw_110 : (.selects "LayerBudgets" ⟨"LayerBudgets", "layers", "()I"⟩ ⟨"LayerBudgets", "layers", "()I"⟩ : Cond) ∈ lw_tbl := tw_at 110 (by decide +kernel)
theorem tw_111 : (.code ⟨"LayerBudgets", "layers", "()I"⟩ prog_1_method_8_code 1 (some FieldType.int) : Cond) ∈ lw_tbl := tw_at 111 (by decide +kernel)
theorem tw_112 : (.methodLink "LayerBudgetsLaw" 53 ⟨"LayerBudgetsLaw", "block", "(LLayerBudgets;[J)I"⟩ : Cond) ∈ lw_tbl := tw_at 112 (by decide +kernel)
theorem tw_113 : (.static ⟨"LayerBudgetsLaw", "block", "(LLayerBudgets;[J)I"⟩ : Cond) ∈ lw_tbl := tw_at 113 (by decide +kernel)
theorem tw_114 : (.codeWith ⟨"LayerBudgetsLaw", "block", "(LLayerBudgets;[J)I"⟩ method_3_code 3 (some FieldType.int) [(0, 8, 11, 13)] : Cond) ∈ lw_tbl := tw_at 114 (by decide +kernel)
theorem tw_115 : (.classLink "LayerBudgetsLaw" 13 "java/lang/IllegalStateException" : Cond) ∈ lw_tbl := tw_at 115 (by decide +kernel)
theorem tw_116 : (.methodLink "LayerBudgetsLaw" 7 ⟨"LayerBudgets", "block", "()I"⟩ : Cond) ∈ lw_tbl := tw_at 116 (by decide +kernel)
theorem tw_117 : (.instanceMethod ⟨"LayerBudgets", "block", "()I"⟩ : Cond) ∈ lw_tbl := tw_at 117 (by decide +kernel)
theorem tw_118 : (.selects "LayerBudgets" ⟨"LayerBudgets", "block", "()I"⟩ ⟨"LayerBudgets", "block", "()I"⟩ : Cond) ∈ lw_tbl := tw_at 118 (by decide +kernel)
theorem tw_119 : (.code ⟨"LayerBudgets", "block", "()I"⟩ prog_1_method_3_code 1 (some FieldType.int) : Cond) ∈ lw_tbl := tw_at 119 (by decide +kernel)
theorem tw_120 : (.classLink "LayerBudgets" 33 "java/lang/IllegalStateException" : Cond) ∈ lw_tbl := tw_at 120 (by decide +kernel)
theorem tw_121 : (.instantiable "java/lang/IllegalStateException" 6 : Cond) ∈ lw_tbl := tw_at 121 (by decide +kernel)
theorem tw_122 : (.castable "java/lang/IllegalStateException" "java/lang/IllegalStateException" : Cond) ∈ lw_tbl := tw_at 122 (by decide +kernel)
theorem tw_123 : (.declares ⟨"java/lang/RuntimeException", "<init>", "()V"⟩ : Cond) ∈ lw_tbl := tw_at 123 (by decide +kernel)
theorem tw_124 : (.declares ⟨"java/lang/RuntimeException", "<init>", "(Ljava/lang/String;)V"⟩ : Cond) ∈ lw_tbl := tw_at 124 (by decide +kernel)
theorem tw_125 : (.declares ⟨"java/lang/Exception", "<init>", "()V"⟩ : Cond) ∈ lw_tbl := tw_at 125 (by decide +kernel)
theorem tw_126 : (.declares ⟨"java/lang/Exception", "<init>", "(Ljava/lang/String;)V"⟩ : Cond) ∈ lw_tbl := tw_at 126 (by decide +kernel)
theorem tw_127 : (.declares ⟨"java/lang/Throwable", "<init>", "()V"⟩ : Cond) ∈ lw_tbl := tw_at 127 (by decide +kernel)
theorem tw_128 : (.declares ⟨"java/lang/Throwable", "<init>", "(Ljava/lang/String;)V"⟩ : Cond) ∈ lw_tbl := tw_at 128 (by decide +kernel)
theorem tw_129 : (.selects "java/lang/IllegalStateException" ⟨"java/lang/Throwable", "fillInStackTrace", "(I)Ljava/lang/Throwable;"⟩ ⟨"java/lang/Throwable", "fillInStackTrace", "(I)Ljava/lang/Throwable;"⟩ : Cond) ∈ lw_tbl := tw_at 129 (by decide +kernel)
theorem tw_130 : (.selects "java/lang/IllegalStateException" ⟨"java/lang/Throwable", "fillInStackTrace", "()Ljava/lang/Throwable;"⟩ ⟨"java/lang/Throwable", "fillInStackTrace", "()Ljava/lang/Throwable;"⟩ : Cond) ∈ lw_tbl := tw_at 130 (by decide +kernel)
theorem tw_131 : (.lays "java/lang/IllegalStateException" "java/lang/Throwable" "cause" "Ljava/lang/Throwable;" : Cond) ∈ lw_tbl := tw_at 131 (by decide +kernel)
theorem tw_132 : (.lays "java/lang/Throwable" "java/lang/Throwable" "cause" "Ljava/lang/Throwable;" : Cond) ∈ lw_tbl := tw_at 132 (by decide +kernel)
theorem tw_133 : (.lays "java/lang/IllegalStateException" "java/lang/Throwable" "stackTrace" "[Ljava/lang/StackTraceElement;" : Cond) ∈ lw_tbl := tw_at 133 (by decide +kernel)
theorem tw_134 : (.lays "java/lang/Throwable" "java/lang/Throwable" "stackTrace" "[Ljava/lang/StackTraceElement;" : Cond) ∈ lw_tbl := tw_at 134 (by decide +kernel)
theorem tw_135 : (.lays "java/lang/IllegalStateException" "java/lang/Throwable" "suppressedExceptions" "Ljava/util/List;" : Cond) ∈ lw_tbl := tw_at 135 (by decide +kernel)
theorem tw_136 : (.lays "java/lang/Throwable" "java/lang/Throwable" "suppressedExceptions" "Ljava/util/List;" : Cond) ∈ lw_tbl := tw_at 136 (by decide +kernel)
theorem tw_137 : (.lays "java/lang/IllegalStateException" "java/lang/Throwable" "detailMessage" "Ljava/lang/String;" : Cond) ∈ lw_tbl := tw_at 137 (by decide +kernel)
theorem tw_138 : (.lays "java/lang/Throwable" "java/lang/Throwable" "detailMessage" "Ljava/lang/String;" : Cond) ∈ lw_tbl := tw_at 138 (by decide +kernel)
theorem tw_139 : (.lays "java/lang/IllegalStateException" "java/lang/Throwable" "backtrace" "Ljava/lang/Object;" : Cond) ∈ lw_tbl := tw_at 139 (by decide +kernel)
theorem tw_140 : (.lays "java/lang/Throwable" "java/lang/Throwable" "backtrace" "Ljava/lang/Object;" : Cond) ∈ lw_tbl := tw_at 140 (by decide +kernel)
theorem tw_141 : (.fieldLink "java/lang/Throwable" 198 "java/lang/Throwable" "backtrace" "Ljava/lang/Object;" : Cond) ∈ lw_tbl := tw_at 141 (by decide +kernel)
theorem tw_142 : (.superclass "java/lang/Throwable" "java/lang/Object" : Cond) ∈ lw_tbl := tw_at 142 (by decide +kernel)
theorem tw_143 : (.instanceMethod ⟨"java/lang/Throwable", "<init>", "()V"⟩ : Cond) ∈ lw_tbl := tw_at 143 (by decide +kernel)
theorem tw_144 : (.code ⟨"java/lang/Throwable", "<init>", "()V"⟩ prog_18_method_1_code 1 none : Cond) ∈ lw_tbl := tw_at 144 (by decide +kernel)
theorem tw_145 : (.methodLink "java/lang/Throwable" 1 ⟨"java/lang/Object", "<init>", "()V"⟩ : Cond) ∈ lw_tbl := tw_at 145 (by decide +kernel)
theorem tw_146 : (.fieldLink "java/lang/Throwable" 13 "java/lang/Throwable" "UNASSIGNED_STACK" "[Ljava/lang/StackTraceElement;" : Cond) ∈ lw_tbl := tw_at 146 (by decide +kernel)
theorem tw_147 : (.laysStatic "java/lang/Throwable" "UNASSIGNED_STACK" "[Ljava/lang/StackTraceElement;" : Cond) ∈ lw_tbl := tw_at 147 (by decide +kernel)
theorem tw_148 : (.fieldLink "java/lang/Throwable" 20 "java/lang/Throwable" "SUPPRESSED_SENTINEL" "Ljava/util/List;" : Cond) ∈ lw_tbl := tw_at 148 (by decide +kernel)
theorem tw_149 : (.laysStatic "java/lang/Throwable" "SUPPRESSED_SENTINEL" "Ljava/util/List;" : Cond) ∈ lw_tbl := tw_at 149 (by decide +kernel)
theorem tw_150 : (.methodLink "java/lang/Throwable" 27 ⟨"java/lang/Throwable", "fillInStackTrace", "()Ljava/lang/Throwable;"⟩ : Cond) ∈ lw_tbl := tw_at 150 (by decide +kernel)
theorem tw_151 : (.instanceMethod ⟨"java/lang/Throwable", "fillInStackTrace", "()Ljava/lang/Throwable;"⟩ : Cond) ∈ lw_tbl := tw_at 151 (by decide +kernel)
theorem tw_152 : (.sameMethod "java/lang/Throwable" "java/lang/Throwable" "fillInStackTrace" "()Ljava/lang/Throwable;" : Cond) ∈ lw_tbl := tw_at 152 (by decide +kernel)
theorem tw_153 : (.selects "java/lang/IllegalArgumentException" ⟨"java/lang/Throwable", "fillInStackTrace", "()Ljava/lang/Throwable;"⟩ ⟨"java/lang/Throwable", "fillInStackTrace", "()Ljava/lang/Throwable;"⟩ : Cond) ∈ lw_tbl := tw_at 153 (by decide +kernel)
theorem tw_154 : (.selects "java/lang/IndexOutOfBoundsException" ⟨"java/lang/Throwable", "fillInStackTrace", "()Ljava/lang/Throwable;"⟩ ⟨"java/lang/Throwable", "fillInStackTrace", "()Ljava/lang/Throwable;"⟩ : Cond) ∈ lw_tbl := tw_at 154 (by decide +kernel)
theorem tw_155 : (.codeSync ⟨"java/lang/Throwable", "fillInStackTrace", "()Ljava/lang/Throwable;"⟩ prog_18_method_18_code 1 (some (FieldType.object "java/lang/Throwable")) : Cond) ∈ lw_tbl := tw_at 155 (by decide +kernel)
theorem tw_156 : (.methodLink "java/lang/Throwable" 202 ⟨"java/lang/Throwable", "fillInStackTrace", "(I)Ljava/lang/Throwable;"⟩ : Cond) ∈ lw_tbl := tw_at 156 (by decide +kernel)
theorem tw_157 : (.privateMethod ⟨"java/lang/Throwable", "fillInStackTrace", "(I)Ljava/lang/Throwable;"⟩ : Cond) ∈ lw_tbl := tw_at 157 (by decide +kernel)
theorem tw_158 : (.instanceMethod ⟨"java/lang/Throwable", "fillInStackTrace", "(I)Ljava/lang/Throwable;"⟩ : Cond) ∈ lw_tbl := tw_at 158 (by decide +kernel)
theorem tw_159 : (.instantiable "java/lang/Throwable" 6 : Cond) ∈ lw_tbl := tw_at 159 (by decide +kernel)
theorem tw_160 : (.native ⟨"java/lang/Throwable", "fillInStackTrace", "(I)Ljava/lang/Throwable;"⟩ : Cond) ∈ lw_tbl := tw_at 160 (by decide +kernel)
theorem tw_161 : (.stringRef "LayerBudgets" 35 "there are 1024 blocks" : Cond) ∈ lw_tbl := tw_at 161 (by decide +kernel)
theorem tw_162 : (.methodLink "LayerBudgets" 37 ⟨"java/lang/IllegalStateException", "<init>", "(Ljava/lang/String;)V"⟩ : Cond) ∈ lw_tbl := tw_at 162 (by decide +kernel)
theorem tw_163 : (.instanceMethod ⟨"java/lang/IllegalStateException", "<init>", "(Ljava/lang/String;)V"⟩ : Cond) ∈ lw_tbl := tw_at 163 (by decide +kernel)
theorem tw_164 : (.code ⟨"java/lang/IllegalStateException", "<init>", "(Ljava/lang/String;)V"⟩ prog_10_method_2_code 2 none : Cond) ∈ lw_tbl := tw_at 164 (by decide +kernel)
theorem tw_165 : (.methodLink "java/lang/IllegalStateException" 7 ⟨"java/lang/RuntimeException", "<init>", "(Ljava/lang/String;)V"⟩ : Cond) ∈ lw_tbl := tw_at 165 (by decide +kernel)
theorem tw_166 : (.instanceMethod ⟨"java/lang/RuntimeException", "<init>", "(Ljava/lang/String;)V"⟩ : Cond) ∈ lw_tbl := tw_at 166 (by decide +kernel)
theorem tw_167 : (.code ⟨"java/lang/RuntimeException", "<init>", "(Ljava/lang/String;)V"⟩ prog_15_method_2_code 2 none : Cond) ∈ lw_tbl := tw_at 167 (by decide +kernel)
theorem tw_168 : (.methodLink "java/lang/RuntimeException" 7 ⟨"java/lang/Exception", "<init>", "(Ljava/lang/String;)V"⟩ : Cond) ∈ lw_tbl := tw_at 168 (by decide +kernel)
theorem tw_169 : (.instanceMethod ⟨"java/lang/Exception", "<init>", "(Ljava/lang/String;)V"⟩ : Cond) ∈ lw_tbl := tw_at 169 (by decide +kernel)
theorem tw_170 : (.code ⟨"java/lang/Exception", "<init>", "(Ljava/lang/String;)V"⟩ prog_8_method_2_code 2 none : Cond) ∈ lw_tbl := tw_at 170 (by decide +kernel)
theorem tw_171 : (.methodLink "java/lang/Exception" 7 ⟨"java/lang/Throwable", "<init>", "(Ljava/lang/String;)V"⟩ : Cond) ∈ lw_tbl := tw_at 171 (by decide +kernel)
theorem tw_172 : (.instanceMethod ⟨"java/lang/Throwable", "<init>", "(Ljava/lang/String;)V"⟩ : Cond) ∈ lw_tbl := tw_at 172 (by decide +kernel)
theorem tw_173 : (.code ⟨"java/lang/Throwable", "<init>", "(Ljava/lang/String;)V"⟩ prog_18_method_2_code 2 none : Cond) ∈ lw_tbl := tw_at 173 (by decide +kernel)
theorem tw_174 : (.fieldLink "java/lang/Throwable" 198 "java/lang/Throwable" "backtrace" "Ljava/lang/Object;" : Cond) ∈ lw_tbl := tw_at 174 (by decide +kernel)
theorem tw_175 : (.fieldLink "java/lang/Throwable" 31 "java/lang/Throwable" "detailMessage" "Ljava/lang/String;" : Cond) ∈ lw_tbl := tw_at 175 (by decide +kernel)
theorem tw_176 : (.fieldLink "java/lang/Throwable" 7 "java/lang/Throwable" "cause" "Ljava/lang/Throwable;" : Cond) ∈ lw_tbl := tw_at 176 (by decide +kernel)
theorem tw_177 : (.fieldLink "java/lang/Throwable" 17 "java/lang/Throwable" "stackTrace" "[Ljava/lang/StackTraceElement;" : Cond) ∈ lw_tbl := tw_at 177 (by decide +kernel)
theorem tw_178 : (.fieldLink "java/lang/Throwable" 24 "java/lang/Throwable" "suppressedExceptions" "Ljava/util/List;" : Cond) ∈ lw_tbl := tw_at 178 (by decide +kernel)
theorem tw_179 : (.soleField "java/lang/Throwable" "backtrace" : Cond) ∈ lw_tbl := tw_at 179 (by decide +kernel)
theorem tw_180 : (.soleField "java/lang/Throwable" "detailMessage" : Cond) ∈ lw_tbl := tw_at 180 (by decide +kernel)
theorem tw_181 : (.soleField "java/lang/Throwable" "cause" : Cond) ∈ lw_tbl := tw_at 181 (by decide +kernel)
theorem tw_182 : (.soleField "java/lang/Throwable" "stackTrace" : Cond) ∈ lw_tbl := tw_at 182 (by decide +kernel)
theorem tw_183 : (.lays "java/lang/IllegalStateException" "java/lang/Throwable" "depth" "I" : Cond) ∈ lw_tbl := tw_at 183 (by decide +kernel)
theorem tw_184 : (.soleField "java/lang/Throwable" "depth" : Cond) ∈ lw_tbl := tw_at 184 (by decide +kernel)
theorem tw_185 : (.soleField "java/lang/Throwable" "suppressedExceptions" : Cond) ∈ lw_tbl := tw_at 185 (by decide +kernel)
theorem tw_186 : (.superclass "java/lang/IllegalStateException" "java/lang/RuntimeException" : Cond) ∈ lw_tbl := tw_at 186 (by decide +kernel)
theorem tw_187 : (.arrayClass FieldType.byte : Cond) ∈ lw_tbl := tw_at 187 (by decide +kernel)
theorem tw_188 : (.methodLinkNest "LayerBudgets" 42 ⟨"LayerBudgets$Block", "<init>", "()V"⟩ "LayerBudgets" : Cond) ∈ lw_tbl := tw_at 188 (by decide +kernel)
theorem tw_189 : (.instanceMethod ⟨"LayerBudgets$Block", "<init>", "()V"⟩ : Cond) ∈ lw_tbl := tw_at 189 (by decide +kernel)
theorem tw_190 : (.code ⟨"LayerBudgets$Block", "<init>", "()V"⟩ prog_2_method_1_code 1 none : Cond) ∈ lw_tbl := tw_at 190 (by decide +kernel)
theorem tw_191 : (.methodLink "LayerBudgets$Block" 3 ⟨"java/lang/Object", "<init>", "()V"⟩ : Cond) ∈ lw_tbl := tw_at 191 (by decide +kernel)
theorem tw_192 : (.fieldLink "LayerBudgets$Block" 9 "LayerBudgets$Block" "bytesUpTo" "[I" : Cond) ∈ lw_tbl := tw_at 192 (by decide +kernel)
theorem tw_193 : (.fieldLink "LayerBudgets$Block" 15 "LayerBudgets$Block" "gainUpTo" "[J" : Cond) ∈ lw_tbl := tw_at 193 (by decide +kernel)
theorem tw_194 : (.fieldLink "LayerBudgets$Block" 19 "LayerBudgets$Block" "corners" "[I" : Cond) ∈ lw_tbl := tw_at 194 (by decide +kernel)
theorem tw_195 : (.fieldLink "LayerBudgets$Block" 22 "LayerBudgets$Block" "passes" "I" : Cond) ∈ lw_tbl := tw_at 195 (by decide +kernel)
theorem tw_196 : (.fieldLinkNest "LayerBudgets" 77 "LayerBudgets$Block" "passes" "I" "LayerBudgets" : Cond) ∈ lw_tbl := tw_at 196 (by decide +kernel)
theorem tw_197 : (.fieldLink "LayerBudgets$Block" 30 "LayerBudgets$Block" "steps" "I" : Cond) ∈ lw_tbl := tw_at 197 (by decide +kernel)
theorem tw_198 : (.fieldLinkNest "LayerBudgets" 80 "LayerBudgets$Block" "steps" "I" "LayerBudgets" : Cond) ∈ lw_tbl := tw_at 198 (by decide +kernel)
theorem tw_199 : (.fieldLink "LayerBudgets$Block" 49 "LayerBudgets$Block" "stepsTaken" "I" : Cond) ∈ lw_tbl := tw_at 199 (by decide +kernel)
theorem tw_200 : (.fieldLink "LayerBudgets$Block" 67 "LayerBudgets$Block" "lastCut" "I" : Cond) ∈ lw_tbl := tw_at 200 (by decide +kernel)
theorem tw_201 : (.fieldLinkNest "LayerBudgets" 191 "LayerBudgets$Block" "lastCut" "I" "LayerBudgets" : Cond) ∈ lw_tbl := tw_at 201 (by decide +kernel)
theorem tw_202 : (.laysFinal "LayerBudgets$Block" "LayerBudgets$Block" "bytesUpTo" "[I" : Cond) ∈ lw_tbl := tw_at 202 (by decide +kernel)
theorem tw_203 : (.soleField "LayerBudgets$Block" "bytesUpTo" : Cond) ∈ lw_tbl := tw_at 203 (by decide +kernel)
theorem tw_204 : (.laysFinal "LayerBudgets$Block" "LayerBudgets$Block" "gainUpTo" "[J" : Cond) ∈ lw_tbl := tw_at 204 (by decide +kernel)
theorem tw_205 : (.soleField "LayerBudgets$Block" "gainUpTo" : Cond) ∈ lw_tbl := tw_at 205 (by decide +kernel)
theorem tw_206 : (.laysFinal "LayerBudgets$Block" "LayerBudgets$Block" "corners" "[I" : Cond) ∈ lw_tbl := tw_at 206 (by decide +kernel)
theorem tw_207 : (.soleField "LayerBudgets$Block" "corners" : Cond) ∈ lw_tbl := tw_at 207 (by decide +kernel)
theorem tw_208 : (.lays "LayerBudgets$Block" "LayerBudgets$Block" "passes" "I" : Cond) ∈ lw_tbl := tw_at 208 (by decide +kernel)
theorem tw_209 : (.soleField "LayerBudgets$Block" "passes" : Cond) ∈ lw_tbl := tw_at 209 (by decide +kernel)
theorem tw_210 : (.lays "LayerBudgets$Block" "LayerBudgets$Block" "steps" "I" : Cond) ∈ lw_tbl := tw_at 210 (by decide +kernel)
theorem tw_211 : (.soleField "LayerBudgets$Block" "steps" : Cond) ∈ lw_tbl := tw_at 211 (by decide +kernel)
theorem tw_212 : (.lays "LayerBudgets$Block" "LayerBudgets$Block" "stepsTaken" "I" : Cond) ∈ lw_tbl := tw_at 212 (by decide +kernel)
theorem tw_213 : (.soleField "LayerBudgets$Block" "stepsTaken" : Cond) ∈ lw_tbl := tw_at 213 (by decide +kernel)
theorem tw_214 : (.lays "LayerBudgets$Block" "LayerBudgets$Block" "lastCut" "I" : Cond) ∈ lw_tbl := tw_at 214 (by decide +kernel)
theorem tw_215 : (.soleField "LayerBudgets$Block" "lastCut" : Cond) ∈ lw_tbl := tw_at 215 (by decide +kernel)
theorem tw_216 : (.superclass "LayerBudgets$Block" "java/lang/Object" : Cond) ∈ lw_tbl := tw_at 216 (by decide +kernel)
theorem tw_217 : (.arrayClass FieldType.int : Cond) ∈ lw_tbl := tw_at 217 (by decide +kernel)
theorem tw_218 : (.arrayClass FieldType.long : Cond) ∈ lw_tbl := tw_at 218 (by decide +kernel)
theorem tw_219 : (.methodLink "LayerBudgets" 43 ⟨"java/util/ArrayList", "add", "(Ljava/lang/Object;)Z"⟩ : Cond) ∈ lw_tbl := tw_at 219 (by decide +kernel)
theorem tw_220 : (.instanceMethod ⟨"java/util/ArrayList", "add", "(Ljava/lang/Object;)Z"⟩ : Cond) ∈ lw_tbl := tw_at 220 (by decide +kernel)
theorem tw_221 : (.selects "java/util/ArrayList" ⟨"java/util/ArrayList", "add", "(Ljava/lang/Object;)Z"⟩ ⟨"java/util/ArrayList", "add", "(Ljava/lang/Object;)Z"⟩ : Cond) ∈ lw_tbl := tw_at 221 (by decide +kernel)
theorem tw_222 : (.code ⟨"java/util/ArrayList", "add", "(Ljava/lang/Object;)Z"⟩ prog_21_method_25_code 2 (some FieldType.boolean) : Cond) ∈ lw_tbl := tw_at 222 (by decide +kernel)
theorem tw_223 : (.methodLink "java/util/ArrayList" 131 ⟨"java/util/ArrayList", "add", "(Ljava/lang/Object;[Ljava/lang/Object;I)V"⟩ : Cond) ∈ lw_tbl := tw_at 223 (by decide +kernel)
theorem tw_224 : (.privateMethod ⟨"java/util/ArrayList", "add", "(Ljava/lang/Object;[Ljava/lang/Object;I)V"⟩ : Cond) ∈ lw_tbl := tw_at 224 (by decide +kernel)
theorem tw_225 : (.instanceMethod ⟨"java/util/ArrayList", "add", "(Ljava/lang/Object;[Ljava/lang/Object;I)V"⟩ : Cond) ∈ lw_tbl := tw_at 225 (by decide +kernel)
theorem tw_226 : (.code ⟨"java/util/ArrayList", "add", "(Ljava/lang/Object;[Ljava/lang/Object;I)V"⟩ prog_21_method_24_code 4 none : Cond) ∈ lw_tbl := tw_at 226 (by decide +kernel)
theorem tw_227 : (.methodLink "java/util/ArrayList" 129 ⟨"java/util/ArrayList", "grow", "()[Ljava/lang/Object;"⟩ : Cond) ∈ lw_tbl := tw_at 227 (by decide +kernel)
theorem tw_228 : (.privateMethod ⟨"java/util/ArrayList", "grow", "()[Ljava/lang/Object;"⟩ : Cond) ∈ lw_tbl := tw_at 228 (by decide +kernel)
theorem tw_229 : (.instanceMethod ⟨"java/util/ArrayList", "grow", "()[Ljava/lang/Object;"⟩ : Cond) ∈ lw_tbl := tw_at 229 (by decide +kernel)
theorem tw_230 : (.code ⟨"java/util/ArrayList", "grow", "()[Ljava/lang/Object;"⟩ prog_21_method_7_code 1 (some (FieldType.array (FieldType.object "java/lang/Object"))) : Cond) ∈ lw_tbl := tw_at 230 (by decide +kernel)
theorem tw_231 : (.methodLink "java/util/ArrayList" 69 ⟨"java/util/ArrayList", "grow", "(I)[Ljava/lang/Object;"⟩ : Cond) ∈ lw_tbl := tw_at 231 (by decide +kernel)
theorem tw_232 : (.privateMethod ⟨"java/util/ArrayList", "grow", "(I)[Ljava/lang/Object;"⟩ : Cond) ∈ lw_tbl := tw_at 232 (by decide +kernel)
theorem tw_233 : (.instanceMethod ⟨"java/util/ArrayList", "grow", "(I)[Ljava/lang/Object;"⟩ : Cond) ∈ lw_tbl := tw_at 233 (by decide +kernel)
theorem tw_234 : (.code ⟨"java/util/ArrayList", "grow", "(I)[Ljava/lang/Object;"⟩ prog_21_method_6_code 4 (some (FieldType.array (FieldType.object "java/lang/Object"))) : Cond) ∈ lw_tbl := tw_at 234 (by decide +kernel)
theorem tw_235 : (.methodLink "java/util/ArrayList" 73 ⟨"jdk/internal/util/ArraysSupport", "newLength", "(III)I"⟩ : Cond) ∈ lw_tbl := tw_at 235 (by decide +kernel)
theorem tw_236 : (.static ⟨"jdk/internal/util/ArraysSupport", "newLength", "(III)I"⟩ : Cond) ∈ lw_tbl := tw_at 236 (by decide +kernel)
theorem tw_237 : (.code ⟨"jdk/internal/util/ArraysSupport", "newLength", "(III)I"⟩ prog_28_method_27_code 4 (some FieldType.int) : Cond) ∈ lw_tbl := tw_at 237 (by decide +kernel)
theorem tw_238 : (.methodLink "jdk/internal/util/ArraysSupport" 194 ⟨"java/lang/Math", "max", "(II)I"⟩ : Cond) ∈ lw_tbl := tw_at 238 (by decide +kernel)
theorem tw_239 : (.static ⟨"java/lang/Math", "max", "(II)I"⟩ : Cond) ∈ lw_tbl := tw_at 239 (by decide +kernel)
theorem tw_240 : (.code ⟨"java/lang/Math", "max", "(II)I"⟩ prog_14_method_65_code 2 (some FieldType.int) : Cond) ∈ lw_tbl := tw_at 240 (by decide +kernel)
theorem tw_241 : (.constant "jdk/internal/util/ArraysSupport" 200 2147483639 : Cond) ∈ lw_tbl := tw_at 241 (by decide +kernel)
theorem tw_242 : (.methodLink "jdk/internal/util/ArraysSupport" 201 ⟨"jdk/internal/util/ArraysSupport", "hugeLength", "(II)I"⟩ : Cond) ∈ lw_tbl := tw_at 242 (by decide +kernel)
theorem tw_243 : (.static ⟨"jdk/internal/util/ArraysSupport", "hugeLength", "(II)I"⟩ : Cond) ∈ lw_tbl := tw_at 243 (by decide +kernel)
theorem tw_244 : (.code ⟨"jdk/internal/util/ArraysSupport", "hugeLength", "(II)I"⟩ prog_28_method_28_code 3 (some FieldType.int) : Cond) ∈ lw_tbl := tw_at 244 (by decide +kernel)
theorem tw_245 : (.methodLink "java/util/ArrayList" 66 ⟨"java/util/Arrays", "copyOf", "([Ljava/lang/Object;I)[Ljava/lang/Object;"⟩ : Cond) ∈ lw_tbl := tw_at 245 (by decide +kernel)
theorem tw_246 : (.static ⟨"java/util/Arrays", "copyOf", "([Ljava/lang/Object;I)[Ljava/lang/Object;"⟩ : Cond) ∈ lw_tbl := tw_at 246 (by decide +kernel)
theorem tw_247 : (.code ⟨"java/util/Arrays", "copyOf", "([Ljava/lang/Object;I)[Ljava/lang/Object;"⟩ prog_22_method_119_code 2 (some (FieldType.array (FieldType.object "java/lang/Object"))) : Cond) ∈ lw_tbl := tw_at 247 (by decide +kernel)
theorem tw_248 : (.methodLink "java/util/Arrays" 86 ⟨"java/lang/Object", "getClass", "()Ljava/lang/Class;"⟩ : Cond) ∈ lw_tbl := tw_at 248 (by decide +kernel)
theorem tw_249 : (.instanceMethod ⟨"java/lang/Object", "getClass", "()Ljava/lang/Class;"⟩ : Cond) ∈ lw_tbl := tw_at 249 (by decide +kernel)
theorem tw_250 : (.sameMethod "java/lang/Object" "java/lang/Object" "getClass" "()Ljava/lang/Class;" : Cond) ∈ lw_tbl := tw_at 250 (by decide +kernel)
theorem tw_251 : (.selects "LayerBudgets" ⟨"java/lang/Object", "getClass", "()Ljava/lang/Class;"⟩ ⟨"java/lang/Object", "getClass", "()Ljava/lang/Class;"⟩ : Cond) ∈ lw_tbl := tw_at 251 (by decide +kernel)
theorem tw_252 : (.selects "LayerBudgets$Block" ⟨"java/lang/Object", "getClass", "()Ljava/lang/Class;"⟩ ⟨"java/lang/Object", "getClass", "()Ljava/lang/Class;"⟩ : Cond) ∈ lw_tbl := tw_at 252 (by decide +kernel)
theorem tw_253 : (.selects "LayerBudgets$Layer" ⟨"java/lang/Object", "getClass", "()Ljava/lang/Class;"⟩ ⟨"java/lang/Object", "getClass", "()Ljava/lang/Class;"⟩ : Cond) ∈ lw_tbl := tw_at 253 (by decide +kernel)
theorem tw_254 : (.selects "LayerBudgetsModel" ⟨"java/lang/Object", "getClass", "()Ljava/lang/Class;"⟩ ⟨"java/lang/Object", "getClass", "()Ljava/lang/Class;"⟩ : Cond) ∈ lw_tbl := tw_at 254 (by decide +kernel)
theorem tw_255 : (.selects "java/lang/IllegalArgumentException" ⟨"java/lang/Object", "getClass", "()Ljava/lang/Class;"⟩ ⟨"java/lang/Object", "getClass", "()Ljava/lang/Class;"⟩ : Cond) ∈ lw_tbl := tw_at 255 (by decide +kernel)
theorem tw_256 : (.selects "java/lang/IllegalStateException" ⟨"java/lang/Object", "getClass", "()Ljava/lang/Class;"⟩ ⟨"java/lang/Object", "getClass", "()Ljava/lang/Class;"⟩ : Cond) ∈ lw_tbl := tw_at 256 (by decide +kernel)
theorem tw_257 : (.selects "java/lang/IndexOutOfBoundsException" ⟨"java/lang/Object", "getClass", "()Ljava/lang/Class;"⟩ ⟨"java/lang/Object", "getClass", "()Ljava/lang/Class;"⟩ : Cond) ∈ lw_tbl := tw_at 257 (by decide +kernel)
theorem tw_258 : (.selects "java/util/ArrayList" ⟨"java/lang/Object", "getClass", "()Ljava/lang/Class;"⟩ ⟨"java/lang/Object", "getClass", "()Ljava/lang/Class;"⟩ : Cond) ∈ lw_tbl := tw_at 258 (by decide +kernel)
theorem tw_259 : (.native ⟨"java/lang/Object", "getClass", "()Ljava/lang/Class;"⟩ : Cond) ∈ lw_tbl := tw_at 259 (by decide +kernel)
theorem tw_260 : (.methodLink "java/util/Arrays" 300 ⟨"java/util/Arrays", "copyOf", "([Ljava/lang/Object;ILjava/lang/Class;)[Ljava/lang/Object;"⟩ : Cond) ∈ lw_tbl := tw_at 260 (by decide +kernel)
theorem tw_261 : (.static ⟨"java/util/Arrays", "copyOf", "([Ljava/lang/Object;ILjava/lang/Class;)[Ljava/lang/Object;"⟩ : Cond) ∈ lw_tbl := tw_at 261 (by decide +kernel)
theorem tw_262 : (.code ⟨"java/util/Arrays", "copyOf", "([Ljava/lang/Object;ILjava/lang/Class;)[Ljava/lang/Object;"⟩ prog_22_method_120_code 4 (some (FieldType.array (FieldType.object "java/lang/Object"))) : Cond) ∈ lw_tbl := tw_at 262 (by decide +kernel)
theorem tw_263 : (.classLink "java/util/Arrays" 110 "[Ljava/lang/Object;" : Cond) ∈ lw_tbl := tw_at 263 (by decide +kernel)
theorem tw_264 : (.arrayOver (FieldType.object "java/lang/Object") : Cond) ∈ lw_tbl := tw_at 264 (by decide +kernel)
theorem tw_265 : (.classLink "java/util/Arrays" 2 "java/lang/Object" : Cond) ∈ lw_tbl := tw_at 265 (by decide +kernel)
theorem tw_266 : (.methodLink "java/util/Arrays" 304 ⟨"java/lang/Math", "min", "(II)I"⟩ : Cond) ∈ lw_tbl := tw_at 266 (by decide +kernel)
theorem tw_267 : (.static ⟨"java/lang/Math", "min", "(II)I"⟩ : Cond) ∈ lw_tbl := tw_at 267 (by decide +kernel)
theorem tw_268 : (.code ⟨"java/lang/Math", "min", "(II)I"⟩ prog_14_method_69_code 2 (some FieldType.int) : Cond) ∈ lw_tbl := tw_at 268 (by decide +kernel)
theorem tw_269 : (.methodLink "java/util/Arrays" 150 ⟨"java/lang/System", "arraycopy", "(Ljava/lang/Object;ILjava/lang/Object;II)V"⟩ : Cond) ∈ lw_tbl := tw_at 269 (by decide +kernel)
theorem tw_270 : (.static ⟨"java/lang/System", "arraycopy", "(Ljava/lang/Object;ILjava/lang/Object;II)V"⟩ : Cond) ∈ lw_tbl := tw_at 270 (by decide +kernel)
theorem tw_271 : (.native ⟨"java/lang/System", "arraycopy", "(Ljava/lang/Object;ILjava/lang/Object;II)V"⟩ : Cond) ∈ lw_tbl := tw_at 271 (by decide +kernel)
theorem tw_272 : (.methodLink "java/util/ArrayList" 79 ⟨"java/lang/Math", "max", "(II)I"⟩ : Cond) ∈ lw_tbl := tw_at 272 (by decide +kernel)
theorem tw_273 : (.classLink "java/util/ArrayList" 7 "java/lang/Object" : Cond) ∈ lw_tbl := tw_at 273 (by decide +kernel)
theorem tw_274 : (.methodLink "LayerBudgetsLaw" 64 ⟨"LayerBudgetsLaw", "pass", "(LLayerBudgets;IIJ[J)I"⟩ : Cond) ∈ lw_tbl := tw_at 274 (by decide +kernel)
theorem tw_275 : (.static ⟨"LayerBudgetsLaw", "pass", "(LLayerBudgets;IIJ[J)I"⟩ : Cond) ∈ lw_tbl := tw_at 275 (by decide +kernel)
theorem tw_276 : (.codeWith ⟨"LayerBudgetsLaw", "pass", "(LLayerBudgets;IIJ[J)I"⟩ method_4_code 7 (some FieldType.int) [(0, 12, 15, 19), (0, 12, 19, 13)] : Cond) ∈ lw_tbl := tw_at 276 (by decide +kernel)
theorem tw_277 : (.classLink "LayerBudgetsLaw" 19 "java/lang/IllegalArgumentException" : Cond) ∈ lw_tbl := tw_at 277 (by decide +kernel)
theorem tw_278 : (.methodLink "LayerBudgetsLaw" 15 ⟨"LayerBudgets", "pass", "(IIJ)I"⟩ : Cond) ∈ lw_tbl := tw_at 278 (by decide +kernel)
theorem tw_279 : (.instanceMethod ⟨"LayerBudgets", "pass", "(IIJ)I"⟩ : Cond) ∈ lw_tbl := tw_at 279 (by decide +kernel)
theorem tw_280 : (.selects "LayerBudgets" ⟨"LayerBudgets", "pass", "(IIJ)I"⟩ ⟨"LayerBudgets", "pass", "(IIJ)I"⟩ : Cond) ∈ lw_tbl := tw_at 280 (by decide +kernel)
theorem tw_281 : (.code ⟨"LayerBudgets", "pass", "(IIJ)I"⟩ prog_1_method_4_code 6 (some FieldType.int) : Cond) ∈ lw_tbl := tw_at 281 (by decide +kernel)
theorem tw_282 : (.methodLink "LayerBudgets" 47 ⟨"LayerBudgets", "hasBlock", "(I)Z"⟩ : Cond) ∈ lw_tbl := tw_at 282 (by decide +kernel)
theorem tw_283 : (.privateMethod ⟨"LayerBudgets", "hasBlock", "(I)Z"⟩ : Cond) ∈ lw_tbl := tw_at 283 (by decide +kernel)
theorem tw_284 : (.instanceMethod ⟨"LayerBudgets", "hasBlock", "(I)Z"⟩ : Cond) ∈ lw_tbl := tw_at 284 (by decide +kernel)
theorem tw_285 : (.code ⟨"LayerBudgets", "hasBlock", "(I)Z"⟩ prog_1_method_12_code 2 (some FieldType.boolean) : Cond) ∈ lw_tbl := tw_at 285 (by decide +kernel)
theorem tw_286 : (.classLink "LayerBudgets" 51 "java/lang/IllegalArgumentException" : Cond) ∈ lw_tbl := tw_at 286 (by decide +kernel)
theorem tw_287 : (.instantiable "java/lang/IllegalArgumentException" 6 : Cond) ∈ lw_tbl := tw_at 287 (by decide +kernel)
theorem tw_288 : (.castable "java/lang/IllegalArgumentException" "java/lang/IllegalArgumentException" : Cond) ∈ lw_tbl := tw_at 288 (by decide +kernel)
theorem tw_289 : (.selects "java/lang/IllegalArgumentException" ⟨"java/lang/Throwable", "fillInStackTrace", "(I)Ljava/lang/Throwable;"⟩ ⟨"java/lang/Throwable", "fillInStackTrace", "(I)Ljava/lang/Throwable;"⟩ : Cond) ∈ lw_tbl := tw_at 289 (by decide +kernel)
theorem tw_290 : (.lays "java/lang/IllegalArgumentException" "java/lang/Throwable" "cause" "Ljava/lang/Throwable;" : Cond) ∈ lw_tbl := tw_at 290 (by decide +kernel)
theorem tw_291 : (.lays "java/lang/IllegalArgumentException" "java/lang/Throwable" "stackTrace" "[Ljava/lang/StackTraceElement;" : Cond) ∈ lw_tbl := tw_at 291 (by decide +kernel)
theorem tw_292 : (.lays "java/lang/IllegalArgumentException" "java/lang/Throwable" "suppressedExceptions" "Ljava/util/List;" : Cond) ∈ lw_tbl := tw_at 292 (by decide +kernel)
theorem tw_293 : (.lays "java/lang/IllegalArgumentException" "java/lang/Throwable" "detailMessage" "Ljava/lang/String;" : Cond) ∈ lw_tbl := tw_at 293 (by decide +kernel)
theorem tw_294 : (.lays "java/lang/IllegalArgumentException" "java/lang/Throwable" "backtrace" "Ljava/lang/Object;" : Cond) ∈ lw_tbl := tw_at 294 (by decide +kernel)
theorem tw_295 : (.stringRef "LayerBudgets" 53 "no such block" : Cond) ∈ lw_tbl := tw_at 295 (by decide +kernel)
theorem tw_296 : (.methodLink "LayerBudgets" 55 ⟨"java/lang/IllegalArgumentException", "<init>", "(Ljava/lang/String;)V"⟩ : Cond) ∈ lw_tbl := tw_at 296 (by decide +kernel)
theorem tw_297 : (.instanceMethod ⟨"java/lang/IllegalArgumentException", "<init>", "(Ljava/lang/String;)V"⟩ : Cond) ∈ lw_tbl := tw_at 297 (by decide +kernel)
theorem tw_298 : (.code ⟨"java/lang/IllegalArgumentException", "<init>", "(Ljava/lang/String;)V"⟩ prog_9_method_2_code 2 none : Cond) ∈ lw_tbl := tw_at 298 (by decide +kernel)
theorem tw_299 : (.methodLink "java/lang/IllegalArgumentException" 7 ⟨"java/lang/RuntimeException", "<init>", "(Ljava/lang/String;)V"⟩ : Cond) ∈ lw_tbl := tw_at 299 (by decide +kernel)
theorem tw_300 : (.lays "java/lang/IllegalArgumentException" "java/lang/Throwable" "depth" "I" : Cond) ∈ lw_tbl := tw_at 300 (by decide +kernel)
theorem tw_301 : (.superclass "java/lang/IllegalArgumentException" "java/lang/RuntimeException" : Cond) ∈ lw_tbl := tw_at 301 (by decide +kernel)
theorem tw_302 : (.stringRef "LayerBudgets" 56 "bytes below 0" : Cond) ∈ lw_tbl := tw_at 302 (by decide +kernel)
theorem tw_303 : (.constantLong "LayerBudgets" 58 (-274877906944) : Cond) ∈ lw_tbl := tw_at 303 (by decide +kernel)
theorem tw_304 : (.constantLong "LayerBudgets" 60 274877906944 : Cond) ∈ lw_tbl := tw_at 304 (by decide +kernel)
theorem tw_305 : (.stringRef "LayerBudgets" 62 "gain not within -2^38 .. 2^38" : Cond) ∈ lw_tbl := tw_at 305 (by decide +kernel)
theorem tw_306 : (.methodLinkNest "LayerBudgets" 68 ⟨"LayerBudgets$Block", "hasRoomFor", "(I)Z"⟩ "LayerBudgets" : Cond) ∈ lw_tbl := tw_at 306 (by decide +kernel)
theorem tw_307 : (.privateMethod ⟨"LayerBudgets$Block", "hasRoomFor", "(I)Z"⟩ : Cond) ∈ lw_tbl := tw_at 307 (by decide +kernel)
theorem tw_308 : (.instanceMethod ⟨"LayerBudgets$Block", "hasRoomFor", "(I)Z"⟩ : Cond) ∈ lw_tbl := tw_at 308 (by decide +kernel)
theorem tw_309 : (.code ⟨"LayerBudgets$Block", "hasRoomFor", "(I)Z"⟩ prog_2_method_2_code 2 (some FieldType.boolean) : Cond) ∈ lw_tbl := tw_at 309 (by decide +kernel)
theorem tw_310 : (.constant "LayerBudgets$Block" 26 65535 : Cond) ∈ lw_tbl := tw_at 310 (by decide +kernel)
theorem tw_311 : (.stringRef "LayerBudgets" 71 "too many passes or bytes" : Cond) ∈ lw_tbl := tw_at 311 (by decide +kernel)
theorem tw_312 : (.methodLinkNest "LayerBudgets" 73 ⟨"LayerBudgets$Block", "append", "(IJ)V"⟩ "LayerBudgets" : Cond) ∈ lw_tbl := tw_at 312 (by decide +kernel)
theorem tw_313 : (.privateMethod ⟨"LayerBudgets$Block", "append", "(IJ)V"⟩ : Cond) ∈ lw_tbl := tw_at 313 (by decide +kernel)
theorem tw_314 : (.instanceMethod ⟨"LayerBudgets$Block", "append", "(IJ)V"⟩ : Cond) ∈ lw_tbl := tw_at 314 (by decide +kernel)
theorem tw_315 : (.code ⟨"LayerBudgets$Block", "append", "(IJ)V"⟩ prog_2_method_4_code 4 none : Cond) ∈ lw_tbl := tw_at 315 (by decide +kernel)
theorem tw_316 : (.methodLink "LayerBudgets$Block" 27 ⟨"LayerBudgets$Block", "renewSteps", "()V"⟩ : Cond) ∈ lw_tbl := tw_at 316 (by decide +kernel)
theorem tw_317 : (.privateMethod ⟨"LayerBudgets$Block", "renewSteps", "()V"⟩ : Cond) ∈ lw_tbl := tw_at 317 (by decide +kernel)
theorem tw_318 : (.instanceMethod ⟨"LayerBudgets$Block", "renewSteps", "()V"⟩ : Cond) ∈ lw_tbl := tw_at 318 (by decide +kernel)
theorem tw_319 : (.code ⟨"LayerBudgets$Block", "renewSteps", "()V"⟩ prog_2_method_5_code 2 none : Cond) ∈ lw_tbl := tw_at 319 (by decide +kernel)
theorem tw_320 : (.methodLink "LayerBudgets$Block" 33 ⟨"LayerBudgets$Block", "newestOvertakes", "(I)Z"⟩ : Cond) ∈ lw_tbl := tw_at 320 (by decide +kernel)
theorem tw_321 : (.privateMethod ⟨"LayerBudgets$Block", "newestOvertakes", "(I)Z"⟩ : Cond) ∈ lw_tbl := tw_at 321 (by decide +kernel)
theorem tw_322 : (.instanceMethod ⟨"LayerBudgets$Block", "newestOvertakes", "(I)Z"⟩ : Cond) ∈ lw_tbl := tw_at 322 (by decide +kernel)
theorem tw_323 : (.code ⟨"LayerBudgets$Block", "newestOvertakes", "(I)Z"⟩ prog_2_method_6_code 6 (some FieldType.boolean) : Cond) ∈ lw_tbl := tw_at 323 (by decide +kernel)
theorem tw_324 : (.methodLink "LayerBudgets$Block" 37 ⟨"LayerBudgets$Block", "stepGain", "(I)J"⟩ : Cond) ∈ lw_tbl := tw_at 324 (by decide +kernel)
theorem tw_325 : (.privateMethod ⟨"LayerBudgets$Block", "stepGain", "(I)J"⟩ : Cond) ∈ lw_tbl := tw_at 325 (by decide +kernel)
theorem tw_326 : (.instanceMethod ⟨"LayerBudgets$Block", "stepGain", "(I)J"⟩ : Cond) ∈ lw_tbl := tw_at 326 (by decide +kernel)
theorem tw_327 : (.code ⟨"LayerBudgets$Block", "stepGain", "(I)J"⟩ prog_2_method_10_code 2 (some FieldType.long) : Cond) ∈ lw_tbl := tw_at 327 (by decide +kernel)
theorem tw_328 : (.methodLink "LayerBudgets$Block" 41 ⟨"LayerBudgets$Block", "stepBytes", "(I)I"⟩ : Cond) ∈ lw_tbl := tw_at 328 (by decide +kernel)
theorem tw_329 : (.privateMethod ⟨"LayerBudgets$Block", "stepBytes", "(I)I"⟩ : Cond) ∈ lw_tbl := tw_at 329 (by decide +kernel)
theorem tw_330 : (.instanceMethod ⟨"LayerBudgets$Block", "stepBytes", "(I)I"⟩ : Cond) ∈ lw_tbl := tw_at 330 (by decide +kernel)
theorem tw_331 : (.code ⟨"LayerBudgets$Block", "stepBytes", "(I)I"⟩ prog_2_method_9_code 2 (some FieldType.int) : Cond) ∈ lw_tbl := tw_at 331 (by decide +kernel)
theorem tw_332 : (.methodLinkNest "LayerBudgets$Block" 45 ⟨"LayerBudgets", "compareSlopes", "(JIJI)I"⟩ "LayerBudgets" : Cond) ∈ lw_tbl := tw_at 332 (by decide +kernel)
theorem tw_333 : (.static ⟨"LayerBudgets", "compareSlopes", "(JIJI)I"⟩ : Cond) ∈ lw_tbl := tw_at 333 (by decide +kernel)
theorem tw_334 : (.code ⟨"LayerBudgets", "compareSlopes", "(JIJI)I"⟩ prog_1_method_21_code 6 (some FieldType.int) : Cond) ∈ lw_tbl := tw_at 334 (by decide +kernel)
theorem tw_335 : (.methodLink "LayerBudgets" 194 ⟨"java/lang/Long", "compare", "(JJ)I"⟩ : Cond) ∈ lw_tbl := tw_at 335 (by decide +kernel)
theorem tw_336 : (.static ⟨"java/lang/Long", "compare", "(JJ)I"⟩ : Cond) ∈ lw_tbl := tw_at 336 (by decide +kernel)
theorem tw_337 : (.code ⟨"java/lang/Long", "compare", "(JJ)I"⟩ prog_13_method_42_code 4 (some FieldType.int) : Cond) ∈ lw_tbl := tw_at 337 (by decide +kernel)
theorem tw_338 : (.methodLink "LayerBudgetsLaw" 68 ⟨"LayerBudgetsLaw", "step", "(LLayerBudgets;III[J)I"⟩ : Cond) ∈ lw_tbl := tw_at 338 (by decide +kernel)
theorem tw_339 : (.static ⟨"LayerBudgetsLaw", "step", "(LLayerBudgets;III[J)I"⟩ : Cond) ∈ lw_tbl := tw_at 339 (by decide +kernel)
theorem tw_340 : (.codeWith ⟨"LayerBudgetsLaw", "step", "(LLayerBudgets;III[J)I"⟩ method_5_code 6 (some FieldType.int) [(0, 12, 15, 19), (0, 12, 19, 25)] : Cond) ∈ lw_tbl := tw_at 340 (by decide +kernel)
theorem tw_341 : (.classLink "LayerBudgetsLaw" 25 "java/lang/IndexOutOfBoundsException" : Cond) ∈ lw_tbl := tw_at 341 (by decide +kernel)
theorem tw_342 : (.methodLink "LayerBudgetsLaw" 21 ⟨"LayerBudgets", "step", "(III)I"⟩ : Cond) ∈ lw_tbl := tw_at 342 (by decide +kernel)
theorem tw_343 : (.instanceMethod ⟨"LayerBudgets", "step", "(III)I"⟩ : Cond) ∈ lw_tbl := tw_at 343 (by decide +kernel)
theorem tw_344 : (.selects "LayerBudgets" ⟨"LayerBudgets", "step", "(III)I"⟩ ⟨"LayerBudgets", "step", "(III)I"⟩ : Cond) ∈ lw_tbl := tw_at 344 (by decide +kernel)
theorem tw_345 : (.code ⟨"LayerBudgets", "step", "(III)I"⟩ prog_1_method_5_code 5 (some FieldType.int) : Cond) ∈ lw_tbl := tw_at 345 (by decide +kernel)
theorem tw_346 : (.stringRef "LayerBudgets" 83 "no such w" : Cond) ∈ lw_tbl := tw_at 346 (by decide +kernel)
theorem tw_347 : (.methodLinkNest "LayerBudgets" 85 ⟨"LayerBudgets$Block", "hasStep", "(I)Z"⟩ "LayerBudgets" : Cond) ∈ lw_tbl := tw_at 347 (by decide +kernel)
theorem tw_348 : (.privateMethod ⟨"LayerBudgets$Block", "hasStep", "(I)Z"⟩ : Cond) ∈ lw_tbl := tw_at 348 (by decide +kernel)
theorem tw_349 : (.instanceMethod ⟨"LayerBudgets$Block", "hasStep", "(I)Z"⟩ : Cond) ∈ lw_tbl := tw_at 349 (by decide +kernel)
theorem tw_350 : (.code ⟨"LayerBudgets$Block", "hasStep", "(I)Z"⟩ prog_2_method_7_code 2 (some FieldType.boolean) : Cond) ∈ lw_tbl := tw_at 350 (by decide +kernel)
theorem tw_351 : (.classLink "LayerBudgets" 88 "java/lang/IndexOutOfBoundsException" : Cond) ∈ lw_tbl := tw_at 351 (by decide +kernel)
theorem tw_352 : (.instantiable "java/lang/IndexOutOfBoundsException" 6 : Cond) ∈ lw_tbl := tw_at 352 (by decide +kernel)
theorem tw_353 : (.castable "java/lang/IndexOutOfBoundsException" "java/lang/IndexOutOfBoundsException" : Cond) ∈ lw_tbl := tw_at 353 (by decide +kernel)
theorem tw_354 : (.selects "java/lang/IndexOutOfBoundsException" ⟨"java/lang/Throwable", "fillInStackTrace", "(I)Ljava/lang/Throwable;"⟩ ⟨"java/lang/Throwable", "fillInStackTrace", "(I)Ljava/lang/Throwable;"⟩ : Cond) ∈ lw_tbl := tw_at 354 (by decide +kernel)
theorem tw_355 : (.lays "java/lang/IndexOutOfBoundsException" "java/lang/Throwable" "cause" "Ljava/lang/Throwable;" : Cond) ∈ lw_tbl := tw_at 355 (by decide +kernel)
theorem tw_356 : (.lays "java/lang/IndexOutOfBoundsException" "java/lang/Throwable" "stackTrace" "[Ljava/lang/StackTraceElement;" : Cond) ∈ lw_tbl := tw_at 356 (by decide +kernel)
theorem tw_357 : (.lays "java/lang/IndexOutOfBoundsException" "java/lang/Throwable" "suppressedExceptions" "Ljava/util/List;" : Cond) ∈ lw_tbl := tw_at 357 (by decide +kernel)
theorem tw_358 : (.lays "java/lang/IndexOutOfBoundsException" "java/lang/Throwable" "detailMessage" "Ljava/lang/String;" : Cond) ∈ lw_tbl := tw_at 358 (by decide +kernel)
theorem tw_359 : (.lays "java/lang/IndexOutOfBoundsException" "java/lang/Throwable" "backtrace" "Ljava/lang/Object;" : Cond) ∈ lw_tbl := tw_at 359 (by decide +kernel)
theorem tw_360 : (.stringRef "LayerBudgets" 90 "no such step" : Cond) ∈ lw_tbl := tw_at 360 (by decide +kernel)
theorem tw_361 : (.methodLink "LayerBudgets" 92 ⟨"java/lang/IndexOutOfBoundsException", "<init>", "(Ljava/lang/String;)V"⟩ : Cond) ∈ lw_tbl := tw_at 361 (by decide +kernel)
theorem tw_362 : (.instanceMethod ⟨"java/lang/IndexOutOfBoundsException", "<init>", "(Ljava/lang/String;)V"⟩ : Cond) ∈ lw_tbl := tw_at 362 (by decide +kernel)
theorem tw_363 : (.code ⟨"java/lang/IndexOutOfBoundsException", "<init>", "(Ljava/lang/String;)V"⟩ prog_11_method_2_code 2 none : Cond) ∈ lw_tbl := tw_at 363 (by decide +kernel)
theorem tw_364 : (.methodLink "java/lang/IndexOutOfBoundsException" 7 ⟨"java/lang/RuntimeException", "<init>", "(Ljava/lang/String;)V"⟩ : Cond) ∈ lw_tbl := tw_at 364 (by decide +kernel)
theorem tw_365 : (.lays "java/lang/IndexOutOfBoundsException" "java/lang/Throwable" "depth" "I" : Cond) ∈ lw_tbl := tw_at 365 (by decide +kernel)
theorem tw_366 : (.superclass "java/lang/IndexOutOfBoundsException" "java/lang/RuntimeException" : Cond) ∈ lw_tbl := tw_at 366 (by decide +kernel)
theorem tw_367 : (.methodLinkNest "LayerBudgets" 93 ⟨"LayerBudgets$Block", "stepEnd", "(I)I"⟩ "LayerBudgets" : Cond) ∈ lw_tbl := tw_at 367 (by decide +kernel)
theorem tw_368 : (.privateMethod ⟨"LayerBudgets$Block", "stepEnd", "(I)I"⟩ : Cond) ∈ lw_tbl := tw_at 368 (by decide +kernel)
theorem tw_369 : (.instanceMethod ⟨"LayerBudgets$Block", "stepEnd", "(I)I"⟩ : Cond) ∈ lw_tbl := tw_at 369 (by decide +kernel)
theorem tw_370 : (.code ⟨"LayerBudgets$Block", "stepEnd", "(I)I"⟩ prog_2_method_8_code 2 (some FieldType.int) : Cond) ∈ lw_tbl := tw_at 370 (by decide +kernel)
theorem tw_371 : (.methodLinkNest "LayerBudgets" 97 ⟨"LayerBudgets$Block", "stepBytes", "(I)I"⟩ "LayerBudgets" : Cond) ∈ lw_tbl := tw_at 371 (by decide +kernel)
theorem tw_372 : (.methodLink "LayerBudgetsLaw" 72 ⟨"LayerBudgetsLaw", "gain", "(LLayerBudgets;II[J)I"⟩ : Cond) ∈ lw_tbl := tw_at 372 (by decide +kernel)
theorem tw_373 : (.static ⟨"LayerBudgetsLaw", "gain", "(LLayerBudgets;II[J)I"⟩ : Cond) ∈ lw_tbl := tw_at 373 (by decide +kernel)
theorem tw_374 : (.codeWith ⟨"LayerBudgetsLaw", "gain", "(LLayerBudgets;II[J)I"⟩ method_6_code 5 (some FieldType.int) [(0, 9, 12, 19), (0, 9, 16, 25)] : Cond) ∈ lw_tbl := tw_at 374 (by decide +kernel)
theorem tw_375 : (.methodLink "LayerBudgetsLaw" 27 ⟨"LayerBudgets", "gain", "(II)J"⟩ : Cond) ∈ lw_tbl := tw_at 375 (by decide +kernel)
theorem tw_376 : (.instanceMethod ⟨"LayerBudgets", "gain", "(II)J"⟩ : Cond) ∈ lw_tbl := tw_at 376 (by decide +kernel)
theorem tw_377 : (.selects "LayerBudgets" ⟨"LayerBudgets", "gain", "(II)J"⟩ ⟨"LayerBudgets", "gain", "(II)J"⟩ : Cond) ∈ lw_tbl := tw_at 377 (by decide +kernel)
theorem tw_378 : (.code ⟨"LayerBudgets", "gain", "(II)J"⟩ prog_1_method_6_code 4 (some FieldType.long) : Cond) ∈ lw_tbl := tw_at 378 (by decide +kernel)
theorem tw_379 : (.methodLinkNest "LayerBudgets" 100 ⟨"LayerBudgets$Block", "stepGain", "(I)J"⟩ "LayerBudgets" : Cond) ∈ lw_tbl := tw_at 379 (by decide +kernel)
theorem tw_380 : (.methodLink "LayerBudgetsLaw" 76 ⟨"LayerBudgetsLaw", "layer", "(LLayerBudgets;I[J)I"⟩ : Cond) ∈ lw_tbl := tw_at 380 (by decide +kernel)
theorem tw_381 : (.static ⟨"LayerBudgetsLaw", "layer", "(LLayerBudgets;I[J)I"⟩ : Cond) ∈ lw_tbl := tw_at 381 (by decide +kernel)
theorem tw_382 : (.codeWith ⟨"LayerBudgetsLaw", "layer", "(LLayerBudgets;I[J)I"⟩ method_7_code 4 (some FieldType.int) [(0, 9, 12, 19), (0, 9, 15, 13)] : Cond) ∈ lw_tbl := tw_at 382 (by decide +kernel)
theorem tw_383 : (.methodLink "LayerBudgetsLaw" 31 ⟨"LayerBudgets", "layer", "(I)I"⟩ : Cond) ∈ lw_tbl := tw_at 383 (by decide +kernel)
theorem tw_384 : (.instanceMethod ⟨"LayerBudgets", "layer", "(I)I"⟩ : Cond) ∈ lw_tbl := tw_at 384 (by decide +kernel)
theorem tw_385 : (.selects "LayerBudgets" ⟨"LayerBudgets", "layer", "(I)I"⟩ ⟨"LayerBudgets", "layer", "(I)I"⟩ : Cond) ∈ lw_tbl := tw_at 385 (by decide +kernel)
theorem tw_386 : (.code ⟨"LayerBudgets", "layer", "(I)I"⟩ prog_1_method_7_code 3 (some FieldType.int) : Cond) ∈ lw_tbl := tw_at 386 (by decide +kernel)
theorem tw_387 : (.stringRef "LayerBudgets" 104 "budget below NONE" : Cond) ∈ lw_tbl := tw_at 387 (by decide +kernel)
theorem tw_388 : (.stringRef "LayerBudgets" 106 "there are 64 layers" : Cond) ∈ lw_tbl := tw_at 388 (by decide +kernel)
theorem tw_389 : (.classLink "LayerBudgets" 108 "LayerBudgets$Layer" : Cond) ∈ lw_tbl := tw_at 389 (by decide +kernel)
theorem tw_390 : (.instantiable "LayerBudgets$Layer" 4 : Cond) ∈ lw_tbl := tw_at 390 (by decide +kernel)
theorem tw_391 : (.methodLinkNest "LayerBudgets" 110 ⟨"LayerBudgets$Layer", "<init>", "(I)V"⟩ "LayerBudgets" : Cond) ∈ lw_tbl := tw_at 391 (by decide +kernel)
theorem tw_392 : (.instanceMethod ⟨"LayerBudgets$Layer", "<init>", "(I)V"⟩ : Cond) ∈ lw_tbl := tw_at 392 (by decide +kernel)
theorem tw_393 : (.code ⟨"LayerBudgets$Layer", "<init>", "(I)V"⟩ prog_3_method_1_code 2 none : Cond) ∈ lw_tbl := tw_at 393 (by decide +kernel)
theorem tw_394 : (.methodLink "LayerBudgets$Layer" 3 ⟨"java/lang/Object", "<init>", "()V"⟩ : Cond) ∈ lw_tbl := tw_at 394 (by decide +kernel)
theorem tw_395 : (.constantLong "LayerBudgets$Layer" 15 (-1) : Cond) ∈ lw_tbl := tw_at 395 (by decide +kernel)
theorem tw_396 : (.fieldLink "LayerBudgets$Layer" 9 "LayerBudgets$Layer" "cuts" "[I" : Cond) ∈ lw_tbl := tw_at 396 (by decide +kernel)
theorem tw_397 : (.fieldLinkNest "LayerBudgets" 132 "LayerBudgets$Layer" "cuts" "[I" "LayerBudgets" : Cond) ∈ lw_tbl := tw_at 397 (by decide +kernel)
theorem tw_398 : (.fieldLinkNest "LayerBudgets" 124 "LayerBudgets$Layer" "bytes" "I" "LayerBudgets" : Cond) ∈ lw_tbl := tw_at 398 (by decide +kernel)
theorem tw_399 : (.fieldLink "LayerBudgets$Layer" 17 "LayerBudgets$Layer" "thresholdGain" "J" : Cond) ∈ lw_tbl := tw_at 399 (by decide +kernel)
theorem tw_400 : (.fieldLinkNest "LayerBudgets" 136 "LayerBudgets$Layer" "thresholdGain" "J" "LayerBudgets" : Cond) ∈ lw_tbl := tw_at 400 (by decide +kernel)
theorem tw_401 : (.fieldLink "LayerBudgets$Layer" 21 "LayerBudgets$Layer" "thresholdBytes" "I" : Cond) ∈ lw_tbl := tw_at 401 (by decide +kernel)
theorem tw_402 : (.fieldLinkNest "LayerBudgets" 140 "LayerBudgets$Layer" "thresholdBytes" "I" "LayerBudgets" : Cond) ∈ lw_tbl := tw_at 402 (by decide +kernel)
theorem tw_403 : (.laysFinal "LayerBudgets$Layer" "LayerBudgets$Layer" "cuts" "[I" : Cond) ∈ lw_tbl := tw_at 403 (by decide +kernel)
theorem tw_404 : (.soleField "LayerBudgets$Layer" "cuts" : Cond) ∈ lw_tbl := tw_at 404 (by decide +kernel)
theorem tw_405 : (.lays "LayerBudgets$Layer" "LayerBudgets$Layer" "bytes" "I" : Cond) ∈ lw_tbl := tw_at 405 (by decide +kernel)
theorem tw_406 : (.soleField "LayerBudgets$Layer" "bytes" : Cond) ∈ lw_tbl := tw_at 406 (by decide +kernel)
theorem tw_407 : (.lays "LayerBudgets$Layer" "LayerBudgets$Layer" "thresholdGain" "J" : Cond) ∈ lw_tbl := tw_at 407 (by decide +kernel)
theorem tw_408 : (.soleField "LayerBudgets$Layer" "thresholdGain" : Cond) ∈ lw_tbl := tw_at 408 (by decide +kernel)
theorem tw_409 : (.lays "LayerBudgets$Layer" "LayerBudgets$Layer" "thresholdBytes" "I" : Cond) ∈ lw_tbl := tw_at 409 (by decide +kernel)
theorem tw_410 : (.soleField "LayerBudgets$Layer" "thresholdBytes" : Cond) ∈ lw_tbl := tw_at 410 (by decide +kernel)
theorem tw_411 : (.superclass "LayerBudgets$Layer" "java/lang/Object" : Cond) ∈ lw_tbl := tw_at 411 (by decide +kernel)
theorem tw_412 : (.methodLink "LayerBudgets" 113 ⟨"LayerBudgets", "takeAllPasses", "()V"⟩ : Cond) ∈ lw_tbl := tw_at 412 (by decide +kernel)
theorem tw_413 : (.privateMethod ⟨"LayerBudgets", "takeAllPasses", "()V"⟩ : Cond) ∈ lw_tbl := tw_at 413 (by decide +kernel)
theorem tw_414 : (.instanceMethod ⟨"LayerBudgets", "takeAllPasses", "()V"⟩ : Cond) ∈ lw_tbl := tw_at 414 (by decide +kernel)
theorem tw_415 : (.code ⟨"LayerBudgets", "takeAllPasses", "()V"⟩ prog_1_method_15_code 3 none : Cond) ∈ lw_tbl := tw_at 415 (by decide +kernel)
theorem tw_416 : (.methodLinkNest "LayerBudgets" 153 ⟨"LayerBudgets$Block", "takeEverything", "()V"⟩ "LayerBudgets" : Cond) ∈ lw_tbl := tw_at 416 (by decide +kernel)
theorem tw_417 : (.privateMethod ⟨"LayerBudgets$Block", "takeEverything", "()V"⟩ : Cond) ∈ lw_tbl := tw_at 417 (by decide +kernel)
theorem tw_418 : (.instanceMethod ⟨"LayerBudgets$Block", "takeEverything", "()V"⟩ : Cond) ∈ lw_tbl := tw_at 418 (by decide +kernel)
theorem tw_419 : (.code ⟨"LayerBudgets$Block", "takeEverything", "()V"⟩ prog_2_method_16_code 1 none : Cond) ∈ lw_tbl := tw_at 419 (by decide +kernel)
theorem tw_420 : (.methodLinkNest "LayerBudgets" 156 ⟨"LayerBudgets$Block", "allBytes", "()I"⟩ "LayerBudgets" : Cond) ∈ lw_tbl := tw_at 420 (by decide +kernel)
theorem tw_421 : (.privateMethod ⟨"LayerBudgets$Block", "allBytes", "()I"⟩ : Cond) ∈ lw_tbl := tw_at 421 (by decide +kernel)
theorem tw_422 : (.instanceMethod ⟨"LayerBudgets$Block", "allBytes", "()I"⟩ : Cond) ∈ lw_tbl := tw_at 422 (by decide +kernel)
theorem tw_423 : (.code ⟨"LayerBudgets$Block", "allBytes", "()I"⟩ prog_2_method_3_code 1 (some FieldType.int) : Cond) ∈ lw_tbl := tw_at 423 (by decide +kernel)
theorem tw_424 : (.methodLink "LayerBudgets" 116 ⟨"LayerBudgets", "takeSteepestSteps", "(ILLayerBudgets$Layer;)V"⟩ : Cond) ∈ lw_tbl := tw_at 424 (by decide +kernel)
theorem tw_425 : (.privateMethod ⟨"LayerBudgets", "takeSteepestSteps", "(ILLayerBudgets$Layer;)V"⟩ : Cond) ∈ lw_tbl := tw_at 425 (by decide +kernel)
theorem tw_426 : (.instanceMethod ⟨"LayerBudgets", "takeSteepestSteps", "(ILLayerBudgets$Layer;)V"⟩ : Cond) ∈ lw_tbl := tw_at 426 (by decide +kernel)
theorem tw_427 : (.code ⟨"LayerBudgets", "takeSteepestSteps", "(ILLayerBudgets$Layer;)V"⟩ prog_1_method_16_code 9 none : Cond) ∈ lw_tbl := tw_at 427 (by decide +kernel)
theorem tw_428 : (.methodLink "LayerBudgets" 159 ⟨"LayerBudgets", "steepestBlock", "()I"⟩ : Cond) ∈ lw_tbl := tw_at 428 (by decide +kernel)
theorem tw_429 : (.privateMethod ⟨"LayerBudgets", "steepestBlock", "()I"⟩ : Cond) ∈ lw_tbl := tw_at 429 (by decide +kernel)
theorem tw_430 : (.instanceMethod ⟨"LayerBudgets", "steepestBlock", "()I"⟩ : Cond) ∈ lw_tbl := tw_at 430 (by decide +kernel)
theorem tw_431 : (.code ⟨"LayerBudgets", "steepestBlock", "()I"⟩ prog_1_method_17_code 10 (some FieldType.int) : Cond) ∈ lw_tbl := tw_at 431 (by decide +kernel)
theorem tw_432 : (.methodLinkNest "LayerBudgets" 177 ⟨"LayerBudgets$Block", "hasNext", "()Z"⟩ "LayerBudgets" : Cond) ∈ lw_tbl := tw_at 432 (by decide +kernel)
theorem tw_433 : (.privateMethod ⟨"LayerBudgets$Block", "hasNext", "()Z"⟩ : Cond) ∈ lw_tbl := tw_at 433 (by decide +kernel)
theorem tw_434 : (.instanceMethod ⟨"LayerBudgets$Block", "hasNext", "()Z"⟩ : Cond) ∈ lw_tbl := tw_at 434 (by decide +kernel)
theorem tw_435 : (.code ⟨"LayerBudgets$Block", "hasNext", "()Z"⟩ prog_2_method_11_code 1 (some FieldType.boolean) : Cond) ∈ lw_tbl := tw_at 435 (by decide +kernel)
theorem tw_436 : (.methodLinkNest "LayerBudgets" 162 ⟨"LayerBudgets$Block", "nextGain", "()J"⟩ "LayerBudgets" : Cond) ∈ lw_tbl := tw_at 436 (by decide +kernel)
theorem tw_437 : (.privateMethod ⟨"LayerBudgets$Block", "nextGain", "()J"⟩ : Cond) ∈ lw_tbl := tw_at 437 (by decide +kernel)
theorem tw_438 : (.instanceMethod ⟨"LayerBudgets$Block", "nextGain", "()J"⟩ : Cond) ∈ lw_tbl := tw_at 438 (by decide +kernel)
theorem tw_439 : (.code ⟨"LayerBudgets$Block", "nextGain", "()J"⟩ prog_2_method_13_code 1 (some FieldType.long) : Cond) ∈ lw_tbl := tw_at 439 (by decide +kernel)
theorem tw_440 : (.methodLinkNest "LayerBudgets" 166 ⟨"LayerBudgets$Block", "nextBytes", "()I"⟩ "LayerBudgets" : Cond) ∈ lw_tbl := tw_at 440 (by decide +kernel)
theorem tw_441 : (.privateMethod ⟨"LayerBudgets$Block", "nextBytes", "()I"⟩ : Cond) ∈ lw_tbl := tw_at 441 (by decide +kernel)
theorem tw_442 : (.instanceMethod ⟨"LayerBudgets$Block", "nextBytes", "()I"⟩ : Cond) ∈ lw_tbl := tw_at 442 (by decide +kernel)
theorem tw_443 : (.code ⟨"LayerBudgets$Block", "nextBytes", "()I"⟩ prog_2_method_12_code 1 (some FieldType.int) : Cond) ∈ lw_tbl := tw_at 443 (by decide +kernel)
theorem tw_444 : (.methodLink "LayerBudgets" 180 ⟨"LayerBudgets", "compareSlopes", "(JIJI)I"⟩ : Cond) ∈ lw_tbl := tw_at 444 (by decide +kernel)
theorem tw_445 : (.methodLink "LayerBudgets" 169 ⟨"LayerBudgets", "bytesOfSlope", "(JI)I"⟩ : Cond) ∈ lw_tbl := tw_at 445 (by decide +kernel)
theorem tw_446 : (.privateMethod ⟨"LayerBudgets", "bytesOfSlope", "(JI)I"⟩ : Cond) ∈ lw_tbl := tw_at 446 (by decide +kernel)
theorem tw_447 : (.instanceMethod ⟨"LayerBudgets", "bytesOfSlope", "(JI)I"⟩ : Cond) ∈ lw_tbl := tw_at 447 (by decide +kernel)
theorem tw_448 : (.code ⟨"LayerBudgets", "bytesOfSlope", "(JI)I"⟩ prog_1_method_18_code 7 (some FieldType.int) : Cond) ∈ lw_tbl := tw_at 448 (by decide +kernel)
theorem tw_449 : (.methodLinkNest "LayerBudgets" 184 ⟨"LayerBudgets$Block", "nextHasSlope", "(JI)Z"⟩ "LayerBudgets" : Cond) ∈ lw_tbl := tw_at 449 (by decide +kernel)
theorem tw_450 : (.privateMethod ⟨"LayerBudgets$Block", "nextHasSlope", "(JI)Z"⟩ : Cond) ∈ lw_tbl := tw_at 450 (by decide +kernel)
theorem tw_451 : (.instanceMethod ⟨"LayerBudgets$Block", "nextHasSlope", "(JI)Z"⟩ : Cond) ∈ lw_tbl := tw_at 451 (by decide +kernel)
theorem tw_452 : (.code ⟨"LayerBudgets$Block", "nextHasSlope", "(JI)Z"⟩ prog_2_method_14_code 4 (some FieldType.boolean) : Cond) ∈ lw_tbl := tw_at 452 (by decide +kernel)
theorem tw_453 : (.methodLink "LayerBudgets$Block" 52 ⟨"LayerBudgets$Block", "hasNext", "()Z"⟩ : Cond) ∈ lw_tbl := tw_at 453 (by decide +kernel)
theorem tw_454 : (.methodLink "LayerBudgets$Block" 56 ⟨"LayerBudgets$Block", "nextGain", "()J"⟩ : Cond) ∈ lw_tbl := tw_at 454 (by decide +kernel)
theorem tw_455 : (.methodLink "LayerBudgets$Block" 60 ⟨"LayerBudgets$Block", "nextBytes", "()I"⟩ : Cond) ∈ lw_tbl := tw_at 455 (by decide +kernel)
theorem tw_456 : (.methodLink "LayerBudgets" 173 ⟨"LayerBudgets", "takeSlope", "(JI)V"⟩ : Cond) ∈ lw_tbl := tw_at 456 (by decide +kernel)
theorem tw_457 : (.privateMethod ⟨"LayerBudgets", "takeSlope", "(JI)V"⟩ : Cond) ∈ lw_tbl := tw_at 457 (by decide +kernel)
theorem tw_458 : (.instanceMethod ⟨"LayerBudgets", "takeSlope", "(JI)V"⟩ : Cond) ∈ lw_tbl := tw_at 458 (by decide +kernel)
theorem tw_459 : (.code ⟨"LayerBudgets", "takeSlope", "(JI)V"⟩ prog_1_method_19_code 6 none : Cond) ∈ lw_tbl := tw_at 459 (by decide +kernel)
theorem tw_460 : (.methodLinkNest "LayerBudgets" 188 ⟨"LayerBudgets$Block", "takeNext", "()V"⟩ "LayerBudgets" : Cond) ∈ lw_tbl := tw_at 460 (by decide +kernel)
theorem tw_461 : (.privateMethod ⟨"LayerBudgets$Block", "takeNext", "()V"⟩ : Cond) ∈ lw_tbl := tw_at 461 (by decide +kernel)
theorem tw_462 : (.instanceMethod ⟨"LayerBudgets$Block", "takeNext", "()V"⟩ : Cond) ∈ lw_tbl := tw_at 462 (by decide +kernel)
theorem tw_463 : (.code ⟨"LayerBudgets$Block", "takeNext", "()V"⟩ prog_2_method_15_code 1 none : Cond) ∈ lw_tbl := tw_at 463 (by decide +kernel)
theorem tw_464 : (.methodLink "LayerBudgets$Block" 64 ⟨"LayerBudgets$Block", "stepEnd", "(I)I"⟩ : Cond) ∈ lw_tbl := tw_at 464 (by decide +kernel)
theorem tw_465 : (.methodLink "LayerBudgets" 120 ⟨"LayerBudgets", "recordCuts", "(LLayerBudgets$Layer;)V"⟩ : Cond) ∈ lw_tbl := tw_at 465 (by decide +kernel)
theorem tw_466 : (.privateMethod ⟨"LayerBudgets", "recordCuts", "(LLayerBudgets$Layer;)V"⟩ : Cond) ∈ lw_tbl := tw_at 466 (by decide +kernel)
theorem tw_467 : (.instanceMethod ⟨"LayerBudgets", "recordCuts", "(LLayerBudgets$Layer;)V"⟩ : Cond) ∈ lw_tbl := tw_at 467 (by decide +kernel)
theorem tw_468 : (.code ⟨"LayerBudgets", "recordCuts", "(LLayerBudgets$Layer;)V"⟩ prog_1_method_20_code 3 none : Cond) ∈ lw_tbl := tw_at 468 (by decide +kernel)
theorem tw_469 : (.methodLink "LayerBudgetsLaw" 84 ⟨"LayerBudgetsLaw", "cut", "(LLayerBudgets;II[J)I"⟩ : Cond) ∈ lw_tbl := tw_at 469 (by decide +kernel)
theorem tw_470 : (.static ⟨"LayerBudgetsLaw", "cut", "(LLayerBudgets;II[J)I"⟩ : Cond) ∈ lw_tbl := tw_at 470 (by decide +kernel)
theorem tw_471 : (.codeWith ⟨"LayerBudgetsLaw", "cut", "(LLayerBudgets;II[J)I"⟩ method_8_code 5 (some FieldType.int) [(0, 10, 13, 19), (0, 10, 17, 25)] : Cond) ∈ lw_tbl := tw_at 471 (by decide +kernel)
theorem tw_472 : (.methodLink "LayerBudgetsLaw" 35 ⟨"LayerBudgets", "cut", "(II)I"⟩ : Cond) ∈ lw_tbl := tw_at 472 (by decide +kernel)
theorem tw_473 : (.instanceMethod ⟨"LayerBudgets", "cut", "(II)I"⟩ : Cond) ∈ lw_tbl := tw_at 473 (by decide +kernel)
theorem tw_474 : (.selects "LayerBudgets" ⟨"LayerBudgets", "cut", "(II)I"⟩ ⟨"LayerBudgets", "cut", "(II)I"⟩ : Cond) ∈ lw_tbl := tw_at 474 (by decide +kernel)
theorem tw_475 : (.code ⟨"LayerBudgets", "cut", "(II)I"⟩ prog_1_method_9_code 3 (some FieldType.int) : Cond) ∈ lw_tbl := tw_at 475 (by decide +kernel)
theorem tw_476 : (.methodLink "LayerBudgets" 127 ⟨"LayerBudgets", "hasLayer", "(I)Z"⟩ : Cond) ∈ lw_tbl := tw_at 476 (by decide +kernel)
theorem tw_477 : (.privateMethod ⟨"LayerBudgets", "hasLayer", "(I)Z"⟩ : Cond) ∈ lw_tbl := tw_at 477 (by decide +kernel)
theorem tw_478 : (.instanceMethod ⟨"LayerBudgets", "hasLayer", "(I)Z"⟩ : Cond) ∈ lw_tbl := tw_at 478 (by decide +kernel)
theorem tw_479 : (.code ⟨"LayerBudgets", "hasLayer", "(I)Z"⟩ prog_1_method_13_code 2 (some FieldType.boolean) : Cond) ∈ lw_tbl := tw_at 479 (by decide +kernel)
theorem tw_480 : (.stringRef "LayerBudgets" 130 "no such layer" : Cond) ∈ lw_tbl := tw_at 480 (by decide +kernel)
theorem tw_481 : (.methodLink "LayerBudgetsLaw" 87 ⟨"LayerBudgetsLaw", "total", "(LLayerBudgets;I[J)I"⟩ : Cond) ∈ lw_tbl := tw_at 481 (by decide +kernel)
theorem tw_482 : (.static ⟨"LayerBudgetsLaw", "total", "(LLayerBudgets;I[J)I"⟩ : Cond) ∈ lw_tbl := tw_at 482 (by decide +kernel)
theorem tw_483 : (.codeWith ⟨"LayerBudgetsLaw", "total", "(LLayerBudgets;I[J)I"⟩ method_9_code 4 (some FieldType.int) [(0, 9, 12, 25)] : Cond) ∈ lw_tbl := tw_at 483 (by decide +kernel)
theorem tw_484 : (.methodLink "LayerBudgetsLaw" 39 ⟨"LayerBudgets", "total", "(I)I"⟩ : Cond) ∈ lw_tbl := tw_at 484 (by decide +kernel)
theorem tw_485 : (.instanceMethod ⟨"LayerBudgets", "total", "(I)I"⟩ : Cond) ∈ lw_tbl := tw_at 485 (by decide +kernel)
theorem tw_486 : (.selects "LayerBudgets" ⟨"LayerBudgets", "total", "(I)I"⟩ ⟨"LayerBudgets", "total", "(I)I"⟩ : Cond) ∈ lw_tbl := tw_at 486 (by decide +kernel)
theorem tw_487 : (.code ⟨"LayerBudgets", "total", "(I)I"⟩ prog_1_method_10_code 2 (some FieldType.int) : Cond) ∈ lw_tbl := tw_at 487 (by decide +kernel)
theorem tw_488 : (.methodLink "LayerBudgetsLaw" 90 ⟨"LayerBudgetsLaw", "threshold", "(LLayerBudgets;II[J)I"⟩ : Cond) ∈ lw_tbl := tw_at 488 (by decide +kernel)
theorem tw_489 : (.static ⟨"LayerBudgetsLaw", "threshold", "(LLayerBudgets;II[J)I"⟩ : Cond) ∈ lw_tbl := tw_at 489 (by decide +kernel)
theorem tw_490 : (.codeWith ⟨"LayerBudgetsLaw", "threshold", "(LLayerBudgets;II[J)I"⟩ method_10_code 5 (some FieldType.int) [(0, 9, 12, 19), (0, 9, 16, 25)] : Cond) ∈ lw_tbl := tw_at 490 (by decide +kernel)
theorem tw_491 : (.methodLink "LayerBudgetsLaw" 42 ⟨"LayerBudgets", "threshold", "(II)J"⟩ : Cond) ∈ lw_tbl := tw_at 491 (by decide +kernel)
theorem tw_492 : (.instanceMethod ⟨"LayerBudgets", "threshold", "(II)J"⟩ : Cond) ∈ lw_tbl := tw_at 492 (by decide +kernel)
theorem tw_493 : (.selects "LayerBudgets" ⟨"LayerBudgets", "threshold", "(II)J"⟩ ⟨"LayerBudgets", "threshold", "(II)J"⟩ : Cond) ∈ lw_tbl := tw_at 493 (by decide +kernel)
theorem tw_494 : (.code ⟨"LayerBudgets", "threshold", "(II)J"⟩ prog_1_method_11_code 4 (some FieldType.long) : Cond) ∈ lw_tbl := tw_at 494 (by decide +kernel)
theorem tw_495 : (.classLink "LayerBudgetsLaw" 46 "LayerBudgetsModel" : Cond) ∈ lw_tbl := tw_at 495 (by decide +kernel)
theorem tw_496 : (.instantiable "LayerBudgetsModel" 15 : Cond) ∈ lw_tbl := tw_at 496 (by decide +kernel)
theorem tw_497 : (.methodLink "LayerBudgetsLaw" 48 ⟨"LayerBudgetsModel", "<init>", "()V"⟩ : Cond) ∈ lw_tbl := tw_at 497 (by decide +kernel)
theorem tw_498 : (.instanceMethod ⟨"LayerBudgetsModel", "<init>", "()V"⟩ : Cond) ∈ lw_tbl := tw_at 498 (by decide +kernel)
theorem tw_499 : (.code ⟨"LayerBudgetsModel", "<init>", "()V"⟩ prog_5_method_1_code 1 none : Cond) ∈ lw_tbl := tw_at 499 (by decide +kernel)
theorem tw_500 : (.methodLink "LayerBudgetsModel" 1 ⟨"java/lang/Object", "<init>", "()V"⟩ : Cond) ∈ lw_tbl := tw_at 500 (by decide +kernel)
theorem tw_501 : (.constant "LayerBudgetsModel" 23 65536 : Cond) ∈ lw_tbl := tw_at 501 (by decide +kernel)
theorem tw_502 : (.fieldLink "LayerBudgetsModel" 42 "LayerBudgetsModel" "thrown" "I" : Cond) ∈ lw_tbl := tw_at 502 (by decide +kernel)
theorem tw_503 : (.fieldLink "LayerBudgetsModel" 46 "LayerBudgetsModel" "blocks" "I" : Cond) ∈ lw_tbl := tw_at 503 (by decide +kernel)
theorem tw_504 : (.fieldLink "LayerBudgetsModel" 49 "LayerBudgetsModel" "all" "I" : Cond) ∈ lw_tbl := tw_at 504 (by decide +kernel)
theorem tw_505 : (.fieldLink "LayerBudgetsModel" 7 "LayerBudgetsModel" "passes" "[I" : Cond) ∈ lw_tbl := tw_at 505 (by decide +kernel)
theorem tw_506 : (.fieldLink "LayerBudgetsModel" 13 "LayerBudgetsModel" "begins" "[I" : Cond) ∈ lw_tbl := tw_at 506 (by decide +kernel)
theorem tw_507 : (.fieldLink "LayerBudgetsModel" 52 "LayerBudgetsModel" "used" "I" : Cond) ∈ lw_tbl := tw_at 507 (by decide +kernel)
theorem tw_508 : (.fieldLink "LayerBudgetsModel" 16 "LayerBudgetsModel" "bytes" "[I" : Cond) ∈ lw_tbl := tw_at 508 (by decide +kernel)
theorem tw_509 : (.fieldLink "LayerBudgetsModel" 19 "LayerBudgetsModel" "gains" "[J" : Cond) ∈ lw_tbl := tw_at 509 (by decide +kernel)
theorem tw_510 : (.fieldLink "LayerBudgetsModel" 55 "LayerBudgetsModel" "layers" "I" : Cond) ∈ lw_tbl := tw_at 510 (by decide +kernel)
theorem tw_511 : (.fieldLink "LayerBudgetsModel" 24 "LayerBudgetsModel" "cuts" "[I" : Cond) ∈ lw_tbl := tw_at 511 (by decide +kernel)
theorem tw_512 : (.fieldLink "LayerBudgetsModel" 27 "LayerBudgetsModel" "totals" "[I" : Cond) ∈ lw_tbl := tw_at 512 (by decide +kernel)
theorem tw_513 : (.fieldLink "LayerBudgetsModel" 30 "LayerBudgetsModel" "lastGain" "[J" : Cond) ∈ lw_tbl := tw_at 513 (by decide +kernel)
theorem tw_514 : (.fieldLink "LayerBudgetsModel" 33 "LayerBudgetsModel" "lastBytes" "[I" : Cond) ∈ lw_tbl := tw_at 514 (by decide +kernel)
theorem tw_515 : (.fieldLink "LayerBudgetsModel" 36 "LayerBudgetsModel" "cut" "[I" : Cond) ∈ lw_tbl := tw_at 515 (by decide +kernel)
theorem tw_516 : (.fieldLink "LayerBudgetsModel" 39 "LayerBudgetsModel" "next" "[I" : Cond) ∈ lw_tbl := tw_at 516 (by decide +kernel)
theorem tw_517 : (.lays "LayerBudgetsModel" "LayerBudgetsModel" "thrown" "I" : Cond) ∈ lw_tbl := tw_at 517 (by decide +kernel)
theorem tw_518 : (.soleField "LayerBudgetsModel" "thrown" : Cond) ∈ lw_tbl := tw_at 518 (by decide +kernel)
theorem tw_519 : (.lays "LayerBudgetsModel" "LayerBudgetsModel" "blocks" "I" : Cond) ∈ lw_tbl := tw_at 519 (by decide +kernel)
theorem tw_520 : (.soleField "LayerBudgetsModel" "blocks" : Cond) ∈ lw_tbl := tw_at 520 (by decide +kernel)
theorem tw_521 : (.lays "LayerBudgetsModel" "LayerBudgetsModel" "all" "I" : Cond) ∈ lw_tbl := tw_at 521 (by decide +kernel)
theorem tw_522 : (.soleField "LayerBudgetsModel" "all" : Cond) ∈ lw_tbl := tw_at 522 (by decide +kernel)
theorem tw_523 : (.laysFinal "LayerBudgetsModel" "LayerBudgetsModel" "passes" "[I" : Cond) ∈ lw_tbl := tw_at 523 (by decide +kernel)
theorem tw_524 : (.soleField "LayerBudgetsModel" "passes" : Cond) ∈ lw_tbl := tw_at 524 (by decide +kernel)
theorem tw_525 : (.laysFinal "LayerBudgetsModel" "LayerBudgetsModel" "begins" "[I" : Cond) ∈ lw_tbl := tw_at 525 (by decide +kernel)
theorem tw_526 : (.soleField "LayerBudgetsModel" "begins" : Cond) ∈ lw_tbl := tw_at 526 (by decide +kernel)
theorem tw_527 : (.lays "LayerBudgetsModel" "LayerBudgetsModel" "used" "I" : Cond) ∈ lw_tbl := tw_at 527 (by decide +kernel)
theorem tw_528 : (.soleField "LayerBudgetsModel" "used" : Cond) ∈ lw_tbl := tw_at 528 (by decide +kernel)
theorem tw_529 : (.laysFinal "LayerBudgetsModel" "LayerBudgetsModel" "bytes" "[I" : Cond) ∈ lw_tbl := tw_at 529 (by decide +kernel)
theorem tw_530 : (.soleField "LayerBudgetsModel" "bytes" : Cond) ∈ lw_tbl := tw_at 530 (by decide +kernel)
theorem tw_531 : (.laysFinal "LayerBudgetsModel" "LayerBudgetsModel" "gains" "[J" : Cond) ∈ lw_tbl := tw_at 531 (by decide +kernel)
theorem tw_532 : (.soleField "LayerBudgetsModel" "gains" : Cond) ∈ lw_tbl := tw_at 532 (by decide +kernel)
theorem tw_533 : (.lays "LayerBudgetsModel" "LayerBudgetsModel" "layers" "I" : Cond) ∈ lw_tbl := tw_at 533 (by decide +kernel)
theorem tw_534 : (.soleField "LayerBudgetsModel" "layers" : Cond) ∈ lw_tbl := tw_at 534 (by decide +kernel)
theorem tw_535 : (.laysFinal "LayerBudgetsModel" "LayerBudgetsModel" "cuts" "[I" : Cond) ∈ lw_tbl := tw_at 535 (by decide +kernel)
theorem tw_536 : (.soleField "LayerBudgetsModel" "cuts" : Cond) ∈ lw_tbl := tw_at 536 (by decide +kernel)
theorem tw_537 : (.laysFinal "LayerBudgetsModel" "LayerBudgetsModel" "totals" "[I" : Cond) ∈ lw_tbl := tw_at 537 (by decide +kernel)
theorem tw_538 : (.soleField "LayerBudgetsModel" "totals" : Cond) ∈ lw_tbl := tw_at 538 (by decide +kernel)
theorem tw_539 : (.laysFinal "LayerBudgetsModel" "LayerBudgetsModel" "lastGain" "[J" : Cond) ∈ lw_tbl := tw_at 539 (by decide +kernel)
theorem tw_540 : (.soleField "LayerBudgetsModel" "lastGain" : Cond) ∈ lw_tbl := tw_at 540 (by decide +kernel)
theorem tw_541 : (.laysFinal "LayerBudgetsModel" "LayerBudgetsModel" "lastBytes" "[I" : Cond) ∈ lw_tbl := tw_at 541 (by decide +kernel)
theorem tw_542 : (.soleField "LayerBudgetsModel" "lastBytes" : Cond) ∈ lw_tbl := tw_at 542 (by decide +kernel)
theorem tw_543 : (.laysFinal "LayerBudgetsModel" "LayerBudgetsModel" "cut" "[I" : Cond) ∈ lw_tbl := tw_at 543 (by decide +kernel)
theorem tw_544 : (.soleField "LayerBudgetsModel" "cut" : Cond) ∈ lw_tbl := tw_at 544 (by decide +kernel)
theorem tw_545 : (.laysFinal "LayerBudgetsModel" "LayerBudgetsModel" "next" "[I" : Cond) ∈ lw_tbl := tw_at 545 (by decide +kernel)
theorem tw_546 : (.soleField "LayerBudgetsModel" "next" : Cond) ∈ lw_tbl := tw_at 546 (by decide +kernel)
theorem tw_547 : (.superclass "LayerBudgetsModel" "java/lang/Object" : Cond) ∈ lw_tbl := tw_at 547 (by decide +kernel)
theorem tw_548 : (.methodLink "LayerBudgetsLaw" 59 ⟨"LayerBudgetsModel", "thrown", "()I"⟩ : Cond) ∈ lw_tbl := tw_at 548 (by decide +kernel)
theorem tw_549 : (.instanceMethod ⟨"LayerBudgetsModel", "thrown", "()I"⟩ : Cond) ∈ lw_tbl := tw_at 549 (by decide +kernel)
theorem tw_550 : (.selects "LayerBudgetsModel" ⟨"LayerBudgetsModel", "thrown", "()I"⟩ ⟨"LayerBudgetsModel", "thrown", "()I"⟩ : Cond) ∈ lw_tbl := tw_at 550 (by decide +kernel)
theorem tw_551 : (.code ⟨"LayerBudgetsModel", "thrown", "()I"⟩ prog_5_method_2_code 1 (some FieldType.int) : Cond) ∈ lw_tbl := tw_at 551 (by decide +kernel)
theorem tw_552 : (.methodLink "LayerBudgetsLaw" 52 ⟨"LayerBudgetsModel", "clear", "()V"⟩ : Cond) ∈ lw_tbl := tw_at 552 (by decide +kernel)
theorem tw_553 : (.instanceMethod ⟨"LayerBudgetsModel", "clear", "()V"⟩ : Cond) ∈ lw_tbl := tw_at 553 (by decide +kernel)
theorem tw_554 : (.selects "LayerBudgetsModel" ⟨"LayerBudgetsModel", "clear", "()V"⟩ ⟨"LayerBudgetsModel", "clear", "()V"⟩ : Cond) ∈ lw_tbl := tw_at 554 (by decide +kernel)
theorem tw_555 : (.code ⟨"LayerBudgetsModel", "clear", "()V"⟩ prog_5_method_5_code 1 none : Cond) ∈ lw_tbl := tw_at 555 (by decide +kernel)
theorem tw_556 : (.methodLink "LayerBudgetsLaw" 58 ⟨"LayerBudgetsModel", "block", "()I"⟩ : Cond) ∈ lw_tbl := tw_at 556 (by decide +kernel)
theorem tw_557 : (.instanceMethod ⟨"LayerBudgetsModel", "block", "()I"⟩ : Cond) ∈ lw_tbl := tw_at 557 (by decide +kernel)
theorem tw_558 : (.selects "LayerBudgetsModel" ⟨"LayerBudgetsModel", "block", "()I"⟩ ⟨"LayerBudgetsModel", "block", "()I"⟩ : Cond) ∈ lw_tbl := tw_at 558 (by decide +kernel)
theorem tw_559 : (.code ⟨"LayerBudgetsModel", "block", "()I"⟩ prog_5_method_6_code 1 (some FieldType.int) : Cond) ∈ lw_tbl := tw_at 559 (by decide +kernel)
theorem tw_560 : (.methodLink "LayerBudgetsModel" 58 ⟨"LayerBudgetsModel", "throwing", "(ZZ)Z"⟩ : Cond) ∈ lw_tbl := tw_at 560 (by decide +kernel)
theorem tw_561 : (.privateMethod ⟨"LayerBudgetsModel", "throwing", "(ZZ)Z"⟩ : Cond) ∈ lw_tbl := tw_at 561 (by decide +kernel)
theorem tw_562 : (.instanceMethod ⟨"LayerBudgetsModel", "throwing", "(ZZ)Z"⟩ : Cond) ∈ lw_tbl := tw_at 562 (by decide +kernel)
theorem tw_563 : (.code ⟨"LayerBudgetsModel", "throwing", "(ZZ)Z"⟩ prog_5_method_3_code 3 (some FieldType.boolean) : Cond) ∈ lw_tbl := tw_at 563 (by decide +kernel)
theorem tw_564 : (.methodLink "LayerBudgetsLaw" 67 ⟨"LayerBudgetsModel", "pass", "(IIJ)I"⟩ : Cond) ∈ lw_tbl := tw_at 564 (by decide +kernel)
theorem tw_565 : (.instanceMethod ⟨"LayerBudgetsModel", "pass", "(IIJ)I"⟩ : Cond) ∈ lw_tbl := tw_at 565 (by decide +kernel)
theorem tw_566 : (.selects "LayerBudgetsModel" ⟨"LayerBudgetsModel", "pass", "(IIJ)I"⟩ ⟨"LayerBudgetsModel", "pass", "(IIJ)I"⟩ : Cond) ∈ lw_tbl := tw_at 566 (by decide +kernel)
theorem tw_567 : (.code ⟨"LayerBudgetsModel", "pass", "(IIJ)I"⟩ prog_5_method_7_code 8 (some FieldType.int) : Cond) ∈ lw_tbl := tw_at 567 (by decide +kernel)
theorem tw_568 : (.methodLink "LayerBudgetsModel" 62 ⟨"LayerBudgetsModel", "out", "(III)Z"⟩ : Cond) ∈ lw_tbl := tw_at 568 (by decide +kernel)
theorem tw_569 : (.static ⟨"LayerBudgetsModel", "out", "(III)Z"⟩ : Cond) ∈ lw_tbl := tw_at 569 (by decide +kernel)
theorem tw_570 : (.code ⟨"LayerBudgetsModel", "out", "(III)Z"⟩ prog_5_method_4_code 3 (some FieldType.boolean) : Cond) ∈ lw_tbl := tw_at 570 (by decide +kernel)
theorem tw_571 : (.constantLong "LayerBudgetsModel" 66 (-274877906944) : Cond) ∈ lw_tbl := tw_at 571 (by decide +kernel)
theorem tw_572 : (.constantLong "LayerBudgetsModel" 68 274877906944 : Cond) ∈ lw_tbl := tw_at 572 (by decide +kernel)
theorem tw_573 : (.constant "LayerBudgetsModel" 70 65535 : Cond) ∈ lw_tbl := tw_at 573 (by decide +kernel)
theorem tw_574 : (.methodLink "LayerBudgetsLaw" 71 ⟨"LayerBudgetsModel", "step", "(III)I"⟩ : Cond) ∈ lw_tbl := tw_at 574 (by decide +kernel)
theorem tw_575 : (.instanceMethod ⟨"LayerBudgetsModel", "step", "(III)I"⟩ : Cond) ∈ lw_tbl := tw_at 575 (by decide +kernel)
theorem tw_576 : (.selects "LayerBudgetsModel" ⟨"LayerBudgetsModel", "step", "(III)I"⟩ ⟨"LayerBudgetsModel", "step", "(III)I"⟩ : Cond) ∈ lw_tbl := tw_at 576 (by decide +kernel)
theorem tw_577 : (.code ⟨"LayerBudgetsModel", "step", "(III)I"⟩ prog_5_method_14_code 6 (some FieldType.int) : Cond) ∈ lw_tbl := tw_at 577 (by decide +kernel)
theorem tw_578 : (.methodLink "LayerBudgetsModel" 87 ⟨"LayerBudgetsModel", "beginOf", "(II)I"⟩ : Cond) ∈ lw_tbl := tw_at 578 (by decide +kernel)
theorem tw_579 : (.privateMethod ⟨"LayerBudgetsModel", "beginOf", "(II)I"⟩ : Cond) ∈ lw_tbl := tw_at 579 (by decide +kernel)
theorem tw_580 : (.instanceMethod ⟨"LayerBudgetsModel", "beginOf", "(II)I"⟩ : Cond) ∈ lw_tbl := tw_at 580 (by decide +kernel)
theorem tw_581 : (.code ⟨"LayerBudgetsModel", "beginOf", "(II)I"⟩ prog_5_method_12_code 5 (some FieldType.int) : Cond) ∈ lw_tbl := tw_at 581 (by decide +kernel)
theorem tw_582 : (.methodLink "LayerBudgetsModel" 83 ⟨"LayerBudgetsModel", "stepFrom", "(II)I"⟩ : Cond) ∈ lw_tbl := tw_at 582 (by decide +kernel)
theorem tw_583 : (.privateMethod ⟨"LayerBudgetsModel", "stepFrom", "(II)I"⟩ : Cond) ∈ lw_tbl := tw_at 583 (by decide +kernel)
theorem tw_584 : (.instanceMethod ⟨"LayerBudgetsModel", "stepFrom", "(II)I"⟩ : Cond) ∈ lw_tbl := tw_at 584 (by decide +kernel)
theorem tw_585 : (.code ⟨"LayerBudgetsModel", "stepFrom", "(II)I"⟩ prog_5_method_11_code 5 (some FieldType.int) : Cond) ∈ lw_tbl := tw_at 585 (by decide +kernel)
theorem tw_586 : (.methodLink "LayerBudgetsModel" 71 ⟨"LayerBudgetsModel", "gainOf", "(III)J"⟩ : Cond) ∈ lw_tbl := tw_at 586 (by decide +kernel)
theorem tw_587 : (.privateMethod ⟨"LayerBudgetsModel", "gainOf", "(III)J"⟩ : Cond) ∈ lw_tbl := tw_at 587 (by decide +kernel)
theorem tw_588 : (.instanceMethod ⟨"LayerBudgetsModel", "gainOf", "(III)J"⟩ : Cond) ∈ lw_tbl := tw_at 588 (by decide +kernel)
theorem tw_589 : (.code ⟨"LayerBudgetsModel", "gainOf", "(III)J"⟩ prog_5_method_10_code 4 (some FieldType.long) : Cond) ∈ lw_tbl := tw_at 589 (by decide +kernel)
theorem tw_590 : (.methodLink "LayerBudgetsModel" 75 ⟨"LayerBudgetsModel", "bytesOf", "(III)I"⟩ : Cond) ∈ lw_tbl := tw_at 590 (by decide +kernel)
theorem tw_591 : (.privateMethod ⟨"LayerBudgetsModel", "bytesOf", "(III)I"⟩ : Cond) ∈ lw_tbl := tw_at 591 (by decide +kernel)
theorem tw_592 : (.instanceMethod ⟨"LayerBudgetsModel", "bytesOf", "(III)I"⟩ : Cond) ∈ lw_tbl := tw_at 592 (by decide +kernel)
theorem tw_593 : (.code ⟨"LayerBudgetsModel", "bytesOf", "(III)I"⟩ prog_5_method_9_code 4 (some FieldType.int) : Cond) ∈ lw_tbl := tw_at 593 (by decide +kernel)
theorem tw_594 : (.methodLink "LayerBudgetsModel" 79 ⟨"LayerBudgetsModel", "compare", "(JIJI)I"⟩ : Cond) ∈ lw_tbl := tw_at 594 (by decide +kernel)
theorem tw_595 : (.static ⟨"LayerBudgetsModel", "compare", "(JIJI)I"⟩ : Cond) ∈ lw_tbl := tw_at 595 (by decide +kernel)
theorem tw_596 : (.code ⟨"LayerBudgetsModel", "compare", "(JIJI)I"⟩ prog_5_method_8_code 10 (some FieldType.int) : Cond) ∈ lw_tbl := tw_at 596 (by decide +kernel)
theorem tw_597 : (.methodLink "LayerBudgetsModel" 90 ⟨"LayerBudgetsModel", "countOf", "(I)I"⟩ : Cond) ∈ lw_tbl := tw_at 597 (by decide +kernel)
theorem tw_598 : (.privateMethod ⟨"LayerBudgetsModel", "countOf", "(I)I"⟩ : Cond) ∈ lw_tbl := tw_at 598 (by decide +kernel)
theorem tw_599 : (.instanceMethod ⟨"LayerBudgetsModel", "countOf", "(I)I"⟩ : Cond) ∈ lw_tbl := tw_at 599 (by decide +kernel)
theorem tw_600 : (.code ⟨"LayerBudgetsModel", "countOf", "(I)I"⟩ prog_5_method_13_code 4 (some FieldType.int) : Cond) ∈ lw_tbl := tw_at 600 (by decide +kernel)
theorem tw_601 : (.methodLink "LayerBudgetsLaw" 75 ⟨"LayerBudgetsModel", "gain", "(II)J"⟩ : Cond) ∈ lw_tbl := tw_at 601 (by decide +kernel)
theorem tw_602 : (.instanceMethod ⟨"LayerBudgetsModel", "gain", "(II)J"⟩ : Cond) ∈ lw_tbl := tw_at 602 (by decide +kernel)
theorem tw_603 : (.selects "LayerBudgetsModel" ⟨"LayerBudgetsModel", "gain", "(II)J"⟩ ⟨"LayerBudgetsModel", "gain", "(II)J"⟩ : Cond) ∈ lw_tbl := tw_at 603 (by decide +kernel)
theorem tw_604 : (.code ⟨"LayerBudgetsModel", "gain", "(II)J"⟩ prog_5_method_15_code 5 (some FieldType.long) : Cond) ∈ lw_tbl := tw_at 604 (by decide +kernel)
theorem tw_605 : (.methodLink "LayerBudgetsLaw" 79 ⟨"LayerBudgetsModel", "layer", "(I)I"⟩ : Cond) ∈ lw_tbl := tw_at 605 (by decide +kernel)
theorem tw_606 : (.instanceMethod ⟨"LayerBudgetsModel", "layer", "(I)I"⟩ : Cond) ∈ lw_tbl := tw_at 606 (by decide +kernel)
theorem tw_607 : (.selects "LayerBudgetsModel" ⟨"LayerBudgetsModel", "layer", "(I)I"⟩ ⟨"LayerBudgetsModel", "layer", "(I)I"⟩ : Cond) ∈ lw_tbl := tw_at 607 (by decide +kernel)
theorem tw_608 : (.code ⟨"LayerBudgetsModel", "layer", "(I)I"⟩ prog_5_method_22_code 5 (some FieldType.int) : Cond) ∈ lw_tbl := tw_at 608 (by decide +kernel)
theorem tw_609 : (.constantLong "LayerBudgetsModel" 101 (-1) : Cond) ∈ lw_tbl := tw_at 609 (by decide +kernel)
theorem tw_610 : (.methodLink "LayerBudgetsModel" 103 ⟨"LayerBudgetsModel", "steepest", "()I"⟩ : Cond) ∈ lw_tbl := tw_at 610 (by decide +kernel)
theorem tw_611 : (.privateMethod ⟨"LayerBudgetsModel", "steepest", "()I"⟩ : Cond) ∈ lw_tbl := tw_at 611 (by decide +kernel)
theorem tw_612 : (.instanceMethod ⟨"LayerBudgetsModel", "steepest", "()I"⟩ : Cond) ∈ lw_tbl := tw_at 612 (by decide +kernel)
theorem tw_613 : (.code ⟨"LayerBudgetsModel", "steepest", "()I"⟩ prog_5_method_16_code 3 (some FieldType.int) : Cond) ∈ lw_tbl := tw_at 613 (by decide +kernel)
theorem tw_614 : (.methodLink "LayerBudgetsModel" 94 ⟨"LayerBudgetsModel", "against", "(II)I"⟩ : Cond) ∈ lw_tbl := tw_at 614 (by decide +kernel)
theorem tw_615 : (.privateMethod ⟨"LayerBudgetsModel", "against", "(II)I"⟩ : Cond) ∈ lw_tbl := tw_at 615 (by decide +kernel)
theorem tw_616 : (.instanceMethod ⟨"LayerBudgetsModel", "against", "(II)I"⟩ : Cond) ∈ lw_tbl := tw_at 616 (by decide +kernel)
theorem tw_617 : (.code ⟨"LayerBudgetsModel", "against", "(II)I"⟩ prog_5_method_17_code 3 (some FieldType.int) : Cond) ∈ lw_tbl := tw_at 617 (by decide +kernel)
theorem tw_618 : (.methodLink "LayerBudgetsModel" 107 ⟨"LayerBudgetsModel", "sumOf", "()I"⟩ : Cond) ∈ lw_tbl := tw_at 618 (by decide +kernel)
theorem tw_619 : (.privateMethod ⟨"LayerBudgetsModel", "sumOf", "()I"⟩ : Cond) ∈ lw_tbl := tw_at 619 (by decide +kernel)
theorem tw_620 : (.instanceMethod ⟨"LayerBudgetsModel", "sumOf", "()I"⟩ : Cond) ∈ lw_tbl := tw_at 620 (by decide +kernel)
theorem tw_621 : (.code ⟨"LayerBudgetsModel", "sumOf", "()I"⟩ prog_5_method_21_code 3 (some FieldType.int) : Cond) ∈ lw_tbl := tw_at 621 (by decide +kernel)
theorem tw_622 : (.methodLink "LayerBudgetsModel" 110 ⟨"LayerBudgetsModel", "costOf", "(I)J"⟩ : Cond) ∈ lw_tbl := tw_at 622 (by decide +kernel)
theorem tw_623 : (.privateMethod ⟨"LayerBudgetsModel", "costOf", "(I)J"⟩ : Cond) ∈ lw_tbl := tw_at 623 (by decide +kernel)
theorem tw_624 : (.instanceMethod ⟨"LayerBudgetsModel", "costOf", "(I)J"⟩ : Cond) ∈ lw_tbl := tw_at 624 (by decide +kernel)
theorem tw_625 : (.code ⟨"LayerBudgetsModel", "costOf", "(I)J"⟩ prog_5_method_18_code 5 (some FieldType.long) : Cond) ∈ lw_tbl := tw_at 625 (by decide +kernel)
theorem tw_626 : (.methodLink "LayerBudgetsModel" 114 ⟨"LayerBudgetsModel", "take", "(I)V"⟩ : Cond) ∈ lw_tbl := tw_at 626 (by decide +kernel)
theorem tw_627 : (.privateMethod ⟨"LayerBudgetsModel", "take", "(I)V"⟩ : Cond) ∈ lw_tbl := tw_at 627 (by decide +kernel)
theorem tw_628 : (.instanceMethod ⟨"LayerBudgetsModel", "take", "(I)V"⟩ : Cond) ∈ lw_tbl := tw_at 628 (by decide +kernel)
theorem tw_629 : (.code ⟨"LayerBudgetsModel", "take", "(I)V"⟩ prog_5_method_19_code 3 none : Cond) ∈ lw_tbl := tw_at 629 (by decide +kernel)
theorem tw_630 : (.methodLink "LayerBudgetsModel" 97 ⟨"LayerBudgetsModel", "goOn", "(I)V"⟩ : Cond) ∈ lw_tbl := tw_at 630 (by decide +kernel)
theorem tw_631 : (.privateMethod ⟨"LayerBudgetsModel", "goOn", "(I)V"⟩ : Cond) ∈ lw_tbl := tw_at 631 (by decide +kernel)
theorem tw_632 : (.instanceMethod ⟨"LayerBudgetsModel", "goOn", "(I)V"⟩ : Cond) ∈ lw_tbl := tw_at 632 (by decide +kernel)
theorem tw_633 : (.code ⟨"LayerBudgetsModel", "goOn", "(I)V"⟩ prog_5_method_20_code 2 none : Cond) ∈ lw_tbl := tw_at 633 (by decide +kernel)
theorem tw_634 : (.methodLink "LayerBudgetsLaw" 83 ⟨"LayerBudgetsModel", "layers", "()I"⟩ : Cond) ∈ lw_tbl := tw_at 634 (by decide +kernel)
theorem tw_635 : (.instanceMethod ⟨"LayerBudgetsModel", "layers", "()I"⟩ : Cond) ∈ lw_tbl := tw_at 635 (by decide +kernel)
theorem tw_636 : (.selects "LayerBudgetsModel" ⟨"LayerBudgetsModel", "layers", "()I"⟩ ⟨"LayerBudgetsModel", "layers", "()I"⟩ : Cond) ∈ lw_tbl := tw_at 636 (by decide +kernel)
theorem tw_637 : (.code ⟨"LayerBudgetsModel", "layers", "()I"⟩ prog_5_method_23_code 1 (some FieldType.int) : Cond) ∈ lw_tbl := tw_at 637 (by decide +kernel)
theorem tw_638 : (.methodLink "LayerBudgetsLaw" 86 ⟨"LayerBudgetsModel", "cut", "(II)I"⟩ : Cond) ∈ lw_tbl := tw_at 638 (by decide +kernel)
theorem tw_639 : (.instanceMethod ⟨"LayerBudgetsModel", "cut", "(II)I"⟩ : Cond) ∈ lw_tbl := tw_at 639 (by decide +kernel)
theorem tw_640 : (.selects "LayerBudgetsModel" ⟨"LayerBudgetsModel", "cut", "(II)I"⟩ ⟨"LayerBudgetsModel", "cut", "(II)I"⟩ : Cond) ∈ lw_tbl := tw_at 640 (by decide +kernel)
theorem tw_641 : (.code ⟨"LayerBudgetsModel", "cut", "(II)I"⟩ prog_5_method_24_code 4 (some FieldType.int) : Cond) ∈ lw_tbl := tw_at 641 (by decide +kernel)
theorem tw_642 : (.methodLink "LayerBudgetsLaw" 89 ⟨"LayerBudgetsModel", "total", "(I)I"⟩ : Cond) ∈ lw_tbl := tw_at 642 (by decide +kernel)
theorem tw_643 : (.instanceMethod ⟨"LayerBudgetsModel", "total", "(I)I"⟩ : Cond) ∈ lw_tbl := tw_at 643 (by decide +kernel)
theorem tw_644 : (.selects "LayerBudgetsModel" ⟨"LayerBudgetsModel", "total", "(I)I"⟩ ⟨"LayerBudgetsModel", "total", "(I)I"⟩ : Cond) ∈ lw_tbl := tw_at 644 (by decide +kernel)
theorem tw_645 : (.code ⟨"LayerBudgetsModel", "total", "(I)I"⟩ prog_5_method_25_code 2 (some FieldType.int) : Cond) ∈ lw_tbl := tw_at 645 (by decide +kernel)
theorem tw_646 : (.methodLink "LayerBudgetsLaw" 92 ⟨"LayerBudgetsModel", "threshold", "(II)J"⟩ : Cond) ∈ lw_tbl := tw_at 646 (by decide +kernel)
theorem tw_647 : (.instanceMethod ⟨"LayerBudgetsModel", "threshold", "(II)J"⟩ : Cond) ∈ lw_tbl := tw_at 647 (by decide +kernel)
theorem tw_648 : (.selects "LayerBudgetsModel" ⟨"LayerBudgetsModel", "threshold", "(II)J"⟩ ⟨"LayerBudgetsModel", "threshold", "(II)J"⟩ : Cond) ∈ lw_tbl := tw_at 648 (by decide +kernel)
theorem tw_649 : (.code ⟨"LayerBudgetsModel", "threshold", "(II)J"⟩ prog_5_method_26_code 4 (some FieldType.long) : Cond) ∈ lw_tbl := tw_at 649 (by decide +kernel)
theorem tw_650 : (.constantLong "LayerBudgetsLaw" 62 4294967295 : Cond) ∈ lw_tbl := tw_at 650 (by decide +kernel)
theorem tw_651 : (.sameMethod "java/lang/Throwable" "java/lang/Throwable" "fillInStackTrace" "(I)Ljava/lang/Throwable;" : Cond) ∈ lw_tbl := tw_at 651 (by decide +kernel)
theorem tw_652 : (.castable "LayerBudgets$Block" "LayerBudgets$Block" : Cond) ∈ lw_tbl := tw_at 652 (by decide +kernel)
theorem tw_653 : (.castable "LayerBudgets$Layer" "LayerBudgets$Layer" : Cond) ∈ lw_tbl := tw_at 653 (by decide +kernel)
theorem tw_654 : (.sameMethod "[Ljava/lang/Object;" "java/lang/Object" "getClass" "()Ljava/lang/Class;" : Cond) ∈ lw_tbl := tw_at 654 (by decide +kernel)
theorem tw_655 : (.selects "[Ljava/lang/Object;" ⟨"java/lang/Object", "getClass", "()Ljava/lang/Class;"⟩ ⟨"java/lang/Object", "getClass", "()Ljava/lang/Class;"⟩ : Cond) ∈ lw_tbl := tw_at 655 (by decide +kernel)
theorem tw_656 : (.declares ⟨"java/lang/Object", "getClass", "()Ljava/lang/Class;"⟩ : Cond) ∈ lw_tbl := tw_at 656 (by decide +kernel)
theorem tw_657 : (.castable "LayerBudgets" "java/lang/Object" : Cond) ∈ lw_tbl := tw_at 657 (by decide +kernel)
theorem tw_658 : (.castable "LayerBudgetsModel" "java/lang/Object" : Cond) ∈ lw_tbl := tw_at 658 (by decide +kernel)
theorem tw_659 : (.castable "LayerBudgets$Block" "java/lang/Object" : Cond) ∈ lw_tbl := tw_at 659 (by decide +kernel)
theorem tw_660 : (.castable "LayerBudgets$Layer" "java/lang/Object" : Cond) ∈ lw_tbl := tw_at 660 (by decide +kernel)
theorem tw_661 : (.castable "java/lang/String" "java/lang/Object" : Cond) ∈ lw_tbl := tw_at 661 (by decide +kernel)
theorem ts_LB_dropLayers : (.selects "LayerBudgets" ⟨"LayerBudgets", "dropLayers", "()V"⟩ ⟨"LayerBudgets", "dropLayers", "()V"⟩ : Cond) ∈ lw_tbl := by decide +kernel
theorem ts_BK_takeNothing : (.selects "LayerBudgets$Block" ⟨"LayerBudgets$Block", "takeNothing", "()V"⟩ ⟨"LayerBudgets$Block", "takeNothing", "()V"⟩ : Cond) ∈ lw_tbl := by decide +kernel
theorem ts_TH_fillInStackTrace : (.selects "java/lang/Throwable" ⟨"java/lang/Throwable", "fillInStackTrace", "(I)Ljava/lang/Throwable;"⟩ ⟨"java/lang/Throwable", "fillInStackTrace", "(I)Ljava/lang/Throwable;"⟩ : Cond) ∈ lw_tbl := by decide +kernel
theorem ts_AL_add3 : (.selects "java/util/ArrayList" ⟨"java/util/ArrayList", "add", "(Ljava/lang/Object;[Ljava/lang/Object;I)V"⟩ ⟨"java/util/ArrayList", "add", "(Ljava/lang/Object;[Ljava/lang/Object;I)V"⟩ : Cond) ∈ lw_tbl := by decide +kernel
theorem ts_AL_grow0 : (.selects "java/util/ArrayList" ⟨"java/util/ArrayList", "grow", "()[Ljava/lang/Object;"⟩ ⟨"java/util/ArrayList", "grow", "()[Ljava/lang/Object;"⟩ : Cond) ∈ lw_tbl := by decide +kernel
theorem ts_AL_grow1 : (.selects "java/util/ArrayList" ⟨"java/util/ArrayList", "grow", "(I)[Ljava/lang/Object;"⟩ ⟨"java/util/ArrayList", "grow", "(I)[Ljava/lang/Object;"⟩ : Cond) ∈ lw_tbl := by decide +kernel
theorem ts_LB_hasBlock : (.selects "LayerBudgets" ⟨"LayerBudgets", "hasBlock", "(I)Z"⟩ ⟨"LayerBudgets", "hasBlock", "(I)Z"⟩ : Cond) ∈ lw_tbl := by decide +kernel
theorem ts_BK_hasRoomFor : (.selects "LayerBudgets$Block" ⟨"LayerBudgets$Block", "hasRoomFor", "(I)Z"⟩ ⟨"LayerBudgets$Block", "hasRoomFor", "(I)Z"⟩ : Cond) ∈ lw_tbl := by decide +kernel
theorem ts_BK_append : (.selects "LayerBudgets$Block" ⟨"LayerBudgets$Block", "append", "(IJ)V"⟩ ⟨"LayerBudgets$Block", "append", "(IJ)V"⟩ : Cond) ∈ lw_tbl := by decide +kernel
theorem ts_BK_renewSteps : (.selects "LayerBudgets$Block" ⟨"LayerBudgets$Block", "renewSteps", "()V"⟩ ⟨"LayerBudgets$Block", "renewSteps", "()V"⟩ : Cond) ∈ lw_tbl := by decide +kernel
theorem ts_BK_newestOvertakes : (.selects "LayerBudgets$Block" ⟨"LayerBudgets$Block", "newestOvertakes", "(I)Z"⟩ ⟨"LayerBudgets$Block", "newestOvertakes", "(I)Z"⟩ : Cond) ∈ lw_tbl := by decide +kernel
theorem ts_BK_stepGain : (.selects "LayerBudgets$Block" ⟨"LayerBudgets$Block", "stepGain", "(I)J"⟩ ⟨"LayerBudgets$Block", "stepGain", "(I)J"⟩ : Cond) ∈ lw_tbl := by decide +kernel
theorem ts_BK_stepBytes : (.selects "LayerBudgets$Block" ⟨"LayerBudgets$Block", "stepBytes", "(I)I"⟩ ⟨"LayerBudgets$Block", "stepBytes", "(I)I"⟩ : Cond) ∈ lw_tbl := by decide +kernel
theorem ts_BK_hasStep : (.selects "LayerBudgets$Block" ⟨"LayerBudgets$Block", "hasStep", "(I)Z"⟩ ⟨"LayerBudgets$Block", "hasStep", "(I)Z"⟩ : Cond) ∈ lw_tbl := by decide +kernel
theorem ts_BK_stepEnd : (.selects "LayerBudgets$Block" ⟨"LayerBudgets$Block", "stepEnd", "(I)I"⟩ ⟨"LayerBudgets$Block", "stepEnd", "(I)I"⟩ : Cond) ∈ lw_tbl := by decide +kernel
theorem ts_LB_takeAllPasses : (.selects "LayerBudgets" ⟨"LayerBudgets", "takeAllPasses", "()V"⟩ ⟨"LayerBudgets", "takeAllPasses", "()V"⟩ : Cond) ∈ lw_tbl := by decide +kernel
theorem ts_BK_takeEverything : (.selects "LayerBudgets$Block" ⟨"LayerBudgets$Block", "takeEverything", "()V"⟩ ⟨"LayerBudgets$Block", "takeEverything", "()V"⟩ : Cond) ∈ lw_tbl := by decide +kernel
theorem ts_BK_allBytes : (.selects "LayerBudgets$Block" ⟨"LayerBudgets$Block", "allBytes", "()I"⟩ ⟨"LayerBudgets$Block", "allBytes", "()I"⟩ : Cond) ∈ lw_tbl := by decide +kernel
theorem ts_LB_takeSteepestSteps : (.selects "LayerBudgets" ⟨"LayerBudgets", "takeSteepestSteps", "(ILLayerBudgets$Layer;)V"⟩ ⟨"LayerBudgets", "takeSteepestSteps", "(ILLayerBudgets$Layer;)V"⟩ : Cond) ∈ lw_tbl := by decide +kernel
theorem ts_LB_steepestBlock : (.selects "LayerBudgets" ⟨"LayerBudgets", "steepestBlock", "()I"⟩ ⟨"LayerBudgets", "steepestBlock", "()I"⟩ : Cond) ∈ lw_tbl := by decide +kernel
theorem ts_BK_hasNext : (.selects "LayerBudgets$Block" ⟨"LayerBudgets$Block", "hasNext", "()Z"⟩ ⟨"LayerBudgets$Block", "hasNext", "()Z"⟩ : Cond) ∈ lw_tbl := by decide +kernel
theorem ts_BK_nextGain : (.selects "LayerBudgets$Block" ⟨"LayerBudgets$Block", "nextGain", "()J"⟩ ⟨"LayerBudgets$Block", "nextGain", "()J"⟩ : Cond) ∈ lw_tbl := by decide +kernel
theorem ts_BK_nextBytes : (.selects "LayerBudgets$Block" ⟨"LayerBudgets$Block", "nextBytes", "()I"⟩ ⟨"LayerBudgets$Block", "nextBytes", "()I"⟩ : Cond) ∈ lw_tbl := by decide +kernel
theorem ts_LB_bytesOfSlope : (.selects "LayerBudgets" ⟨"LayerBudgets", "bytesOfSlope", "(JI)I"⟩ ⟨"LayerBudgets", "bytesOfSlope", "(JI)I"⟩ : Cond) ∈ lw_tbl := by decide +kernel
theorem ts_BK_nextHasSlope : (.selects "LayerBudgets$Block" ⟨"LayerBudgets$Block", "nextHasSlope", "(JI)Z"⟩ ⟨"LayerBudgets$Block", "nextHasSlope", "(JI)Z"⟩ : Cond) ∈ lw_tbl := by decide +kernel
theorem ts_LB_takeSlope : (.selects "LayerBudgets" ⟨"LayerBudgets", "takeSlope", "(JI)V"⟩ ⟨"LayerBudgets", "takeSlope", "(JI)V"⟩ : Cond) ∈ lw_tbl := by decide +kernel
theorem ts_BK_takeNext : (.selects "LayerBudgets$Block" ⟨"LayerBudgets$Block", "takeNext", "()V"⟩ ⟨"LayerBudgets$Block", "takeNext", "()V"⟩ : Cond) ∈ lw_tbl := by decide +kernel
theorem ts_LB_recordCuts : (.selects "LayerBudgets" ⟨"LayerBudgets", "recordCuts", "(LLayerBudgets$Layer;)V"⟩ ⟨"LayerBudgets", "recordCuts", "(LLayerBudgets$Layer;)V"⟩ : Cond) ∈ lw_tbl := by decide +kernel
theorem ts_LB_hasLayer : (.selects "LayerBudgets" ⟨"LayerBudgets", "hasLayer", "(I)Z"⟩ ⟨"LayerBudgets", "hasLayer", "(I)Z"⟩ : Cond) ∈ lw_tbl := by decide +kernel
theorem ts_MD_throwing : (.selects "LayerBudgetsModel" ⟨"LayerBudgetsModel", "throwing", "(ZZ)Z"⟩ ⟨"LayerBudgetsModel", "throwing", "(ZZ)Z"⟩ : Cond) ∈ lw_tbl := by decide +kernel
theorem ts_MD_beginOf : (.selects "LayerBudgetsModel" ⟨"LayerBudgetsModel", "beginOf", "(II)I"⟩ ⟨"LayerBudgetsModel", "beginOf", "(II)I"⟩ : Cond) ∈ lw_tbl := by decide +kernel
theorem ts_MD_stepFrom : (.selects "LayerBudgetsModel" ⟨"LayerBudgetsModel", "stepFrom", "(II)I"⟩ ⟨"LayerBudgetsModel", "stepFrom", "(II)I"⟩ : Cond) ∈ lw_tbl := by decide +kernel
theorem ts_MD_gainOf : (.selects "LayerBudgetsModel" ⟨"LayerBudgetsModel", "gainOf", "(III)J"⟩ ⟨"LayerBudgetsModel", "gainOf", "(III)J"⟩ : Cond) ∈ lw_tbl := by decide +kernel
theorem ts_MD_bytesOf : (.selects "LayerBudgetsModel" ⟨"LayerBudgetsModel", "bytesOf", "(III)I"⟩ ⟨"LayerBudgetsModel", "bytesOf", "(III)I"⟩ : Cond) ∈ lw_tbl := by decide +kernel
theorem ts_MD_countOf : (.selects "LayerBudgetsModel" ⟨"LayerBudgetsModel", "countOf", "(I)I"⟩ ⟨"LayerBudgetsModel", "countOf", "(I)I"⟩ : Cond) ∈ lw_tbl := by decide +kernel
theorem ts_MD_steepest : (.selects "LayerBudgetsModel" ⟨"LayerBudgetsModel", "steepest", "()I"⟩ ⟨"LayerBudgetsModel", "steepest", "()I"⟩ : Cond) ∈ lw_tbl := by decide +kernel
theorem ts_MD_against : (.selects "LayerBudgetsModel" ⟨"LayerBudgetsModel", "against", "(II)I"⟩ ⟨"LayerBudgetsModel", "against", "(II)I"⟩ : Cond) ∈ lw_tbl := by decide +kernel
theorem ts_MD_sumOf : (.selects "LayerBudgetsModel" ⟨"LayerBudgetsModel", "sumOf", "()I"⟩ ⟨"LayerBudgetsModel", "sumOf", "()I"⟩ : Cond) ∈ lw_tbl := by decide +kernel
theorem ts_MD_costOf : (.selects "LayerBudgetsModel" ⟨"LayerBudgetsModel", "costOf", "(I)J"⟩ ⟨"LayerBudgetsModel", "costOf", "(I)J"⟩ : Cond) ∈ lw_tbl := by decide +kernel
theorem ts_MD_take : (.selects "LayerBudgetsModel" ⟨"LayerBudgetsModel", "take", "(I)V"⟩ ⟨"LayerBudgetsModel", "take", "(I)V"⟩ : Cond) ∈ lw_tbl := by decide +kernel
theorem ts_MD_goOn : (.selects "LayerBudgetsModel" ⟨"LayerBudgetsModel", "goOn", "(I)V"⟩ ⟨"LayerBudgetsModel", "goOn", "(I)V"⟩ : Cond) ∈ lw_tbl := by decide +kernel
end
section
theorem d_LB_init_0 : decode b_LB_init 0 = .ok (.aload_n 0, 1) := by decide +kernel
theorem d_LB_init_1 : decode b_LB_init 1 = .ok (.invokespecial 1, 3) := by decide +kernel
theorem d_LB_init_4 : decode b_LB_init 4 = .ok (.aload_n 0, 1) := by decide +kernel
theorem d_LB_init_5 : decode b_LB_init 5 = .ok (.new 7, 3) := by decide +kernel
theorem d_LB_init_8 : decode b_LB_init 8 = .ok (.dup, 1) := by decide +kernel
theorem d_LB_init_9 : decode b_LB_init 9 = .ok (.invokespecial 9, 3) := by decide +kernel
theorem d_LB_init_12 : decode b_LB_init 12 = .ok (.putfield 10, 3) := by decide +kernel
theorem d_LB_init_15 : decode b_LB_init 15 = .ok (.aload_n 0, 1) := by decide +kernel
theorem d_LB_init_16 : decode b_LB_init 16 = .ok (.new 7, 3) := by decide +kernel
theorem d_LB_init_19 : decode b_LB_init 19 = .ok (.dup, 1) := by decide +kernel
theorem d_LB_init_20 : decode b_LB_init 20 = .ok (.invokespecial 9, 3) := by decide +kernel
theorem d_LB_init_23 : decode b_LB_init 23 = .ok (.putfield 16, 3) := by decide +kernel
theorem d_LB_init_26 : decode b_LB_init 26 = .ok (.return_, 1) := by decide +kernel
theorem d_LB_clear_0 : decode b_LB_clear 0 = .ok (.aload_n 0, 1) := by decide +kernel
theorem d_LB_clear_1 : decode b_LB_clear 1 = .ok (.invokevirtual 19, 3) := by decide +kernel
theorem d_LB_clear_4 : decode b_LB_clear 4 = .ok (.aload_n 0, 1) := by decide +kernel
theorem d_LB_clear_5 : decode b_LB_clear 5 = .ok (.getfield 10, 3) := by decide +kernel
theorem d_LB_clear_8 : decode b_LB_clear 8 = .ok (.invokevirtual 22, 3) := by decide +kernel
theorem d_LB_clear_11 : decode b_LB_clear 11 = .ok (.aload_n 0, 1) := by decide +kernel
theorem d_LB_clear_12 : decode b_LB_clear 12 = .ok (.iconst 0, 1) := by decide +kernel
theorem d_LB_clear_13 : decode b_LB_clear 13 = .ok (.putfield 25, 3) := by decide +kernel
theorem d_LB_clear_16 : decode b_LB_clear 16 = .ok (.return_, 1) := by decide +kernel
theorem d_LB_dropLayers_0 : decode b_LB_dropLayers 0 = .ok (.aload_n 0, 1) := by decide +kernel
theorem d_LB_dropLayers_1 : decode b_LB_dropLayers 1 = .ok (.getfield 16, 3) := by decide +kernel
theorem d_LB_dropLayers_4 : decode b_LB_dropLayers 4 = .ok (.invokevirtual 143, 3) := by decide +kernel
theorem d_LB_dropLayers_7 : decode b_LB_dropLayers 7 = .ok (.ifCond .eq 4, 3) := by decide +kernel
theorem d_LB_dropLayers_10 : decode b_LB_dropLayers 10 = .ok (.return_, 1) := by decide +kernel
theorem d_LB_dropLayers_11 : decode b_LB_dropLayers 11 = .ok (.aload_n 0, 1) := by decide +kernel
theorem d_LB_dropLayers_12 : decode b_LB_dropLayers 12 = .ok (.getfield 16, 3) := by decide +kernel
theorem d_LB_dropLayers_15 : decode b_LB_dropLayers 15 = .ok (.invokevirtual 22, 3) := by decide +kernel
theorem d_LB_dropLayers_18 : decode b_LB_dropLayers 18 = .ok (.aload_n 0, 1) := by decide +kernel
theorem d_LB_dropLayers_19 : decode b_LB_dropLayers 19 = .ok (.iconst 0, 1) := by decide +kernel
theorem d_LB_dropLayers_20 : decode b_LB_dropLayers 20 = .ok (.putfield 147, 3) := by decide +kernel
theorem d_LB_dropLayers_23 : decode b_LB_dropLayers 23 = .ok (.iconst 0, 1) := by decide +kernel
theorem d_LB_dropLayers_24 : decode b_LB_dropLayers 24 = .ok (.istore_n 1, 1) := by decide +kernel
theorem d_LB_dropLayers_25 : decode b_LB_dropLayers 25 = .ok (.iload_n 1, 1) := by decide +kernel
theorem d_LB_dropLayers_26 : decode b_LB_dropLayers 26 = .ok (.aload_n 0, 1) := by decide +kernel
theorem d_LB_dropLayers_27 : decode b_LB_dropLayers 27 = .ok (.getfield 10, 3) := by decide +kernel
theorem d_LB_dropLayers_30 : decode b_LB_dropLayers 30 = .ok (.invokevirtual 29, 3) := by decide +kernel
theorem d_LB_dropLayers_33 : decode b_LB_dropLayers 33 = .ok (.if_icmp .ge 23, 3) := by decide +kernel
theorem d_LB_dropLayers_36 : decode b_LB_dropLayers 36 = .ok (.aload_n 0, 1) := by decide +kernel
theorem d_LB_dropLayers_37 : decode b_LB_dropLayers 37 = .ok (.getfield 10, 3) := by decide +kernel
theorem d_LB_dropLayers_40 : decode b_LB_dropLayers 40 = .ok (.iload_n 1, 1) := by decide +kernel
theorem d_LB_dropLayers_41 : decode b_LB_dropLayers 41 = .ok (.invokevirtual 64, 3) := by decide +kernel
theorem d_LB_dropLayers_44 : decode b_LB_dropLayers 44 = .ok (.checkcast 40, 3) := by decide +kernel
theorem d_LB_dropLayers_47 : decode b_LB_dropLayers 47 = .ok (.invokevirtual 150, 3) := by decide +kernel
theorem d_LB_dropLayers_50 : decode b_LB_dropLayers 50 = .ok (.iinc 1 1, 3) := by decide +kernel
theorem d_LB_dropLayers_53 : decode b_LB_dropLayers 53 = .ok (.goto (-28), 3) := by decide +kernel
theorem d_LB_dropLayers_56 : decode b_LB_dropLayers 56 = .ok (.return_, 1) := by decide +kernel
theorem d_BK_takeNothing_0 : decode b_BK_takeNothing 0 = .ok (.aload_n 0, 1) := by decide +kernel
theorem d_BK_takeNothing_1 : decode b_BK_takeNothing 1 = .ok (.iconst 0, 1) := by decide +kernel
theorem d_BK_takeNothing_2 : decode b_BK_takeNothing 2 = .ok (.putfield 67, 3) := by decide +kernel
theorem d_BK_takeNothing_5 : decode b_BK_takeNothing 5 = .ok (.aload_n 0, 1) := by decide +kernel
theorem d_BK_takeNothing_6 : decode b_BK_takeNothing 6 = .ok (.iconst 0, 1) := by decide +kernel
theorem d_BK_takeNothing_7 : decode b_BK_takeNothing 7 = .ok (.putfield 49, 3) := by decide +kernel
theorem d_BK_takeNothing_10 : decode b_BK_takeNothing 10 = .ok (.return_, 1) := by decide +kernel
theorem d_LB_layers_0 : decode b_LB_layers 0 = .ok (.aload_n 0, 1) := by decide +kernel
theorem d_LB_layers_1 : decode b_LB_layers 1 = .ok (.getfield 16, 3) := by decide +kernel
theorem d_LB_layers_4 : decode b_LB_layers 4 = .ok (.invokevirtual 29, 3) := by decide +kernel
theorem d_LB_layers_7 : decode b_LB_layers 7 = .ok (.ireturn, 1) := by decide +kernel
theorem d_LB_block_0 : decode b_LB_block 0 = .ok (.aload_n 0, 1) := by decide +kernel
theorem d_LB_block_1 : decode b_LB_block 1 = .ok (.getfield 10, 3) := by decide +kernel
theorem d_LB_block_4 : decode b_LB_block 4 = .ok (.invokevirtual 29, 3) := by decide +kernel
theorem d_LB_block_7 : decode b_LB_block 7 = .ok (.sipush 1024, 3) := by decide +kernel
theorem d_LB_block_10 : decode b_LB_block 10 = .ok (.if_icmp .lt 13, 3) := by decide +kernel
theorem d_LB_block_13 : decode b_LB_block 13 = .ok (.new 33, 3) := by decide +kernel
theorem d_LB_block_16 : decode b_LB_block 16 = .ok (.dup, 1) := by decide +kernel
theorem d_LB_block_17 : decode b_LB_block 17 = .ok (.ldc 35, 2) := by decide +kernel
theorem d_LB_block_19 : decode b_LB_block 19 = .ok (.invokespecial 37, 3) := by decide +kernel
theorem d_LB_block_22 : decode b_LB_block 22 = .ok (.athrow, 1) := by decide +kernel
theorem d_LB_block_23 : decode b_LB_block 23 = .ok (.aload_n 0, 1) := by decide +kernel
theorem d_LB_block_24 : decode b_LB_block 24 = .ok (.invokevirtual 19, 3) := by decide +kernel
theorem d_LB_block_27 : decode b_LB_block 27 = .ok (.aload_n 0, 1) := by decide +kernel
theorem d_LB_block_28 : decode b_LB_block 28 = .ok (.getfield 10, 3) := by decide +kernel
theorem d_LB_block_31 : decode b_LB_block 31 = .ok (.new 40, 3) := by decide +kernel
theorem d_LB_block_34 : decode b_LB_block 34 = .ok (.dup, 1) := by decide +kernel
theorem d_LB_block_35 : decode b_LB_block 35 = .ok (.invokespecial 42, 3) := by decide +kernel
theorem d_LB_block_38 : decode b_LB_block 38 = .ok (.invokevirtual 43, 3) := by decide +kernel
theorem d_LB_block_41 : decode b_LB_block 41 = .ok (.pop, 1) := by decide +kernel
theorem d_LB_block_42 : decode b_LB_block 42 = .ok (.aload_n 0, 1) := by decide +kernel
theorem d_LB_block_43 : decode b_LB_block 43 = .ok (.getfield 10, 3) := by decide +kernel
theorem d_LB_block_46 : decode b_LB_block 46 = .ok (.invokevirtual 29, 3) := by decide +kernel
theorem d_LB_block_49 : decode b_LB_block 49 = .ok (.iconst 1, 1) := by decide +kernel
theorem d_LB_block_50 : decode b_LB_block 50 = .ok (.isub, 1) := by decide +kernel
theorem d_LB_block_51 : decode b_LB_block 51 = .ok (.ireturn, 1) := by decide +kernel
theorem d_BK_init_0 : decode b_BK_init 0 = .ok (.aload_n 0, 1) := by decide +kernel
theorem d_BK_init_1 : decode b_BK_init 1 = .ok (.invokespecial 3, 3) := by decide +kernel
theorem d_BK_init_4 : decode b_BK_init 4 = .ok (.aload_n 0, 1) := by decide +kernel
theorem d_BK_init_5 : decode b_BK_init 5 = .ok (.bipush 121, 2) := by decide +kernel
theorem d_BK_init_7 : decode b_BK_init 7 = .ok (.newarray .int, 2) := by decide +kernel
theorem d_BK_init_9 : decode b_BK_init 9 = .ok (.putfield 9, 3) := by decide +kernel
theorem d_BK_init_12 : decode b_BK_init 12 = .ok (.aload_n 0, 1) := by decide +kernel
theorem d_BK_init_13 : decode b_BK_init 13 = .ok (.bipush 121, 2) := by decide +kernel
theorem d_BK_init_15 : decode b_BK_init 15 = .ok (.newarray .long, 2) := by decide +kernel
theorem d_BK_init_17 : decode b_BK_init 17 = .ok (.putfield 15, 3) := by decide +kernel
theorem d_BK_init_20 : decode b_BK_init 20 = .ok (.aload_n 0, 1) := by decide +kernel
theorem d_BK_init_21 : decode b_BK_init 21 = .ok (.bipush 121, 2) := by decide +kernel
theorem d_BK_init_23 : decode b_BK_init 23 = .ok (.newarray .int, 2) := by decide +kernel
theorem d_BK_init_25 : decode b_BK_init 25 = .ok (.putfield 19, 3) := by decide +kernel
theorem d_BK_init_28 : decode b_BK_init 28 = .ok (.return_, 1) := by decide +kernel
theorem d_LB_pass_0 : decode b_LB_pass 0 = .ok (.aload_n 0, 1) := by decide +kernel
theorem d_LB_pass_1 : decode b_LB_pass 1 = .ok (.iload_n 1, 1) := by decide +kernel
theorem d_LB_pass_2 : decode b_LB_pass 2 = .ok (.invokevirtual 47, 3) := by decide +kernel
theorem d_LB_pass_5 : decode b_LB_pass 5 = .ok (.ifCond .ne 13, 3) := by decide +kernel
theorem d_LB_pass_8 : decode b_LB_pass 8 = .ok (.new 51, 3) := by decide +kernel
theorem d_LB_pass_11 : decode b_LB_pass 11 = .ok (.dup, 1) := by decide +kernel
theorem d_LB_pass_12 : decode b_LB_pass 12 = .ok (.ldc 53, 2) := by decide +kernel
theorem d_LB_pass_14 : decode b_LB_pass 14 = .ok (.invokespecial 55, 3) := by decide +kernel
theorem d_LB_pass_17 : decode b_LB_pass 17 = .ok (.athrow, 1) := by decide +kernel
theorem d_LB_pass_18 : decode b_LB_pass 18 = .ok (.iload_n 2, 1) := by decide +kernel
theorem d_LB_pass_19 : decode b_LB_pass 19 = .ok (.ifCond .ge 13, 3) := by decide +kernel
theorem d_LB_pass_22 : decode b_LB_pass 22 = .ok (.new 51, 3) := by decide +kernel
theorem d_LB_pass_25 : decode b_LB_pass 25 = .ok (.dup, 1) := by decide +kernel
theorem d_LB_pass_26 : decode b_LB_pass 26 = .ok (.ldc 56, 2) := by decide +kernel
theorem d_LB_pass_28 : decode b_LB_pass 28 = .ok (.invokespecial 55, 3) := by decide +kernel
theorem d_LB_pass_31 : decode b_LB_pass 31 = .ok (.athrow, 1) := by decide +kernel
theorem d_LB_pass_32 : decode b_LB_pass 32 = .ok (.lload_n 3, 1) := by decide +kernel
theorem d_LB_pass_33 : decode b_LB_pass 33 = .ok (.ldc2_w 58, 3) := by decide +kernel
theorem d_LB_pass_36 : decode b_LB_pass 36 = .ok (.lcmp, 1) := by decide +kernel
theorem d_LB_pass_37 : decode b_LB_pass 37 = .ok (.ifCond .lt 11, 3) := by decide +kernel
theorem d_LB_pass_40 : decode b_LB_pass 40 = .ok (.lload_n 3, 1) := by decide +kernel
theorem d_LB_pass_41 : decode b_LB_pass 41 = .ok (.ldc2_w 60, 3) := by decide +kernel
theorem d_LB_pass_44 : decode b_LB_pass 44 = .ok (.lcmp, 1) := by decide +kernel
theorem d_LB_pass_45 : decode b_LB_pass 45 = .ok (.ifCond .le 13, 3) := by decide +kernel
theorem d_LB_pass_48 : decode b_LB_pass 48 = .ok (.new 51, 3) := by decide +kernel
theorem d_LB_pass_51 : decode b_LB_pass 51 = .ok (.dup, 1) := by decide +kernel
theorem d_LB_pass_52 : decode b_LB_pass 52 = .ok (.ldc 62, 2) := by decide +kernel
theorem d_LB_pass_54 : decode b_LB_pass 54 = .ok (.invokespecial 55, 3) := by decide +kernel
theorem d_LB_pass_57 : decode b_LB_pass 57 = .ok (.athrow, 1) := by decide +kernel
theorem d_LB_pass_58 : decode b_LB_pass 58 = .ok (.aload_n 0, 1) := by decide +kernel
theorem d_LB_pass_59 : decode b_LB_pass 59 = .ok (.getfield 10, 3) := by decide +kernel
theorem d_LB_pass_62 : decode b_LB_pass 62 = .ok (.iload_n 1, 1) := by decide +kernel
theorem d_LB_pass_63 : decode b_LB_pass 63 = .ok (.invokevirtual 64, 3) := by decide +kernel
theorem d_LB_pass_66 : decode b_LB_pass 66 = .ok (.checkcast 40, 3) := by decide +kernel
theorem d_LB_pass_69 : decode b_LB_pass 69 = .ok (.astore 5, 2) := by decide +kernel
theorem d_LB_pass_71 : decode b_LB_pass 71 = .ok (.aload_n 0, 1) := by decide +kernel
theorem d_LB_pass_72 : decode b_LB_pass 72 = .ok (.getfield 25, 3) := by decide +kernel
theorem d_LB_pass_75 : decode b_LB_pass 75 = .ok (.sipush 16384, 3) := by decide +kernel
theorem d_LB_pass_78 : decode b_LB_pass 78 = .ok (.if_icmp .ge 12, 3) := by decide +kernel
theorem d_LB_pass_81 : decode b_LB_pass 81 = .ok (.aload 5, 2) := by decide +kernel
theorem d_LB_pass_83 : decode b_LB_pass 83 = .ok (.iload_n 2, 1) := by decide +kernel
theorem d_LB_pass_84 : decode b_LB_pass 84 = .ok (.invokevirtual 68, 3) := by decide +kernel
theorem d_LB_pass_87 : decode b_LB_pass 87 = .ok (.ifCond .ne 13, 3) := by decide +kernel
theorem d_LB_pass_90 : decode b_LB_pass 90 = .ok (.new 33, 3) := by decide +kernel
theorem d_LB_pass_93 : decode b_LB_pass 93 = .ok (.dup, 1) := by decide +kernel
theorem d_LB_pass_94 : decode b_LB_pass 94 = .ok (.ldc 71, 2) := by decide +kernel
theorem d_LB_pass_96 : decode b_LB_pass 96 = .ok (.invokespecial 37, 3) := by decide +kernel
theorem d_LB_pass_99 : decode b_LB_pass 99 = .ok (.athrow, 1) := by decide +kernel
theorem d_LB_pass_100 : decode b_LB_pass 100 = .ok (.aload_n 0, 1) := by decide +kernel
theorem d_LB_pass_101 : decode b_LB_pass 101 = .ok (.invokevirtual 19, 3) := by decide +kernel
theorem d_LB_pass_104 : decode b_LB_pass 104 = .ok (.aload_n 0, 1) := by decide +kernel
theorem d_LB_pass_105 : decode b_LB_pass 105 = .ok (.dup, 1) := by decide +kernel
theorem d_LB_pass_106 : decode b_LB_pass 106 = .ok (.getfield 25, 3) := by decide +kernel
theorem d_LB_pass_109 : decode b_LB_pass 109 = .ok (.iconst 1, 1) := by decide +kernel
theorem d_LB_pass_110 : decode b_LB_pass 110 = .ok (.iadd, 1) := by decide +kernel
theorem d_LB_pass_111 : decode b_LB_pass 111 = .ok (.putfield 25, 3) := by decide +kernel
theorem d_LB_pass_114 : decode b_LB_pass 114 = .ok (.aload 5, 2) := by decide +kernel
theorem d_LB_pass_116 : decode b_LB_pass 116 = .ok (.iload_n 2, 1) := by decide +kernel
theorem d_LB_pass_117 : decode b_LB_pass 117 = .ok (.lload_n 3, 1) := by decide +kernel
theorem d_LB_pass_118 : decode b_LB_pass 118 = .ok (.invokevirtual 73, 3) := by decide +kernel
theorem d_LB_pass_121 : decode b_LB_pass 121 = .ok (.aload 5, 2) := by decide +kernel
theorem d_LB_pass_123 : decode b_LB_pass 123 = .ok (.getfield 77, 3) := by decide +kernel
theorem d_LB_pass_126 : decode b_LB_pass 126 = .ok (.ireturn, 1) := by decide +kernel
theorem d_LB_hasBlock_0 : decode b_LB_hasBlock 0 = .ok (.iload_n 1, 1) := by decide +kernel
theorem d_LB_hasBlock_1 : decode b_LB_hasBlock 1 = .ok (.ifCond .lt 18, 3) := by decide +kernel
theorem d_LB_hasBlock_4 : decode b_LB_hasBlock 4 = .ok (.iload_n 1, 1) := by decide +kernel
theorem d_LB_hasBlock_5 : decode b_LB_hasBlock 5 = .ok (.aload_n 0, 1) := by decide +kernel
theorem d_LB_hasBlock_6 : decode b_LB_hasBlock 6 = .ok (.getfield 10, 3) := by decide +kernel
theorem d_LB_hasBlock_9 : decode b_LB_hasBlock 9 = .ok (.invokevirtual 29, 3) := by decide +kernel
theorem d_LB_hasBlock_12 : decode b_LB_hasBlock 12 = .ok (.if_icmp .ge 7, 3) := by decide +kernel
theorem d_LB_hasBlock_15 : decode b_LB_hasBlock 15 = .ok (.iconst 1, 1) := by decide +kernel
theorem d_LB_hasBlock_16 : decode b_LB_hasBlock 16 = .ok (.goto 4, 3) := by decide +kernel
theorem d_LB_hasBlock_19 : decode b_LB_hasBlock 19 = .ok (.iconst 0, 1) := by decide +kernel
theorem d_LB_hasBlock_20 : decode b_LB_hasBlock 20 = .ok (.ireturn, 1) := by decide +kernel
theorem d_BK_hasRoomFor_0 : decode b_BK_hasRoomFor 0 = .ok (.aload_n 0, 1) := by decide +kernel
theorem d_BK_hasRoomFor_1 : decode b_BK_hasRoomFor 1 = .ok (.getfield 22, 3) := by decide +kernel
theorem d_BK_hasRoomFor_4 : decode b_BK_hasRoomFor 4 = .ok (.bipush 120, 2) := by decide +kernel
theorem d_BK_hasRoomFor_6 : decode b_BK_hasRoomFor 6 = .ok (.if_icmp .ge 23, 3) := by decide +kernel
theorem d_BK_hasRoomFor_9 : decode b_BK_hasRoomFor 9 = .ok (.iload_n 1, 1) := by decide +kernel
theorem d_BK_hasRoomFor_10 : decode b_BK_hasRoomFor 10 = .ok (.ldc 26, 2) := by decide +kernel
theorem d_BK_hasRoomFor_12 : decode b_BK_hasRoomFor 12 = .ok (.aload_n 0, 1) := by decide +kernel
theorem d_BK_hasRoomFor_13 : decode b_BK_hasRoomFor 13 = .ok (.getfield 9, 3) := by decide +kernel
theorem d_BK_hasRoomFor_16 : decode b_BK_hasRoomFor 16 = .ok (.aload_n 0, 1) := by decide +kernel
theorem d_BK_hasRoomFor_17 : decode b_BK_hasRoomFor 17 = .ok (.getfield 22, 3) := by decide +kernel
theorem d_BK_hasRoomFor_20 : decode b_BK_hasRoomFor 20 = .ok (.iaload, 1) := by decide +kernel
theorem d_BK_hasRoomFor_21 : decode b_BK_hasRoomFor 21 = .ok (.isub, 1) := by decide +kernel
theorem d_BK_hasRoomFor_22 : decode b_BK_hasRoomFor 22 = .ok (.if_icmp .gt 7, 3) := by decide +kernel
theorem d_BK_hasRoomFor_25 : decode b_BK_hasRoomFor 25 = .ok (.iconst 1, 1) := by decide +kernel
theorem d_BK_hasRoomFor_26 : decode b_BK_hasRoomFor 26 = .ok (.goto 4, 3) := by decide +kernel
theorem d_BK_hasRoomFor_29 : decode b_BK_hasRoomFor 29 = .ok (.iconst 0, 1) := by decide +kernel
theorem d_BK_hasRoomFor_30 : decode b_BK_hasRoomFor 30 = .ok (.ireturn, 1) := by decide +kernel
theorem d_BK_append_0 : decode b_BK_append 0 = .ok (.aload_n 0, 1) := by decide +kernel
theorem d_BK_append_1 : decode b_BK_append 1 = .ok (.getfield 9, 3) := by decide +kernel
theorem d_BK_append_4 : decode b_BK_append 4 = .ok (.aload_n 0, 1) := by decide +kernel
theorem d_BK_append_5 : decode b_BK_append 5 = .ok (.getfield 22, 3) := by decide +kernel
theorem d_BK_append_8 : decode b_BK_append 8 = .ok (.iconst 1, 1) := by decide +kernel
theorem d_BK_append_9 : decode b_BK_append 9 = .ok (.iadd, 1) := by decide +kernel
theorem d_BK_append_10 : decode b_BK_append 10 = .ok (.aload_n 0, 1) := by decide +kernel
theorem d_BK_append_11 : decode b_BK_append 11 = .ok (.getfield 9, 3) := by decide +kernel
theorem d_BK_append_14 : decode b_BK_append 14 = .ok (.aload_n 0, 1) := by decide +kernel
theorem d_BK_append_15 : decode b_BK_append 15 = .ok (.getfield 22, 3) := by decide +kernel
theorem d_BK_append_18 : decode b_BK_append 18 = .ok (.iaload, 1) := by decide +kernel
theorem d_BK_append_19 : decode b_BK_append 19 = .ok (.iload_n 1, 1) := by decide +kernel
theorem d_BK_append_20 : decode b_BK_append 20 = .ok (.iadd, 1) := by decide +kernel
theorem d_BK_append_21 : decode b_BK_append 21 = .ok (.iastore, 1) := by decide +kernel
theorem d_BK_append_22 : decode b_BK_append 22 = .ok (.aload_n 0, 1) := by decide +kernel
theorem d_BK_append_23 : decode b_BK_append 23 = .ok (.getfield 15, 3) := by decide +kernel
theorem d_BK_append_26 : decode b_BK_append 26 = .ok (.aload_n 0, 1) := by decide +kernel
theorem d_BK_append_27 : decode b_BK_append 27 = .ok (.getfield 22, 3) := by decide +kernel
theorem d_BK_append_30 : decode b_BK_append 30 = .ok (.iconst 1, 1) := by decide +kernel
theorem d_BK_append_31 : decode b_BK_append 31 = .ok (.iadd, 1) := by decide +kernel
theorem d_BK_append_32 : decode b_BK_append 32 = .ok (.aload_n 0, 1) := by decide +kernel
theorem d_BK_append_33 : decode b_BK_append 33 = .ok (.getfield 15, 3) := by decide +kernel
theorem d_BK_append_36 : decode b_BK_append 36 = .ok (.aload_n 0, 1) := by decide +kernel
theorem d_BK_append_37 : decode b_BK_append 37 = .ok (.getfield 22, 3) := by decide +kernel
theorem d_BK_append_40 : decode b_BK_append 40 = .ok (.laload, 1) := by decide +kernel
theorem d_BK_append_41 : decode b_BK_append 41 = .ok (.lload_n 2, 1) := by decide +kernel
theorem d_BK_append_42 : decode b_BK_append 42 = .ok (.ladd, 1) := by decide +kernel
theorem d_BK_append_43 : decode b_BK_append 43 = .ok (.lastore, 1) := by decide +kernel
theorem d_BK_append_44 : decode b_BK_append 44 = .ok (.aload_n 0, 1) := by decide +kernel
theorem d_BK_append_45 : decode b_BK_append 45 = .ok (.dup, 1) := by decide +kernel
theorem d_BK_append_46 : decode b_BK_append 46 = .ok (.getfield 22, 3) := by decide +kernel
theorem d_BK_append_49 : decode b_BK_append 49 = .ok (.iconst 1, 1) := by decide +kernel
theorem d_BK_append_50 : decode b_BK_append 50 = .ok (.iadd, 1) := by decide +kernel
theorem d_BK_append_51 : decode b_BK_append 51 = .ok (.putfield 22, 3) := by decide +kernel
theorem d_BK_append_54 : decode b_BK_append 54 = .ok (.aload_n 0, 1) := by decide +kernel
theorem d_BK_append_55 : decode b_BK_append 55 = .ok (.invokevirtual 27, 3) := by decide +kernel
theorem d_BK_append_58 : decode b_BK_append 58 = .ok (.return_, 1) := by decide +kernel
theorem d_BK_renewSteps_0 : decode b_BK_renewSteps 0 = .ok (.aload_n 0, 1) := by decide +kernel
theorem d_BK_renewSteps_1 : decode b_BK_renewSteps 1 = .ok (.getfield 30, 3) := by decide +kernel
theorem d_BK_renewSteps_4 : decode b_BK_renewSteps 4 = .ok (.istore_n 1, 1) := by decide +kernel
theorem d_BK_renewSteps_5 : decode b_BK_renewSteps 5 = .ok (.iload_n 1, 1) := by decide +kernel
theorem d_BK_renewSteps_6 : decode b_BK_renewSteps 6 = .ok (.ifCond .le 19, 3) := by decide +kernel
theorem d_BK_renewSteps_9 : decode b_BK_renewSteps 9 = .ok (.aload_n 0, 1) := by decide +kernel
theorem d_BK_renewSteps_10 : decode b_BK_renewSteps 10 = .ok (.iload_n 1, 1) := by decide +kernel
theorem d_BK_renewSteps_11 : decode b_BK_renewSteps 11 = .ok (.iconst 1, 1) := by decide +kernel
theorem d_BK_renewSteps_12 : decode b_BK_renewSteps 12 = .ok (.isub, 1) := by decide +kernel
theorem d_BK_renewSteps_13 : decode b_BK_renewSteps 13 = .ok (.invokevirtual 33, 3) := by decide +kernel
theorem d_BK_renewSteps_16 : decode b_BK_renewSteps 16 = .ok (.ifCond .eq 9, 3) := by decide +kernel
theorem d_BK_renewSteps_19 : decode b_BK_renewSteps 19 = .ok (.iinc 1 (-1), 3) := by decide +kernel
theorem d_BK_renewSteps_22 : decode b_BK_renewSteps 22 = .ok (.goto (-17), 3) := by decide +kernel
theorem d_BK_renewSteps_25 : decode b_BK_renewSteps 25 = .ok (.aload_n 0, 1) := by decide +kernel
theorem d_BK_renewSteps_26 : decode b_BK_renewSteps 26 = .ok (.getfield 15, 3) := by decide +kernel
theorem d_BK_renewSteps_29 : decode b_BK_renewSteps 29 = .ok (.aload_n 0, 1) := by decide +kernel
theorem d_BK_renewSteps_30 : decode b_BK_renewSteps 30 = .ok (.getfield 22, 3) := by decide +kernel
theorem d_BK_renewSteps_33 : decode b_BK_renewSteps 33 = .ok (.laload, 1) := by decide +kernel
theorem d_BK_renewSteps_34 : decode b_BK_renewSteps 34 = .ok (.aload_n 0, 1) := by decide +kernel
theorem d_BK_renewSteps_35 : decode b_BK_renewSteps 35 = .ok (.getfield 15, 3) := by decide +kernel
theorem d_BK_renewSteps_38 : decode b_BK_renewSteps 38 = .ok (.aload_n 0, 1) := by decide +kernel
theorem d_BK_renewSteps_39 : decode b_BK_renewSteps 39 = .ok (.getfield 19, 3) := by decide +kernel
theorem d_BK_renewSteps_42 : decode b_BK_renewSteps 42 = .ok (.iload_n 1, 1) := by decide +kernel
theorem d_BK_renewSteps_43 : decode b_BK_renewSteps 43 = .ok (.iaload, 1) := by decide +kernel
theorem d_BK_renewSteps_44 : decode b_BK_renewSteps 44 = .ok (.laload, 1) := by decide +kernel
theorem d_BK_renewSteps_45 : decode b_BK_renewSteps 45 = .ok (.lcmp, 1) := by decide +kernel
theorem d_BK_renewSteps_46 : decode b_BK_renewSteps 46 = .ok (.ifCond .le 16, 3) := by decide +kernel
theorem d_BK_renewSteps_49 : decode b_BK_renewSteps 49 = .ok (.iinc 1 1, 3) := by decide +kernel
theorem d_BK_renewSteps_52 : decode b_BK_renewSteps 52 = .ok (.aload_n 0, 1) := by decide +kernel
theorem d_BK_renewSteps_53 : decode b_BK_renewSteps 53 = .ok (.getfield 19, 3) := by decide +kernel
theorem d_BK_renewSteps_56 : decode b_BK_renewSteps 56 = .ok (.iload_n 1, 1) := by decide +kernel
theorem d_BK_renewSteps_57 : decode b_BK_renewSteps 57 = .ok (.aload_n 0, 1) := by decide +kernel
theorem d_BK_renewSteps_58 : decode b_BK_renewSteps 58 = .ok (.getfield 22, 3) := by decide +kernel
theorem d_BK_renewSteps_61 : decode b_BK_renewSteps 61 = .ok (.iastore, 1) := by decide +kernel
theorem d_BK_renewSteps_62 : decode b_BK_renewSteps 62 = .ok (.aload_n 0, 1) := by decide +kernel
theorem d_BK_renewSteps_63 : decode b_BK_renewSteps 63 = .ok (.iload_n 1, 1) := by decide +kernel
theorem d_BK_renewSteps_64 : decode b_BK_renewSteps 64 = .ok (.putfield 30, 3) := by decide +kernel
theorem d_BK_renewSteps_67 : decode b_BK_renewSteps 67 = .ok (.return_, 1) := by decide +kernel
theorem d_BK_newestOvertakes_0 : decode b_BK_newestOvertakes 0 = .ok (.aload_n 0, 1) := by decide +kernel
theorem d_BK_newestOvertakes_1 : decode b_BK_newestOvertakes 1 = .ok (.getfield 19, 3) := by decide +kernel
theorem d_BK_newestOvertakes_4 : decode b_BK_newestOvertakes 4 = .ok (.iload_n 1, 1) := by decide +kernel
theorem d_BK_newestOvertakes_5 : decode b_BK_newestOvertakes 5 = .ok (.iaload, 1) := by decide +kernel
theorem d_BK_newestOvertakes_6 : decode b_BK_newestOvertakes 6 = .ok (.istore_n 2, 1) := by decide +kernel
theorem d_BK_newestOvertakes_7 : decode b_BK_newestOvertakes 7 = .ok (.aload_n 0, 1) := by decide +kernel
theorem d_BK_newestOvertakes_8 : decode b_BK_newestOvertakes 8 = .ok (.getfield 15, 3) := by decide +kernel
theorem d_BK_newestOvertakes_11 : decode b_BK_newestOvertakes 11 = .ok (.aload_n 0, 1) := by decide +kernel
theorem d_BK_newestOvertakes_12 : decode b_BK_newestOvertakes 12 = .ok (.getfield 22, 3) := by decide +kernel
theorem d_BK_newestOvertakes_15 : decode b_BK_newestOvertakes 15 = .ok (.laload, 1) := by decide +kernel
theorem d_BK_newestOvertakes_16 : decode b_BK_newestOvertakes 16 = .ok (.aload_n 0, 1) := by decide +kernel
theorem d_BK_newestOvertakes_17 : decode b_BK_newestOvertakes 17 = .ok (.getfield 15, 3) := by decide +kernel
theorem d_BK_newestOvertakes_20 : decode b_BK_newestOvertakes 20 = .ok (.iload_n 2, 1) := by decide +kernel
theorem d_BK_newestOvertakes_21 : decode b_BK_newestOvertakes 21 = .ok (.laload, 1) := by decide +kernel
theorem d_BK_newestOvertakes_22 : decode b_BK_newestOvertakes 22 = .ok (.lsub, 1) := by decide +kernel
theorem d_BK_newestOvertakes_23 : decode b_BK_newestOvertakes 23 = .ok (.lstore_n 3, 1) := by decide +kernel
theorem d_BK_newestOvertakes_24 : decode b_BK_newestOvertakes 24 = .ok (.aload_n 0, 1) := by decide +kernel
theorem d_BK_newestOvertakes_25 : decode b_BK_newestOvertakes 25 = .ok (.getfield 9, 3) := by decide +kernel
theorem d_BK_newestOvertakes_28 : decode b_BK_newestOvertakes 28 = .ok (.aload_n 0, 1) := by decide +kernel
theorem d_BK_newestOvertakes_29 : decode b_BK_newestOvertakes 29 = .ok (.getfield 22, 3) := by decide +kernel
theorem d_BK_newestOvertakes_32 : decode b_BK_newestOvertakes 32 = .ok (.iaload, 1) := by decide +kernel
theorem d_BK_newestOvertakes_33 : decode b_BK_newestOvertakes 33 = .ok (.aload_n 0, 1) := by decide +kernel
theorem d_BK_newestOvertakes_34 : decode b_BK_newestOvertakes 34 = .ok (.getfield 9, 3) := by decide +kernel
theorem d_BK_newestOvertakes_37 : decode b_BK_newestOvertakes 37 = .ok (.iload_n 2, 1) := by decide +kernel
theorem d_BK_newestOvertakes_38 : decode b_BK_newestOvertakes 38 = .ok (.iaload, 1) := by decide +kernel
theorem d_BK_newestOvertakes_39 : decode b_BK_newestOvertakes 39 = .ok (.isub, 1) := by decide +kernel
theorem d_BK_newestOvertakes_40 : decode b_BK_newestOvertakes 40 = .ok (.istore 5, 2) := by decide +kernel
theorem d_BK_newestOvertakes_42 : decode b_BK_newestOvertakes 42 = .ok (.lload_n 3, 1) := by decide +kernel
theorem d_BK_newestOvertakes_43 : decode b_BK_newestOvertakes 43 = .ok (.lconst 0, 1) := by decide +kernel
theorem d_BK_newestOvertakes_44 : decode b_BK_newestOvertakes 44 = .ok (.lcmp, 1) := by decide +kernel
theorem d_BK_newestOvertakes_45 : decode b_BK_newestOvertakes 45 = .ok (.ifCond .le 26, 3) := by decide +kernel
theorem d_BK_newestOvertakes_48 : decode b_BK_newestOvertakes 48 = .ok (.lload_n 3, 1) := by decide +kernel
theorem d_BK_newestOvertakes_49 : decode b_BK_newestOvertakes 49 = .ok (.iload 5, 2) := by decide +kernel
theorem d_BK_newestOvertakes_51 : decode b_BK_newestOvertakes 51 = .ok (.aload_n 0, 1) := by decide +kernel
theorem d_BK_newestOvertakes_52 : decode b_BK_newestOvertakes 52 = .ok (.iload_n 1, 1) := by decide +kernel
theorem d_BK_newestOvertakes_53 : decode b_BK_newestOvertakes 53 = .ok (.invokevirtual 37, 3) := by decide +kernel
theorem d_BK_newestOvertakes_56 : decode b_BK_newestOvertakes 56 = .ok (.aload_n 0, 1) := by decide +kernel
theorem d_BK_newestOvertakes_57 : decode b_BK_newestOvertakes 57 = .ok (.iload_n 1, 1) := by decide +kernel
theorem d_BK_newestOvertakes_58 : decode b_BK_newestOvertakes 58 = .ok (.invokevirtual 41, 3) := by decide +kernel
theorem d_BK_newestOvertakes_61 : decode b_BK_newestOvertakes 61 = .ok (.invokestatic 45, 3) := by decide +kernel
theorem d_BK_newestOvertakes_64 : decode b_BK_newestOvertakes 64 = .ok (.ifCond .lt 7, 3) := by decide +kernel
theorem d_BK_newestOvertakes_67 : decode b_BK_newestOvertakes 67 = .ok (.iconst 1, 1) := by decide +kernel
theorem d_BK_newestOvertakes_68 : decode b_BK_newestOvertakes 68 = .ok (.goto 4, 3) := by decide +kernel
theorem d_BK_newestOvertakes_71 : decode b_BK_newestOvertakes 71 = .ok (.iconst 0, 1) := by decide +kernel
theorem d_BK_newestOvertakes_72 : decode b_BK_newestOvertakes 72 = .ok (.ireturn, 1) := by decide +kernel
theorem d_BK_stepGain_0 : decode b_BK_stepGain 0 = .ok (.aload_n 0, 1) := by decide +kernel
theorem d_BK_stepGain_1 : decode b_BK_stepGain 1 = .ok (.getfield 15, 3) := by decide +kernel
theorem d_BK_stepGain_4 : decode b_BK_stepGain 4 = .ok (.aload_n 0, 1) := by decide +kernel
theorem d_BK_stepGain_5 : decode b_BK_stepGain 5 = .ok (.getfield 19, 3) := by decide +kernel
theorem d_BK_stepGain_8 : decode b_BK_stepGain 8 = .ok (.iload_n 1, 1) := by decide +kernel
theorem d_BK_stepGain_9 : decode b_BK_stepGain 9 = .ok (.iconst 1, 1) := by decide +kernel
theorem d_BK_stepGain_10 : decode b_BK_stepGain 10 = .ok (.iadd, 1) := by decide +kernel
theorem d_BK_stepGain_11 : decode b_BK_stepGain 11 = .ok (.iaload, 1) := by decide +kernel
theorem d_BK_stepGain_12 : decode b_BK_stepGain 12 = .ok (.laload, 1) := by decide +kernel
theorem d_BK_stepGain_13 : decode b_BK_stepGain 13 = .ok (.aload_n 0, 1) := by decide +kernel
theorem d_BK_stepGain_14 : decode b_BK_stepGain 14 = .ok (.getfield 15, 3) := by decide +kernel
theorem d_BK_stepGain_17 : decode b_BK_stepGain 17 = .ok (.aload_n 0, 1) := by decide +kernel
theorem d_BK_stepGain_18 : decode b_BK_stepGain 18 = .ok (.getfield 19, 3) := by decide +kernel
theorem d_BK_stepGain_21 : decode b_BK_stepGain 21 = .ok (.iload_n 1, 1) := by decide +kernel
theorem d_BK_stepGain_22 : decode b_BK_stepGain 22 = .ok (.iaload, 1) := by decide +kernel
theorem d_BK_stepGain_23 : decode b_BK_stepGain 23 = .ok (.laload, 1) := by decide +kernel
theorem d_BK_stepGain_24 : decode b_BK_stepGain 24 = .ok (.lsub, 1) := by decide +kernel
theorem d_BK_stepGain_25 : decode b_BK_stepGain 25 = .ok (.lreturn, 1) := by decide +kernel
theorem d_BK_stepBytes_0 : decode b_BK_stepBytes 0 = .ok (.aload_n 0, 1) := by decide +kernel
theorem d_BK_stepBytes_1 : decode b_BK_stepBytes 1 = .ok (.getfield 9, 3) := by decide +kernel
theorem d_BK_stepBytes_4 : decode b_BK_stepBytes 4 = .ok (.aload_n 0, 1) := by decide +kernel
theorem d_BK_stepBytes_5 : decode b_BK_stepBytes 5 = .ok (.getfield 19, 3) := by decide +kernel
theorem d_BK_stepBytes_8 : decode b_BK_stepBytes 8 = .ok (.iload_n 1, 1) := by decide +kernel
theorem d_BK_stepBytes_9 : decode b_BK_stepBytes 9 = .ok (.iconst 1, 1) := by decide +kernel
theorem d_BK_stepBytes_10 : decode b_BK_stepBytes 10 = .ok (.iadd, 1) := by decide +kernel
theorem d_BK_stepBytes_11 : decode b_BK_stepBytes 11 = .ok (.iaload, 1) := by decide +kernel
theorem d_BK_stepBytes_12 : decode b_BK_stepBytes 12 = .ok (.iaload, 1) := by decide +kernel
theorem d_BK_stepBytes_13 : decode b_BK_stepBytes 13 = .ok (.aload_n 0, 1) := by decide +kernel
theorem d_BK_stepBytes_14 : decode b_BK_stepBytes 14 = .ok (.getfield 9, 3) := by decide +kernel
theorem d_BK_stepBytes_17 : decode b_BK_stepBytes 17 = .ok (.aload_n 0, 1) := by decide +kernel
theorem d_BK_stepBytes_18 : decode b_BK_stepBytes 18 = .ok (.getfield 19, 3) := by decide +kernel
theorem d_BK_stepBytes_21 : decode b_BK_stepBytes 21 = .ok (.iload_n 1, 1) := by decide +kernel
theorem d_BK_stepBytes_22 : decode b_BK_stepBytes 22 = .ok (.iaload, 1) := by decide +kernel
theorem d_BK_stepBytes_23 : decode b_BK_stepBytes 23 = .ok (.iaload, 1) := by decide +kernel
theorem d_BK_stepBytes_24 : decode b_BK_stepBytes 24 = .ok (.isub, 1) := by decide +kernel
theorem d_BK_stepBytes_25 : decode b_BK_stepBytes 25 = .ok (.ireturn, 1) := by decide +kernel
theorem d_LB_compareSlopes_0 : decode b_LB_compareSlopes 0 = .ok (.lload_n 0, 1) := by decide +kernel
theorem d_LB_compareSlopes_1 : decode b_LB_compareSlopes 1 = .ok (.iload 5, 2) := by decide +kernel
theorem d_LB_compareSlopes_3 : decode b_LB_compareSlopes 3 = .ok (.i2l, 1) := by decide +kernel
theorem d_LB_compareSlopes_4 : decode b_LB_compareSlopes 4 = .ok (.lmul, 1) := by decide +kernel
theorem d_LB_compareSlopes_5 : decode b_LB_compareSlopes 5 = .ok (.lload_n 3, 1) := by decide +kernel
theorem d_LB_compareSlopes_6 : decode b_LB_compareSlopes 6 = .ok (.iload_n 2, 1) := by decide +kernel
theorem d_LB_compareSlopes_7 : decode b_LB_compareSlopes 7 = .ok (.i2l, 1) := by decide +kernel
theorem d_LB_compareSlopes_8 : decode b_LB_compareSlopes 8 = .ok (.lmul, 1) := by decide +kernel
theorem d_LB_compareSlopes_9 : decode b_LB_compareSlopes 9 = .ok (.invokestatic 194, 3) := by decide +kernel
theorem d_LB_compareSlopes_12 : decode b_LB_compareSlopes 12 = .ok (.ireturn, 1) := by decide +kernel
theorem d_LB_step_0 : decode b_LB_step 0 = .ok (.aload_n 0, 1) := by decide +kernel
theorem d_LB_step_1 : decode b_LB_step 1 = .ok (.iload_n 1, 1) := by decide +kernel
theorem d_LB_step_2 : decode b_LB_step 2 = .ok (.invokevirtual 47, 3) := by decide +kernel
theorem d_LB_step_5 : decode b_LB_step 5 = .ok (.ifCond .ne 13, 3) := by decide +kernel
theorem d_LB_step_8 : decode b_LB_step 8 = .ok (.new 51, 3) := by decide +kernel
theorem d_LB_step_11 : decode b_LB_step 11 = .ok (.dup, 1) := by decide +kernel
theorem d_LB_step_12 : decode b_LB_step 12 = .ok (.ldc 53, 2) := by decide +kernel
theorem d_LB_step_14 : decode b_LB_step 14 = .ok (.invokespecial 55, 3) := by decide +kernel
theorem d_LB_step_17 : decode b_LB_step 17 = .ok (.athrow, 1) := by decide +kernel
theorem d_LB_step_18 : decode b_LB_step 18 = .ok (.aload_n 0, 1) := by decide +kernel
theorem d_LB_step_19 : decode b_LB_step 19 = .ok (.getfield 10, 3) := by decide +kernel
theorem d_LB_step_22 : decode b_LB_step 22 = .ok (.iload_n 1, 1) := by decide +kernel
theorem d_LB_step_23 : decode b_LB_step 23 = .ok (.invokevirtual 64, 3) := by decide +kernel
theorem d_LB_step_26 : decode b_LB_step 26 = .ok (.checkcast 40, 3) := by decide +kernel
theorem d_LB_step_29 : decode b_LB_step 29 = .ok (.astore 4, 2) := by decide +kernel
theorem d_LB_step_31 : decode b_LB_step 31 = .ok (.iload_n 2, 1) := by decide +kernel
theorem d_LB_step_32 : decode b_LB_step 32 = .ok (.iconst (-1), 1) := by decide +kernel
theorem d_LB_step_33 : decode b_LB_step 33 = .ok (.if_icmp .ne 9, 3) := by decide +kernel
theorem d_LB_step_36 : decode b_LB_step 36 = .ok (.aload 4, 2) := by decide +kernel
theorem d_LB_step_38 : decode b_LB_step 38 = .ok (.getfield 80, 3) := by decide +kernel
theorem d_LB_step_41 : decode b_LB_step 41 = .ok (.ireturn, 1) := by decide +kernel
theorem d_LB_step_42 : decode b_LB_step 42 = .ok (.iload_n 3, 1) := by decide +kernel
theorem d_LB_step_43 : decode b_LB_step 43 = .ok (.ifCond .eq 18, 3) := by decide +kernel
theorem d_LB_step_46 : decode b_LB_step 46 = .ok (.iload_n 3, 1) := by decide +kernel
theorem d_LB_step_47 : decode b_LB_step 47 = .ok (.iconst 1, 1) := by decide +kernel
theorem d_LB_step_48 : decode b_LB_step 48 = .ok (.if_icmp .eq 13, 3) := by decide +kernel
theorem d_LB_step_51 : decode b_LB_step 51 = .ok (.new 51, 3) := by decide +kernel
theorem d_LB_step_54 : decode b_LB_step 54 = .ok (.dup, 1) := by decide +kernel
theorem d_LB_step_55 : decode b_LB_step 55 = .ok (.ldc 83, 2) := by decide +kernel
theorem d_LB_step_57 : decode b_LB_step 57 = .ok (.invokespecial 55, 3) := by decide +kernel
theorem d_LB_step_60 : decode b_LB_step 60 = .ok (.athrow, 1) := by decide +kernel
theorem d_LB_step_61 : decode b_LB_step 61 = .ok (.aload 4, 2) := by decide +kernel
theorem d_LB_step_63 : decode b_LB_step 63 = .ok (.iload_n 2, 1) := by decide +kernel
theorem d_LB_step_64 : decode b_LB_step 64 = .ok (.invokevirtual 85, 3) := by decide +kernel
theorem d_LB_step_67 : decode b_LB_step 67 = .ok (.ifCond .ne 13, 3) := by decide +kernel
theorem d_LB_step_70 : decode b_LB_step 70 = .ok (.new 88, 3) := by decide +kernel
theorem d_LB_step_73 : decode b_LB_step 73 = .ok (.dup, 1) := by decide +kernel
theorem d_LB_step_74 : decode b_LB_step 74 = .ok (.ldc 90, 2) := by decide +kernel
theorem d_LB_step_76 : decode b_LB_step 76 = .ok (.invokespecial 92, 3) := by decide +kernel
theorem d_LB_step_79 : decode b_LB_step 79 = .ok (.athrow, 1) := by decide +kernel
theorem d_LB_step_80 : decode b_LB_step 80 = .ok (.iload_n 3, 1) := by decide +kernel
theorem d_LB_step_81 : decode b_LB_step 81 = .ok (.ifCond .ne 12, 3) := by decide +kernel
theorem d_LB_step_84 : decode b_LB_step 84 = .ok (.aload 4, 2) := by decide +kernel
theorem d_LB_step_86 : decode b_LB_step 86 = .ok (.iload_n 2, 1) := by decide +kernel
theorem d_LB_step_87 : decode b_LB_step 87 = .ok (.invokevirtual 93, 3) := by decide +kernel
theorem d_LB_step_90 : decode b_LB_step 90 = .ok (.goto 9, 3) := by decide +kernel
theorem d_LB_step_93 : decode b_LB_step 93 = .ok (.aload 4, 2) := by decide +kernel
theorem d_LB_step_95 : decode b_LB_step 95 = .ok (.iload_n 2, 1) := by decide +kernel
theorem d_LB_step_96 : decode b_LB_step 96 = .ok (.invokevirtual 97, 3) := by decide +kernel
theorem d_LB_step_99 : decode b_LB_step 99 = .ok (.ireturn, 1) := by decide +kernel
theorem d_BK_hasStep_0 : decode b_BK_hasStep 0 = .ok (.iload_n 1, 1) := by decide +kernel
theorem d_BK_hasStep_1 : decode b_BK_hasStep 1 = .ok (.ifCond .lt 15, 3) := by decide +kernel
theorem d_BK_hasStep_4 : decode b_BK_hasStep 4 = .ok (.iload_n 1, 1) := by decide +kernel
theorem d_BK_hasStep_5 : decode b_BK_hasStep 5 = .ok (.aload_n 0, 1) := by decide +kernel
theorem d_BK_hasStep_6 : decode b_BK_hasStep 6 = .ok (.getfield 30, 3) := by decide +kernel
theorem d_BK_hasStep_9 : decode b_BK_hasStep 9 = .ok (.if_icmp .ge 7, 3) := by decide +kernel
theorem d_BK_hasStep_12 : decode b_BK_hasStep 12 = .ok (.iconst 1, 1) := by decide +kernel
theorem d_BK_hasStep_13 : decode b_BK_hasStep 13 = .ok (.goto 4, 3) := by decide +kernel
theorem d_BK_hasStep_16 : decode b_BK_hasStep 16 = .ok (.iconst 0, 1) := by decide +kernel
theorem d_BK_hasStep_17 : decode b_BK_hasStep 17 = .ok (.ireturn, 1) := by decide +kernel
theorem d_BK_stepEnd_0 : decode b_BK_stepEnd 0 = .ok (.aload_n 0, 1) := by decide +kernel
theorem d_BK_stepEnd_1 : decode b_BK_stepEnd 1 = .ok (.getfield 19, 3) := by decide +kernel
theorem d_BK_stepEnd_4 : decode b_BK_stepEnd 4 = .ok (.iload_n 1, 1) := by decide +kernel
theorem d_BK_stepEnd_5 : decode b_BK_stepEnd 5 = .ok (.iconst 1, 1) := by decide +kernel
theorem d_BK_stepEnd_6 : decode b_BK_stepEnd 6 = .ok (.iadd, 1) := by decide +kernel
theorem d_BK_stepEnd_7 : decode b_BK_stepEnd 7 = .ok (.iaload, 1) := by decide +kernel
theorem d_BK_stepEnd_8 : decode b_BK_stepEnd 8 = .ok (.ireturn, 1) := by decide +kernel
theorem d_LB_gain_0 : decode b_LB_gain 0 = .ok (.aload_n 0, 1) := by decide +kernel
theorem d_LB_gain_1 : decode b_LB_gain 1 = .ok (.iload_n 1, 1) := by decide +kernel
theorem d_LB_gain_2 : decode b_LB_gain 2 = .ok (.invokevirtual 47, 3) := by decide +kernel
theorem d_LB_gain_5 : decode b_LB_gain 5 = .ok (.ifCond .ne 13, 3) := by decide +kernel
theorem d_LB_gain_8 : decode b_LB_gain 8 = .ok (.new 51, 3) := by decide +kernel
theorem d_LB_gain_11 : decode b_LB_gain 11 = .ok (.dup, 1) := by decide +kernel
theorem d_LB_gain_12 : decode b_LB_gain 12 = .ok (.ldc 53, 2) := by decide +kernel
theorem d_LB_gain_14 : decode b_LB_gain 14 = .ok (.invokespecial 55, 3) := by decide +kernel
theorem d_LB_gain_17 : decode b_LB_gain 17 = .ok (.athrow, 1) := by decide +kernel
theorem d_LB_gain_18 : decode b_LB_gain 18 = .ok (.aload_n 0, 1) := by decide +kernel
theorem d_LB_gain_19 : decode b_LB_gain 19 = .ok (.getfield 10, 3) := by decide +kernel
theorem d_LB_gain_22 : decode b_LB_gain 22 = .ok (.iload_n 1, 1) := by decide +kernel
theorem d_LB_gain_23 : decode b_LB_gain 23 = .ok (.invokevirtual 64, 3) := by decide +kernel
theorem d_LB_gain_26 : decode b_LB_gain 26 = .ok (.checkcast 40, 3) := by decide +kernel
theorem d_LB_gain_29 : decode b_LB_gain 29 = .ok (.astore_n 3, 1) := by decide +kernel
theorem d_LB_gain_30 : decode b_LB_gain 30 = .ok (.aload_n 3, 1) := by decide +kernel
theorem d_LB_gain_31 : decode b_LB_gain 31 = .ok (.iload_n 2, 1) := by decide +kernel
theorem d_LB_gain_32 : decode b_LB_gain 32 = .ok (.invokevirtual 85, 3) := by decide +kernel
theorem d_LB_gain_35 : decode b_LB_gain 35 = .ok (.ifCond .ne 13, 3) := by decide +kernel
theorem d_LB_gain_38 : decode b_LB_gain 38 = .ok (.new 88, 3) := by decide +kernel
theorem d_LB_gain_41 : decode b_LB_gain 41 = .ok (.dup, 1) := by decide +kernel
theorem d_LB_gain_42 : decode b_LB_gain 42 = .ok (.ldc 90, 2) := by decide +kernel
theorem d_LB_gain_44 : decode b_LB_gain 44 = .ok (.invokespecial 92, 3) := by decide +kernel
theorem d_LB_gain_47 : decode b_LB_gain 47 = .ok (.athrow, 1) := by decide +kernel
theorem d_LB_gain_48 : decode b_LB_gain 48 = .ok (.aload_n 3, 1) := by decide +kernel
theorem d_LB_gain_49 : decode b_LB_gain 49 = .ok (.iload_n 2, 1) := by decide +kernel
theorem d_LB_gain_50 : decode b_LB_gain 50 = .ok (.invokevirtual 100, 3) := by decide +kernel
theorem d_LB_gain_53 : decode b_LB_gain 53 = .ok (.lreturn, 1) := by decide +kernel
theorem d_LB_layer_0 : decode b_LB_layer 0 = .ok (.iload_n 1, 1) := by decide +kernel
theorem d_LB_layer_1 : decode b_LB_layer 1 = .ok (.iconst (-1), 1) := by decide +kernel
theorem d_LB_layer_2 : decode b_LB_layer 2 = .ok (.if_icmp .ge 13, 3) := by decide +kernel
theorem d_LB_layer_5 : decode b_LB_layer 5 = .ok (.new 51, 3) := by decide +kernel
theorem d_LB_layer_8 : decode b_LB_layer 8 = .ok (.dup, 1) := by decide +kernel
theorem d_LB_layer_9 : decode b_LB_layer 9 = .ok (.ldc 104, 2) := by decide +kernel
theorem d_LB_layer_11 : decode b_LB_layer 11 = .ok (.invokespecial 55, 3) := by decide +kernel
theorem d_LB_layer_14 : decode b_LB_layer 14 = .ok (.athrow, 1) := by decide +kernel
theorem d_LB_layer_15 : decode b_LB_layer 15 = .ok (.aload_n 0, 1) := by decide +kernel
theorem d_LB_layer_16 : decode b_LB_layer 16 = .ok (.getfield 16, 3) := by decide +kernel
theorem d_LB_layer_19 : decode b_LB_layer 19 = .ok (.invokevirtual 29, 3) := by decide +kernel
theorem d_LB_layer_22 : decode b_LB_layer 22 = .ok (.bipush 64, 2) := by decide +kernel
theorem d_LB_layer_24 : decode b_LB_layer 24 = .ok (.if_icmp .lt 13, 3) := by decide +kernel
theorem d_LB_layer_27 : decode b_LB_layer 27 = .ok (.new 33, 3) := by decide +kernel
theorem d_LB_layer_30 : decode b_LB_layer 30 = .ok (.dup, 1) := by decide +kernel
theorem d_LB_layer_31 : decode b_LB_layer 31 = .ok (.ldc 106, 2) := by decide +kernel
theorem d_LB_layer_33 : decode b_LB_layer 33 = .ok (.invokespecial 37, 3) := by decide +kernel
theorem d_LB_layer_36 : decode b_LB_layer 36 = .ok (.athrow, 1) := by decide +kernel
theorem d_LB_layer_37 : decode b_LB_layer 37 = .ok (.new 108, 3) := by decide +kernel
theorem d_LB_layer_40 : decode b_LB_layer 40 = .ok (.dup, 1) := by decide +kernel
theorem d_LB_layer_41 : decode b_LB_layer 41 = .ok (.aload_n 0, 1) := by decide +kernel
theorem d_LB_layer_42 : decode b_LB_layer 42 = .ok (.getfield 10, 3) := by decide +kernel
theorem d_LB_layer_45 : decode b_LB_layer 45 = .ok (.invokevirtual 29, 3) := by decide +kernel
theorem d_LB_layer_48 : decode b_LB_layer 48 = .ok (.invokespecial 110, 3) := by decide +kernel
theorem d_LB_layer_51 : decode b_LB_layer 51 = .ok (.astore_n 2, 1) := by decide +kernel
theorem d_LB_layer_52 : decode b_LB_layer 52 = .ok (.iload_n 1, 1) := by decide +kernel
theorem d_LB_layer_53 : decode b_LB_layer 53 = .ok (.iconst (-1), 1) := by decide +kernel
theorem d_LB_layer_54 : decode b_LB_layer 54 = .ok (.if_icmp .ne 10, 3) := by decide +kernel
theorem d_LB_layer_57 : decode b_LB_layer 57 = .ok (.aload_n 0, 1) := by decide +kernel
theorem d_LB_layer_58 : decode b_LB_layer 58 = .ok (.invokevirtual 113, 3) := by decide +kernel
theorem d_LB_layer_61 : decode b_LB_layer 61 = .ok (.goto 9, 3) := by decide +kernel
theorem d_LB_layer_64 : decode b_LB_layer 64 = .ok (.aload_n 0, 1) := by decide +kernel
theorem d_LB_layer_65 : decode b_LB_layer 65 = .ok (.iload_n 1, 1) := by decide +kernel
theorem d_LB_layer_66 : decode b_LB_layer 66 = .ok (.aload_n 2, 1) := by decide +kernel
theorem d_LB_layer_67 : decode b_LB_layer 67 = .ok (.invokevirtual 116, 3) := by decide +kernel
theorem d_LB_layer_70 : decode b_LB_layer 70 = .ok (.aload_n 0, 1) := by decide +kernel
theorem d_LB_layer_71 : decode b_LB_layer 71 = .ok (.aload_n 2, 1) := by decide +kernel
theorem d_LB_layer_72 : decode b_LB_layer 72 = .ok (.invokevirtual 120, 3) := by decide +kernel
theorem d_LB_layer_75 : decode b_LB_layer 75 = .ok (.aload_n 0, 1) := by decide +kernel
theorem d_LB_layer_76 : decode b_LB_layer 76 = .ok (.getfield 16, 3) := by decide +kernel
theorem d_LB_layer_79 : decode b_LB_layer 79 = .ok (.aload_n 2, 1) := by decide +kernel
theorem d_LB_layer_80 : decode b_LB_layer 80 = .ok (.invokevirtual 43, 3) := by decide +kernel
theorem d_LB_layer_83 : decode b_LB_layer 83 = .ok (.pop, 1) := by decide +kernel
theorem d_LB_layer_84 : decode b_LB_layer 84 = .ok (.aload_n 2, 1) := by decide +kernel
theorem d_LB_layer_85 : decode b_LB_layer 85 = .ok (.getfield 124, 3) := by decide +kernel
theorem d_LB_layer_88 : decode b_LB_layer 88 = .ok (.ireturn, 1) := by decide +kernel
theorem d_LY_init_0 : decode b_LY_init 0 = .ok (.aload_n 0, 1) := by decide +kernel
theorem d_LY_init_1 : decode b_LY_init 1 = .ok (.invokespecial 3, 3) := by decide +kernel
theorem d_LY_init_4 : decode b_LY_init 4 = .ok (.aload_n 0, 1) := by decide +kernel
theorem d_LY_init_5 : decode b_LY_init 5 = .ok (.iload_n 1, 1) := by decide +kernel
theorem d_LY_init_6 : decode b_LY_init 6 = .ok (.newarray .int, 2) := by decide +kernel
theorem d_LY_init_8 : decode b_LY_init 8 = .ok (.putfield 9, 3) := by decide +kernel
theorem d_LY_init_11 : decode b_LY_init 11 = .ok (.aload_n 0, 1) := by decide +kernel
theorem d_LY_init_12 : decode b_LY_init 12 = .ok (.ldc2_w 15, 3) := by decide +kernel
theorem d_LY_init_15 : decode b_LY_init 15 = .ok (.putfield 17, 3) := by decide +kernel
theorem d_LY_init_18 : decode b_LY_init 18 = .ok (.aload_n 0, 1) := by decide +kernel
theorem d_LY_init_19 : decode b_LY_init 19 = .ok (.iconst (-1), 1) := by decide +kernel
theorem d_LY_init_20 : decode b_LY_init 20 = .ok (.putfield 21, 3) := by decide +kernel
theorem d_LY_init_23 : decode b_LY_init 23 = .ok (.return_, 1) := by decide +kernel
theorem d_LB_takeAllPasses_0 : decode b_LB_takeAllPasses 0 = .ok (.aload_n 0, 1) := by decide +kernel
theorem d_LB_takeAllPasses_1 : decode b_LB_takeAllPasses 1 = .ok (.iconst 0, 1) := by decide +kernel
theorem d_LB_takeAllPasses_2 : decode b_LB_takeAllPasses 2 = .ok (.putfield 147, 3) := by decide +kernel
theorem d_LB_takeAllPasses_5 : decode b_LB_takeAllPasses 5 = .ok (.iconst 0, 1) := by decide +kernel
theorem d_LB_takeAllPasses_6 : decode b_LB_takeAllPasses 6 = .ok (.istore_n 1, 1) := by decide +kernel
theorem d_LB_takeAllPasses_7 : decode b_LB_takeAllPasses 7 = .ok (.iload_n 1, 1) := by decide +kernel
theorem d_LB_takeAllPasses_8 : decode b_LB_takeAllPasses 8 = .ok (.aload_n 0, 1) := by decide +kernel
theorem d_LB_takeAllPasses_9 : decode b_LB_takeAllPasses 9 = .ok (.getfield 10, 3) := by decide +kernel
theorem d_LB_takeAllPasses_12 : decode b_LB_takeAllPasses 12 = .ok (.invokevirtual 29, 3) := by decide +kernel
theorem d_LB_takeAllPasses_15 : decode b_LB_takeAllPasses 15 = .ok (.if_icmp .ge 38, 3) := by decide +kernel
theorem d_LB_takeAllPasses_18 : decode b_LB_takeAllPasses 18 = .ok (.aload_n 0, 1) := by decide +kernel
theorem d_LB_takeAllPasses_19 : decode b_LB_takeAllPasses 19 = .ok (.getfield 10, 3) := by decide +kernel
theorem d_LB_takeAllPasses_22 : decode b_LB_takeAllPasses 22 = .ok (.iload_n 1, 1) := by decide +kernel
theorem d_LB_takeAllPasses_23 : decode b_LB_takeAllPasses 23 = .ok (.invokevirtual 64, 3) := by decide +kernel
theorem d_LB_takeAllPasses_26 : decode b_LB_takeAllPasses 26 = .ok (.checkcast 40, 3) := by decide +kernel
theorem d_LB_takeAllPasses_29 : decode b_LB_takeAllPasses 29 = .ok (.astore_n 2, 1) := by decide +kernel
theorem d_LB_takeAllPasses_30 : decode b_LB_takeAllPasses 30 = .ok (.aload_n 2, 1) := by decide +kernel
theorem d_LB_takeAllPasses_31 : decode b_LB_takeAllPasses 31 = .ok (.invokevirtual 153, 3) := by decide +kernel
theorem d_LB_takeAllPasses_34 : decode b_LB_takeAllPasses 34 = .ok (.aload_n 0, 1) := by decide +kernel
theorem d_LB_takeAllPasses_35 : decode b_LB_takeAllPasses 35 = .ok (.dup, 1) := by decide +kernel
theorem d_LB_takeAllPasses_36 : decode b_LB_takeAllPasses 36 = .ok (.getfield 147, 3) := by decide +kernel
theorem d_LB_takeAllPasses_39 : decode b_LB_takeAllPasses 39 = .ok (.aload_n 2, 1) := by decide +kernel
theorem d_LB_takeAllPasses_40 : decode b_LB_takeAllPasses 40 = .ok (.invokevirtual 156, 3) := by decide +kernel
theorem d_LB_takeAllPasses_43 : decode b_LB_takeAllPasses 43 = .ok (.iadd, 1) := by decide +kernel
theorem d_LB_takeAllPasses_44 : decode b_LB_takeAllPasses 44 = .ok (.putfield 147, 3) := by decide +kernel
theorem d_LB_takeAllPasses_47 : decode b_LB_takeAllPasses 47 = .ok (.iinc 1 1, 3) := by decide +kernel
theorem d_LB_takeAllPasses_50 : decode b_LB_takeAllPasses 50 = .ok (.goto (-43), 3) := by decide +kernel
theorem d_LB_takeAllPasses_53 : decode b_LB_takeAllPasses 53 = .ok (.return_, 1) := by decide +kernel
theorem d_BK_takeEverything_0 : decode b_BK_takeEverything 0 = .ok (.aload_n 0, 1) := by decide +kernel
theorem d_BK_takeEverything_1 : decode b_BK_takeEverything 1 = .ok (.aload_n 0, 1) := by decide +kernel
theorem d_BK_takeEverything_2 : decode b_BK_takeEverything 2 = .ok (.getfield 22, 3) := by decide +kernel
theorem d_BK_takeEverything_5 : decode b_BK_takeEverything 5 = .ok (.putfield 67, 3) := by decide +kernel
theorem d_BK_takeEverything_8 : decode b_BK_takeEverything 8 = .ok (.aload_n 0, 1) := by decide +kernel
theorem d_BK_takeEverything_9 : decode b_BK_takeEverything 9 = .ok (.aload_n 0, 1) := by decide +kernel
theorem d_BK_takeEverything_10 : decode b_BK_takeEverything 10 = .ok (.getfield 30, 3) := by decide +kernel
theorem d_BK_takeEverything_13 : decode b_BK_takeEverything 13 = .ok (.putfield 49, 3) := by decide +kernel
theorem d_BK_takeEverything_16 : decode b_BK_takeEverything 16 = .ok (.return_, 1) := by decide +kernel
theorem d_BK_allBytes_0 : decode b_BK_allBytes 0 = .ok (.aload_n 0, 1) := by decide +kernel
theorem d_BK_allBytes_1 : decode b_BK_allBytes 1 = .ok (.getfield 9, 3) := by decide +kernel
theorem d_BK_allBytes_4 : decode b_BK_allBytes 4 = .ok (.aload_n 0, 1) := by decide +kernel
theorem d_BK_allBytes_5 : decode b_BK_allBytes 5 = .ok (.getfield 22, 3) := by decide +kernel
theorem d_BK_allBytes_8 : decode b_BK_allBytes 8 = .ok (.iaload, 1) := by decide +kernel
theorem d_BK_allBytes_9 : decode b_BK_allBytes 9 = .ok (.ireturn, 1) := by decide +kernel
theorem d_LB_takeSteepestSteps_0 : decode b_LB_takeSteepestSteps 0 = .ok (.iconst 0, 1) := by decide +kernel
theorem d_LB_takeSteepestSteps_1 : decode b_LB_takeSteepestSteps 1 = .ok (.istore_n 3, 1) := by decide +kernel
theorem d_LB_takeSteepestSteps_2 : decode b_LB_takeSteepestSteps 2 = .ok (.iload_n 3, 1) := by decide +kernel
theorem d_LB_takeSteepestSteps_3 : decode b_LB_takeSteepestSteps 3 = .ok (.aload_n 0, 1) := by decide +kernel
theorem d_LB_takeSteepestSteps_4 : decode b_LB_takeSteepestSteps 4 = .ok (.getfield 25, 3) := by decide +kernel
theorem d_LB_takeSteepestSteps_7 : decode b_LB_takeSteepestSteps 7 = .ok (.if_icmp .ge 109, 3) := by decide +kernel
theorem d_LB_takeSteepestSteps_10 : decode b_LB_takeSteepestSteps 10 = .ok (.aload_n 0, 1) := by decide +kernel
theorem d_LB_takeSteepestSteps_11 : decode b_LB_takeSteepestSteps 11 = .ok (.invokevirtual 159, 3) := by decide +kernel
theorem d_LB_takeSteepestSteps_14 : decode b_LB_takeSteepestSteps 14 = .ok (.istore 4, 2) := by decide +kernel
theorem d_LB_takeSteepestSteps_16 : decode b_LB_takeSteepestSteps 16 = .ok (.iload 4, 2) := by decide +kernel
theorem d_LB_takeSteepestSteps_18 : decode b_LB_takeSteepestSteps 18 = .ok (.iconst (-1), 1) := by decide +kernel
theorem d_LB_takeSteepestSteps_19 : decode b_LB_takeSteepestSteps 19 = .ok (.if_icmp .ne 4, 3) := by decide +kernel
theorem d_LB_takeSteepestSteps_22 : decode b_LB_takeSteepestSteps 22 = .ok (.return_, 1) := by decide +kernel
theorem d_LB_takeSteepestSteps_23 : decode b_LB_takeSteepestSteps 23 = .ok (.aload_n 0, 1) := by decide +kernel
theorem d_LB_takeSteepestSteps_24 : decode b_LB_takeSteepestSteps 24 = .ok (.getfield 10, 3) := by decide +kernel
theorem d_LB_takeSteepestSteps_27 : decode b_LB_takeSteepestSteps 27 = .ok (.iload 4, 2) := by decide +kernel
theorem d_LB_takeSteepestSteps_29 : decode b_LB_takeSteepestSteps 29 = .ok (.invokevirtual 64, 3) := by decide +kernel
theorem d_LB_takeSteepestSteps_32 : decode b_LB_takeSteepestSteps 32 = .ok (.checkcast 40, 3) := by decide +kernel
theorem d_LB_takeSteepestSteps_35 : decode b_LB_takeSteepestSteps 35 = .ok (.invokevirtual 162, 3) := by decide +kernel
theorem d_LB_takeSteepestSteps_38 : decode b_LB_takeSteepestSteps 38 = .ok (.lstore 5, 2) := by decide +kernel
theorem d_LB_takeSteepestSteps_40 : decode b_LB_takeSteepestSteps 40 = .ok (.aload_n 0, 1) := by decide +kernel
theorem d_LB_takeSteepestSteps_41 : decode b_LB_takeSteepestSteps 41 = .ok (.getfield 10, 3) := by decide +kernel
theorem d_LB_takeSteepestSteps_44 : decode b_LB_takeSteepestSteps 44 = .ok (.iload 4, 2) := by decide +kernel
theorem d_LB_takeSteepestSteps_46 : decode b_LB_takeSteepestSteps 46 = .ok (.invokevirtual 64, 3) := by decide +kernel
theorem d_LB_takeSteepestSteps_49 : decode b_LB_takeSteepestSteps 49 = .ok (.checkcast 40, 3) := by decide +kernel
theorem d_LB_takeSteepestSteps_52 : decode b_LB_takeSteepestSteps 52 = .ok (.invokevirtual 166, 3) := by decide +kernel
theorem d_LB_takeSteepestSteps_55 : decode b_LB_takeSteepestSteps 55 = .ok (.istore 7, 2) := by decide +kernel
theorem d_LB_takeSteepestSteps_57 : decode b_LB_takeSteepestSteps 57 = .ok (.aload_n 0, 1) := by decide +kernel
theorem d_LB_takeSteepestSteps_58 : decode b_LB_takeSteepestSteps 58 = .ok (.lload 5, 2) := by decide +kernel
theorem d_LB_takeSteepestSteps_60 : decode b_LB_takeSteepestSteps 60 = .ok (.iload 7, 2) := by decide +kernel
theorem d_LB_takeSteepestSteps_62 : decode b_LB_takeSteepestSteps 62 = .ok (.invokevirtual 169, 3) := by decide +kernel
theorem d_LB_takeSteepestSteps_65 : decode b_LB_takeSteepestSteps 65 = .ok (.istore 8, 2) := by decide +kernel
theorem d_LB_takeSteepestSteps_67 : decode b_LB_takeSteepestSteps 67 = .ok (.aload_n 0, 1) := by decide +kernel
theorem d_LB_takeSteepestSteps_68 : decode b_LB_takeSteepestSteps 68 = .ok (.getfield 147, 3) := by decide +kernel
theorem d_LB_takeSteepestSteps_71 : decode b_LB_takeSteepestSteps 71 = .ok (.iload 8, 2) := by decide +kernel
theorem d_LB_takeSteepestSteps_73 : decode b_LB_takeSteepestSteps 73 = .ok (.iadd, 1) := by decide +kernel
theorem d_LB_takeSteepestSteps_74 : decode b_LB_takeSteepestSteps 74 = .ok (.iload_n 1, 1) := by decide +kernel
theorem d_LB_takeSteepestSteps_75 : decode b_LB_takeSteepestSteps 75 = .ok (.if_icmp .le 4, 3) := by decide +kernel
theorem d_LB_takeSteepestSteps_78 : decode b_LB_takeSteepestSteps 78 = .ok (.return_, 1) := by decide +kernel
theorem d_LB_takeSteepestSteps_79 : decode b_LB_takeSteepestSteps 79 = .ok (.aload_n 0, 1) := by decide +kernel
theorem d_LB_takeSteepestSteps_80 : decode b_LB_takeSteepestSteps 80 = .ok (.lload 5, 2) := by decide +kernel
theorem d_LB_takeSteepestSteps_82 : decode b_LB_takeSteepestSteps 82 = .ok (.iload 7, 2) := by decide +kernel
theorem d_LB_takeSteepestSteps_84 : decode b_LB_takeSteepestSteps 84 = .ok (.invokevirtual 173, 3) := by decide +kernel
theorem d_LB_takeSteepestSteps_87 : decode b_LB_takeSteepestSteps 87 = .ok (.aload_n 0, 1) := by decide +kernel
theorem d_LB_takeSteepestSteps_88 : decode b_LB_takeSteepestSteps 88 = .ok (.dup, 1) := by decide +kernel
theorem d_LB_takeSteepestSteps_89 : decode b_LB_takeSteepestSteps 89 = .ok (.getfield 147, 3) := by decide +kernel
theorem d_LB_takeSteepestSteps_92 : decode b_LB_takeSteepestSteps 92 = .ok (.iload 8, 2) := by decide +kernel
theorem d_LB_takeSteepestSteps_94 : decode b_LB_takeSteepestSteps 94 = .ok (.iadd, 1) := by decide +kernel
theorem d_LB_takeSteepestSteps_95 : decode b_LB_takeSteepestSteps 95 = .ok (.putfield 147, 3) := by decide +kernel
theorem d_LB_takeSteepestSteps_98 : decode b_LB_takeSteepestSteps 98 = .ok (.aload_n 2, 1) := by decide +kernel
theorem d_LB_takeSteepestSteps_99 : decode b_LB_takeSteepestSteps 99 = .ok (.lload 5, 2) := by decide +kernel
theorem d_LB_takeSteepestSteps_101 : decode b_LB_takeSteepestSteps 101 = .ok (.putfield 136, 3) := by decide +kernel
theorem d_LB_takeSteepestSteps_104 : decode b_LB_takeSteepestSteps 104 = .ok (.aload_n 2, 1) := by decide +kernel
theorem d_LB_takeSteepestSteps_105 : decode b_LB_takeSteepestSteps 105 = .ok (.iload 7, 2) := by decide +kernel
theorem d_LB_takeSteepestSteps_107 : decode b_LB_takeSteepestSteps 107 = .ok (.putfield 140, 3) := by decide +kernel
theorem d_LB_takeSteepestSteps_110 : decode b_LB_takeSteepestSteps 110 = .ok (.iinc 3 1, 3) := by decide +kernel
theorem d_LB_takeSteepestSteps_113 : decode b_LB_takeSteepestSteps 113 = .ok (.goto (-111), 3) := by decide +kernel
theorem d_LB_takeSteepestSteps_116 : decode b_LB_takeSteepestSteps 116 = .ok (.return_, 1) := by decide +kernel
theorem d_LB_steepestBlock_0 : decode b_LB_steepestBlock 0 = .ok (.iconst (-1), 1) := by decide +kernel
theorem d_LB_steepestBlock_1 : decode b_LB_steepestBlock 1 = .ok (.istore_n 1, 1) := by decide +kernel
theorem d_LB_steepestBlock_2 : decode b_LB_steepestBlock 2 = .ok (.lconst 0, 1) := by decide +kernel
theorem d_LB_steepestBlock_3 : decode b_LB_steepestBlock 3 = .ok (.lstore_n 2, 1) := by decide +kernel
theorem d_LB_steepestBlock_4 : decode b_LB_steepestBlock 4 = .ok (.iconst 0, 1) := by decide +kernel
theorem d_LB_steepestBlock_5 : decode b_LB_steepestBlock 5 = .ok (.istore 4, 2) := by decide +kernel
theorem d_LB_steepestBlock_7 : decode b_LB_steepestBlock 7 = .ok (.iconst 0, 1) := by decide +kernel
theorem d_LB_steepestBlock_8 : decode b_LB_steepestBlock 8 = .ok (.istore 5, 2) := by decide +kernel
theorem d_LB_steepestBlock_10 : decode b_LB_steepestBlock 10 = .ok (.iload 5, 2) := by decide +kernel
theorem d_LB_steepestBlock_12 : decode b_LB_steepestBlock 12 = .ok (.aload_n 0, 1) := by decide +kernel
theorem d_LB_steepestBlock_13 : decode b_LB_steepestBlock 13 = .ok (.getfield 10, 3) := by decide +kernel
theorem d_LB_steepestBlock_16 : decode b_LB_steepestBlock 16 = .ok (.invokevirtual 29, 3) := by decide +kernel
theorem d_LB_steepestBlock_19 : decode b_LB_steepestBlock 19 = .ok (.if_icmp .ge 76, 3) := by decide +kernel
theorem d_LB_steepestBlock_22 : decode b_LB_steepestBlock 22 = .ok (.aload_n 0, 1) := by decide +kernel
theorem d_LB_steepestBlock_23 : decode b_LB_steepestBlock 23 = .ok (.getfield 10, 3) := by decide +kernel
theorem d_LB_steepestBlock_26 : decode b_LB_steepestBlock 26 = .ok (.iload 5, 2) := by decide +kernel
theorem d_LB_steepestBlock_28 : decode b_LB_steepestBlock 28 = .ok (.invokevirtual 64, 3) := by decide +kernel
theorem d_LB_steepestBlock_31 : decode b_LB_steepestBlock 31 = .ok (.checkcast 40, 3) := by decide +kernel
theorem d_LB_steepestBlock_34 : decode b_LB_steepestBlock 34 = .ok (.astore 6, 2) := by decide +kernel
theorem d_LB_steepestBlock_36 : decode b_LB_steepestBlock 36 = .ok (.aload 6, 2) := by decide +kernel
theorem d_LB_steepestBlock_38 : decode b_LB_steepestBlock 38 = .ok (.invokevirtual 177, 3) := by decide +kernel
theorem d_LB_steepestBlock_41 : decode b_LB_steepestBlock 41 = .ok (.ifCond .ne 6, 3) := by decide +kernel
theorem d_LB_steepestBlock_44 : decode b_LB_steepestBlock 44 = .ok (.goto 45, 3) := by decide +kernel
theorem d_LB_steepestBlock_47 : decode b_LB_steepestBlock 47 = .ok (.aload 6, 2) := by decide +kernel
theorem d_LB_steepestBlock_49 : decode b_LB_steepestBlock 49 = .ok (.invokevirtual 162, 3) := by decide +kernel
theorem d_LB_steepestBlock_52 : decode b_LB_steepestBlock 52 = .ok (.lstore 7, 2) := by decide +kernel
theorem d_LB_steepestBlock_54 : decode b_LB_steepestBlock 54 = .ok (.aload 6, 2) := by decide +kernel
theorem d_LB_steepestBlock_56 : decode b_LB_steepestBlock 56 = .ok (.invokevirtual 166, 3) := by decide +kernel
theorem d_LB_steepestBlock_59 : decode b_LB_steepestBlock 59 = .ok (.istore 9, 2) := by decide +kernel
theorem d_LB_steepestBlock_61 : decode b_LB_steepestBlock 61 = .ok (.iload_n 1, 1) := by decide +kernel
theorem d_LB_steepestBlock_62 : decode b_LB_steepestBlock 62 = .ok (.iconst (-1), 1) := by decide +kernel
theorem d_LB_steepestBlock_63 : decode b_LB_steepestBlock 63 = .ok (.if_icmp .eq 16, 3) := by decide +kernel
theorem d_LB_steepestBlock_66 : decode b_LB_steepestBlock 66 = .ok (.lload 7, 2) := by decide +kernel
theorem d_LB_steepestBlock_68 : decode b_LB_steepestBlock 68 = .ok (.iload 9, 2) := by decide +kernel
theorem d_LB_steepestBlock_70 : decode b_LB_steepestBlock 70 = .ok (.lload_n 2, 1) := by decide +kernel
theorem d_LB_steepestBlock_71 : decode b_LB_steepestBlock 71 = .ok (.iload 4, 2) := by decide +kernel
theorem d_LB_steepestBlock_73 : decode b_LB_steepestBlock 73 = .ok (.invokestatic 180, 3) := by decide +kernel
theorem d_LB_steepestBlock_76 : decode b_LB_steepestBlock 76 = .ok (.ifCond .le 13, 3) := by decide +kernel
theorem d_LB_steepestBlock_79 : decode b_LB_steepestBlock 79 = .ok (.iload 5, 2) := by decide +kernel
theorem d_LB_steepestBlock_81 : decode b_LB_steepestBlock 81 = .ok (.istore_n 1, 1) := by decide +kernel
theorem d_LB_steepestBlock_82 : decode b_LB_steepestBlock 82 = .ok (.lload 7, 2) := by decide +kernel
theorem d_LB_steepestBlock_84 : decode b_LB_steepestBlock 84 = .ok (.lstore_n 2, 1) := by decide +kernel
theorem d_LB_steepestBlock_85 : decode b_LB_steepestBlock 85 = .ok (.iload 9, 2) := by decide +kernel
theorem d_LB_steepestBlock_87 : decode b_LB_steepestBlock 87 = .ok (.istore 4, 2) := by decide +kernel
theorem d_LB_steepestBlock_89 : decode b_LB_steepestBlock 89 = .ok (.iinc 5 1, 3) := by decide +kernel
theorem d_LB_steepestBlock_92 : decode b_LB_steepestBlock 92 = .ok (.goto (-82), 3) := by decide +kernel
theorem d_LB_steepestBlock_95 : decode b_LB_steepestBlock 95 = .ok (.iload_n 1, 1) := by decide +kernel
theorem d_LB_steepestBlock_96 : decode b_LB_steepestBlock 96 = .ok (.ireturn, 1) := by decide +kernel
theorem d_BK_hasNext_0 : decode b_BK_hasNext 0 = .ok (.aload_n 0, 1) := by decide +kernel
theorem d_BK_hasNext_1 : decode b_BK_hasNext 1 = .ok (.getfield 49, 3) := by decide +kernel
theorem d_BK_hasNext_4 : decode b_BK_hasNext 4 = .ok (.aload_n 0, 1) := by decide +kernel
theorem d_BK_hasNext_5 : decode b_BK_hasNext 5 = .ok (.getfield 30, 3) := by decide +kernel
theorem d_BK_hasNext_8 : decode b_BK_hasNext 8 = .ok (.if_icmp .ge 7, 3) := by decide +kernel
theorem d_BK_hasNext_11 : decode b_BK_hasNext 11 = .ok (.iconst 1, 1) := by decide +kernel
theorem d_BK_hasNext_12 : decode b_BK_hasNext 12 = .ok (.goto 4, 3) := by decide +kernel
theorem d_BK_hasNext_15 : decode b_BK_hasNext 15 = .ok (.iconst 0, 1) := by decide +kernel
theorem d_BK_hasNext_16 : decode b_BK_hasNext 16 = .ok (.ireturn, 1) := by decide +kernel
theorem d_BK_nextGain_0 : decode b_BK_nextGain 0 = .ok (.aload_n 0, 1) := by decide +kernel
theorem d_BK_nextGain_1 : decode b_BK_nextGain 1 = .ok (.aload_n 0, 1) := by decide +kernel
theorem d_BK_nextGain_2 : decode b_BK_nextGain 2 = .ok (.getfield 49, 3) := by decide +kernel
theorem d_BK_nextGain_5 : decode b_BK_nextGain 5 = .ok (.invokevirtual 37, 3) := by decide +kernel
theorem d_BK_nextGain_8 : decode b_BK_nextGain 8 = .ok (.lreturn, 1) := by decide +kernel
theorem d_BK_nextBytes_0 : decode b_BK_nextBytes 0 = .ok (.aload_n 0, 1) := by decide +kernel
theorem d_BK_nextBytes_1 : decode b_BK_nextBytes 1 = .ok (.aload_n 0, 1) := by decide +kernel
theorem d_BK_nextBytes_2 : decode b_BK_nextBytes 2 = .ok (.getfield 49, 3) := by decide +kernel
theorem d_BK_nextBytes_5 : decode b_BK_nextBytes 5 = .ok (.invokevirtual 41, 3) := by decide +kernel
theorem d_BK_nextBytes_8 : decode b_BK_nextBytes 8 = .ok (.ireturn, 1) := by decide +kernel
theorem d_LB_bytesOfSlope_0 : decode b_LB_bytesOfSlope 0 = .ok (.iconst 0, 1) := by decide +kernel
theorem d_LB_bytesOfSlope_1 : decode b_LB_bytesOfSlope 1 = .ok (.istore 4, 2) := by decide +kernel
theorem d_LB_bytesOfSlope_3 : decode b_LB_bytesOfSlope 3 = .ok (.iconst 0, 1) := by decide +kernel
theorem d_LB_bytesOfSlope_4 : decode b_LB_bytesOfSlope 4 = .ok (.istore 5, 2) := by decide +kernel
theorem d_LB_bytesOfSlope_6 : decode b_LB_bytesOfSlope 6 = .ok (.iload 5, 2) := by decide +kernel
theorem d_LB_bytesOfSlope_8 : decode b_LB_bytesOfSlope 8 = .ok (.aload_n 0, 1) := by decide +kernel
theorem d_LB_bytesOfSlope_9 : decode b_LB_bytesOfSlope 9 = .ok (.getfield 10, 3) := by decide +kernel
theorem d_LB_bytesOfSlope_12 : decode b_LB_bytesOfSlope 12 = .ok (.invokevirtual 29, 3) := by decide +kernel
theorem d_LB_bytesOfSlope_15 : decode b_LB_bytesOfSlope 15 = .ok (.if_icmp .ge 43, 3) := by decide +kernel
theorem d_LB_bytesOfSlope_18 : decode b_LB_bytesOfSlope 18 = .ok (.aload_n 0, 1) := by decide +kernel
theorem d_LB_bytesOfSlope_19 : decode b_LB_bytesOfSlope 19 = .ok (.getfield 10, 3) := by decide +kernel
theorem d_LB_bytesOfSlope_22 : decode b_LB_bytesOfSlope 22 = .ok (.iload 5, 2) := by decide +kernel
theorem d_LB_bytesOfSlope_24 : decode b_LB_bytesOfSlope 24 = .ok (.invokevirtual 64, 3) := by decide +kernel
theorem d_LB_bytesOfSlope_27 : decode b_LB_bytesOfSlope 27 = .ok (.checkcast 40, 3) := by decide +kernel
theorem d_LB_bytesOfSlope_30 : decode b_LB_bytesOfSlope 30 = .ok (.astore 6, 2) := by decide +kernel
theorem d_LB_bytesOfSlope_32 : decode b_LB_bytesOfSlope 32 = .ok (.aload 6, 2) := by decide +kernel
theorem d_LB_bytesOfSlope_34 : decode b_LB_bytesOfSlope 34 = .ok (.lload_n 1, 1) := by decide +kernel
theorem d_LB_bytesOfSlope_35 : decode b_LB_bytesOfSlope 35 = .ok (.iload_n 3, 1) := by decide +kernel
theorem d_LB_bytesOfSlope_36 : decode b_LB_bytesOfSlope 36 = .ok (.invokevirtual 184, 3) := by decide +kernel
theorem d_LB_bytesOfSlope_39 : decode b_LB_bytesOfSlope 39 = .ok (.ifCond .eq 13, 3) := by decide +kernel
theorem d_LB_bytesOfSlope_42 : decode b_LB_bytesOfSlope 42 = .ok (.iload 4, 2) := by decide +kernel
theorem d_LB_bytesOfSlope_44 : decode b_LB_bytesOfSlope 44 = .ok (.aload 6, 2) := by decide +kernel
theorem d_LB_bytesOfSlope_46 : decode b_LB_bytesOfSlope 46 = .ok (.invokevirtual 166, 3) := by decide +kernel
theorem d_LB_bytesOfSlope_49 : decode b_LB_bytesOfSlope 49 = .ok (.iadd, 1) := by decide +kernel
theorem d_LB_bytesOfSlope_50 : decode b_LB_bytesOfSlope 50 = .ok (.istore 4, 2) := by decide +kernel
theorem d_LB_bytesOfSlope_52 : decode b_LB_bytesOfSlope 52 = .ok (.iinc 5 1, 3) := by decide +kernel
theorem d_LB_bytesOfSlope_55 : decode b_LB_bytesOfSlope 55 = .ok (.goto (-49), 3) := by decide +kernel
theorem d_LB_bytesOfSlope_58 : decode b_LB_bytesOfSlope 58 = .ok (.iload 4, 2) := by decide +kernel
theorem d_LB_bytesOfSlope_60 : decode b_LB_bytesOfSlope 60 = .ok (.ireturn, 1) := by decide +kernel
theorem d_BK_nextHasSlope_0 : decode b_BK_nextHasSlope 0 = .ok (.aload_n 0, 1) := by decide +kernel
theorem d_BK_nextHasSlope_1 : decode b_BK_nextHasSlope 1 = .ok (.invokevirtual 52, 3) := by decide +kernel
theorem d_BK_nextHasSlope_4 : decode b_BK_nextHasSlope 4 = .ok (.ifCond .eq 23, 3) := by decide +kernel
theorem d_BK_nextHasSlope_7 : decode b_BK_nextHasSlope 7 = .ok (.aload_n 0, 1) := by decide +kernel
theorem d_BK_nextHasSlope_8 : decode b_BK_nextHasSlope 8 = .ok (.invokevirtual 56, 3) := by decide +kernel
theorem d_BK_nextHasSlope_11 : decode b_BK_nextHasSlope 11 = .ok (.aload_n 0, 1) := by decide +kernel
theorem d_BK_nextHasSlope_12 : decode b_BK_nextHasSlope 12 = .ok (.invokevirtual 60, 3) := by decide +kernel
theorem d_BK_nextHasSlope_15 : decode b_BK_nextHasSlope 15 = .ok (.lload_n 1, 1) := by decide +kernel
theorem d_BK_nextHasSlope_16 : decode b_BK_nextHasSlope 16 = .ok (.iload_n 3, 1) := by decide +kernel
theorem d_BK_nextHasSlope_17 : decode b_BK_nextHasSlope 17 = .ok (.invokestatic 45, 3) := by decide +kernel
theorem d_BK_nextHasSlope_20 : decode b_BK_nextHasSlope 20 = .ok (.ifCond .ne 7, 3) := by decide +kernel
theorem d_BK_nextHasSlope_23 : decode b_BK_nextHasSlope 23 = .ok (.iconst 1, 1) := by decide +kernel
theorem d_BK_nextHasSlope_24 : decode b_BK_nextHasSlope 24 = .ok (.goto 4, 3) := by decide +kernel
theorem d_BK_nextHasSlope_27 : decode b_BK_nextHasSlope 27 = .ok (.iconst 0, 1) := by decide +kernel
theorem d_BK_nextHasSlope_28 : decode b_BK_nextHasSlope 28 = .ok (.ireturn, 1) := by decide +kernel
theorem d_LB_takeSlope_0 : decode b_LB_takeSlope 0 = .ok (.iconst 0, 1) := by decide +kernel
theorem d_LB_takeSlope_1 : decode b_LB_takeSlope 1 = .ok (.istore 4, 2) := by decide +kernel
theorem d_LB_takeSlope_3 : decode b_LB_takeSlope 3 = .ok (.iload 4, 2) := by decide +kernel
theorem d_LB_takeSlope_5 : decode b_LB_takeSlope 5 = .ok (.aload_n 0, 1) := by decide +kernel
theorem d_LB_takeSlope_6 : decode b_LB_takeSlope 6 = .ok (.getfield 10, 3) := by decide +kernel
theorem d_LB_takeSlope_9 : decode b_LB_takeSlope 9 = .ok (.invokevirtual 29, 3) := by decide +kernel
theorem d_LB_takeSlope_12 : decode b_LB_takeSlope 12 = .ok (.if_icmp .ge 38, 3) := by decide +kernel
theorem d_LB_takeSlope_15 : decode b_LB_takeSlope 15 = .ok (.aload_n 0, 1) := by decide +kernel
theorem d_LB_takeSlope_16 : decode b_LB_takeSlope 16 = .ok (.getfield 10, 3) := by decide +kernel
theorem d_LB_takeSlope_19 : decode b_LB_takeSlope 19 = .ok (.iload 4, 2) := by decide +kernel
theorem d_LB_takeSlope_21 : decode b_LB_takeSlope 21 = .ok (.invokevirtual 64, 3) := by decide +kernel
theorem d_LB_takeSlope_24 : decode b_LB_takeSlope 24 = .ok (.checkcast 40, 3) := by decide +kernel
theorem d_LB_takeSlope_27 : decode b_LB_takeSlope 27 = .ok (.astore 5, 2) := by decide +kernel
theorem d_LB_takeSlope_29 : decode b_LB_takeSlope 29 = .ok (.aload 5, 2) := by decide +kernel
theorem d_LB_takeSlope_31 : decode b_LB_takeSlope 31 = .ok (.lload_n 1, 1) := by decide +kernel
theorem d_LB_takeSlope_32 : decode b_LB_takeSlope 32 = .ok (.iload_n 3, 1) := by decide +kernel
theorem d_LB_takeSlope_33 : decode b_LB_takeSlope 33 = .ok (.invokevirtual 184, 3) := by decide +kernel
theorem d_LB_takeSlope_36 : decode b_LB_takeSlope 36 = .ok (.ifCond .eq 8, 3) := by decide +kernel
theorem d_LB_takeSlope_39 : decode b_LB_takeSlope 39 = .ok (.aload 5, 2) := by decide +kernel
theorem d_LB_takeSlope_41 : decode b_LB_takeSlope 41 = .ok (.invokevirtual 188, 3) := by decide +kernel
theorem d_LB_takeSlope_44 : decode b_LB_takeSlope 44 = .ok (.iinc 4 1, 3) := by decide +kernel
theorem d_LB_takeSlope_47 : decode b_LB_takeSlope 47 = .ok (.goto (-44), 3) := by decide +kernel
theorem d_LB_takeSlope_50 : decode b_LB_takeSlope 50 = .ok (.return_, 1) := by decide +kernel
theorem d_BK_takeNext_0 : decode b_BK_takeNext 0 = .ok (.aload_n 0, 1) := by decide +kernel
theorem d_BK_takeNext_1 : decode b_BK_takeNext 1 = .ok (.aload_n 0, 1) := by decide +kernel
theorem d_BK_takeNext_2 : decode b_BK_takeNext 2 = .ok (.aload_n 0, 1) := by decide +kernel
theorem d_BK_takeNext_3 : decode b_BK_takeNext 3 = .ok (.getfield 49, 3) := by decide +kernel
theorem d_BK_takeNext_6 : decode b_BK_takeNext 6 = .ok (.invokevirtual 64, 3) := by decide +kernel
theorem d_BK_takeNext_9 : decode b_BK_takeNext 9 = .ok (.putfield 67, 3) := by decide +kernel
theorem d_BK_takeNext_12 : decode b_BK_takeNext 12 = .ok (.aload_n 0, 1) := by decide +kernel
theorem d_BK_takeNext_13 : decode b_BK_takeNext 13 = .ok (.dup, 1) := by decide +kernel
theorem d_BK_takeNext_14 : decode b_BK_takeNext 14 = .ok (.getfield 49, 3) := by decide +kernel
theorem d_BK_takeNext_17 : decode b_BK_takeNext 17 = .ok (.iconst 1, 1) := by decide +kernel
theorem d_BK_takeNext_18 : decode b_BK_takeNext 18 = .ok (.iadd, 1) := by decide +kernel
theorem d_BK_takeNext_19 : decode b_BK_takeNext 19 = .ok (.putfield 49, 3) := by decide +kernel
theorem d_BK_takeNext_22 : decode b_BK_takeNext 22 = .ok (.return_, 1) := by decide +kernel
theorem d_LB_recordCuts_0 : decode b_LB_recordCuts 0 = .ok (.iconst 0, 1) := by decide +kernel
theorem d_LB_recordCuts_1 : decode b_LB_recordCuts 1 = .ok (.istore_n 2, 1) := by decide +kernel
theorem d_LB_recordCuts_2 : decode b_LB_recordCuts 2 = .ok (.iload_n 2, 1) := by decide +kernel
theorem d_LB_recordCuts_3 : decode b_LB_recordCuts 3 = .ok (.aload_n 0, 1) := by decide +kernel
theorem d_LB_recordCuts_4 : decode b_LB_recordCuts 4 = .ok (.getfield 10, 3) := by decide +kernel
theorem d_LB_recordCuts_7 : decode b_LB_recordCuts 7 = .ok (.invokevirtual 29, 3) := by decide +kernel
theorem d_LB_recordCuts_10 : decode b_LB_recordCuts 10 = .ok (.if_icmp .ge 38, 3) := by decide +kernel
theorem d_LB_recordCuts_13 : decode b_LB_recordCuts 13 = .ok (.iload_n 2, 1) := by decide +kernel
theorem d_LB_recordCuts_14 : decode b_LB_recordCuts 14 = .ok (.aload_n 1, 1) := by decide +kernel
theorem d_LB_recordCuts_15 : decode b_LB_recordCuts 15 = .ok (.getfield 132, 3) := by decide +kernel
theorem d_LB_recordCuts_18 : decode b_LB_recordCuts 18 = .ok (.arraylength, 1) := by decide +kernel
theorem d_LB_recordCuts_19 : decode b_LB_recordCuts 19 = .ok (.if_icmp .ge 29, 3) := by decide +kernel
theorem d_LB_recordCuts_22 : decode b_LB_recordCuts 22 = .ok (.aload_n 1, 1) := by decide +kernel
theorem d_LB_recordCuts_23 : decode b_LB_recordCuts 23 = .ok (.getfield 132, 3) := by decide +kernel
theorem d_LB_recordCuts_26 : decode b_LB_recordCuts 26 = .ok (.iload_n 2, 1) := by decide +kernel
theorem d_LB_recordCuts_27 : decode b_LB_recordCuts 27 = .ok (.aload_n 0, 1) := by decide +kernel
theorem d_LB_recordCuts_28 : decode b_LB_recordCuts 28 = .ok (.getfield 10, 3) := by decide +kernel
theorem d_LB_recordCuts_31 : decode b_LB_recordCuts 31 = .ok (.iload_n 2, 1) := by decide +kernel
theorem d_LB_recordCuts_32 : decode b_LB_recordCuts 32 = .ok (.invokevirtual 64, 3) := by decide +kernel
theorem d_LB_recordCuts_35 : decode b_LB_recordCuts 35 = .ok (.checkcast 40, 3) := by decide +kernel
theorem d_LB_recordCuts_38 : decode b_LB_recordCuts 38 = .ok (.getfield 191, 3) := by decide +kernel
theorem d_LB_recordCuts_41 : decode b_LB_recordCuts 41 = .ok (.iastore, 1) := by decide +kernel
theorem d_LB_recordCuts_42 : decode b_LB_recordCuts 42 = .ok (.iinc 2 1, 3) := by decide +kernel
theorem d_LB_recordCuts_45 : decode b_LB_recordCuts 45 = .ok (.goto (-43), 3) := by decide +kernel
theorem d_LB_recordCuts_48 : decode b_LB_recordCuts 48 = .ok (.aload_n 1, 1) := by decide +kernel
theorem d_LB_recordCuts_49 : decode b_LB_recordCuts 49 = .ok (.aload_n 0, 1) := by decide +kernel
theorem d_LB_recordCuts_50 : decode b_LB_recordCuts 50 = .ok (.getfield 147, 3) := by decide +kernel
theorem d_LB_recordCuts_53 : decode b_LB_recordCuts 53 = .ok (.putfield 124, 3) := by decide +kernel
theorem d_LB_recordCuts_56 : decode b_LB_recordCuts 56 = .ok (.return_, 1) := by decide +kernel
theorem d_LB_cut_0 : decode b_LB_cut 0 = .ok (.aload_n 0, 1) := by decide +kernel
theorem d_LB_cut_1 : decode b_LB_cut 1 = .ok (.iload_n 2, 1) := by decide +kernel
theorem d_LB_cut_2 : decode b_LB_cut 2 = .ok (.invokevirtual 47, 3) := by decide +kernel
theorem d_LB_cut_5 : decode b_LB_cut 5 = .ok (.ifCond .ne 13, 3) := by decide +kernel
theorem d_LB_cut_8 : decode b_LB_cut 8 = .ok (.new 51, 3) := by decide +kernel
theorem d_LB_cut_11 : decode b_LB_cut 11 = .ok (.dup, 1) := by decide +kernel
theorem d_LB_cut_12 : decode b_LB_cut 12 = .ok (.ldc 53, 2) := by decide +kernel
theorem d_LB_cut_14 : decode b_LB_cut 14 = .ok (.invokespecial 55, 3) := by decide +kernel
theorem d_LB_cut_17 : decode b_LB_cut 17 = .ok (.athrow, 1) := by decide +kernel
theorem d_LB_cut_18 : decode b_LB_cut 18 = .ok (.aload_n 0, 1) := by decide +kernel
theorem d_LB_cut_19 : decode b_LB_cut 19 = .ok (.iload_n 1, 1) := by decide +kernel
theorem d_LB_cut_20 : decode b_LB_cut 20 = .ok (.invokevirtual 127, 3) := by decide +kernel
theorem d_LB_cut_23 : decode b_LB_cut 23 = .ok (.ifCond .ne 13, 3) := by decide +kernel
theorem d_LB_cut_26 : decode b_LB_cut 26 = .ok (.new 88, 3) := by decide +kernel
theorem d_LB_cut_29 : decode b_LB_cut 29 = .ok (.dup, 1) := by decide +kernel
theorem d_LB_cut_30 : decode b_LB_cut 30 = .ok (.ldc 130, 2) := by decide +kernel
theorem d_LB_cut_32 : decode b_LB_cut 32 = .ok (.invokespecial 92, 3) := by decide +kernel
theorem d_LB_cut_35 : decode b_LB_cut 35 = .ok (.athrow, 1) := by decide +kernel
theorem d_LB_cut_36 : decode b_LB_cut 36 = .ok (.aload_n 0, 1) := by decide +kernel
theorem d_LB_cut_37 : decode b_LB_cut 37 = .ok (.getfield 16, 3) := by decide +kernel
theorem d_LB_cut_40 : decode b_LB_cut 40 = .ok (.iload_n 1, 1) := by decide +kernel
theorem d_LB_cut_41 : decode b_LB_cut 41 = .ok (.invokevirtual 64, 3) := by decide +kernel
theorem d_LB_cut_44 : decode b_LB_cut 44 = .ok (.checkcast 108, 3) := by decide +kernel
theorem d_LB_cut_47 : decode b_LB_cut 47 = .ok (.getfield 132, 3) := by decide +kernel
theorem d_LB_cut_50 : decode b_LB_cut 50 = .ok (.iload_n 2, 1) := by decide +kernel
theorem d_LB_cut_51 : decode b_LB_cut 51 = .ok (.iaload, 1) := by decide +kernel
theorem d_LB_cut_52 : decode b_LB_cut 52 = .ok (.ireturn, 1) := by decide +kernel
theorem d_LB_hasLayer_0 : decode b_LB_hasLayer 0 = .ok (.iload_n 1, 1) := by decide +kernel
theorem d_LB_hasLayer_1 : decode b_LB_hasLayer 1 = .ok (.ifCond .lt 18, 3) := by decide +kernel
theorem d_LB_hasLayer_4 : decode b_LB_hasLayer 4 = .ok (.iload_n 1, 1) := by decide +kernel
theorem d_LB_hasLayer_5 : decode b_LB_hasLayer 5 = .ok (.aload_n 0, 1) := by decide +kernel
theorem d_LB_hasLayer_6 : decode b_LB_hasLayer 6 = .ok (.getfield 16, 3) := by decide +kernel
theorem d_LB_hasLayer_9 : decode b_LB_hasLayer 9 = .ok (.invokevirtual 29, 3) := by decide +kernel
theorem d_LB_hasLayer_12 : decode b_LB_hasLayer 12 = .ok (.if_icmp .ge 7, 3) := by decide +kernel
theorem d_LB_hasLayer_15 : decode b_LB_hasLayer 15 = .ok (.iconst 1, 1) := by decide +kernel
theorem d_LB_hasLayer_16 : decode b_LB_hasLayer 16 = .ok (.goto 4, 3) := by decide +kernel
theorem d_LB_hasLayer_19 : decode b_LB_hasLayer 19 = .ok (.iconst 0, 1) := by decide +kernel
theorem d_LB_hasLayer_20 : decode b_LB_hasLayer 20 = .ok (.ireturn, 1) := by decide +kernel
theorem d_LB_total_0 : decode b_LB_total 0 = .ok (.aload_n 0, 1) := by decide +kernel
theorem d_LB_total_1 : decode b_LB_total 1 = .ok (.iload_n 1, 1) := by decide +kernel
theorem d_LB_total_2 : decode b_LB_total 2 = .ok (.invokevirtual 127, 3) := by decide +kernel
theorem d_LB_total_5 : decode b_LB_total 5 = .ok (.ifCond .ne 13, 3) := by decide +kernel
theorem d_LB_total_8 : decode b_LB_total 8 = .ok (.new 88, 3) := by decide +kernel
theorem d_LB_total_11 : decode b_LB_total 11 = .ok (.dup, 1) := by decide +kernel
theorem d_LB_total_12 : decode b_LB_total 12 = .ok (.ldc 130, 2) := by decide +kernel
theorem d_LB_total_14 : decode b_LB_total 14 = .ok (.invokespecial 92, 3) := by decide +kernel
theorem d_LB_total_17 : decode b_LB_total 17 = .ok (.athrow, 1) := by decide +kernel
theorem d_LB_total_18 : decode b_LB_total 18 = .ok (.aload_n 0, 1) := by decide +kernel
theorem d_LB_total_19 : decode b_LB_total 19 = .ok (.getfield 16, 3) := by decide +kernel
theorem d_LB_total_22 : decode b_LB_total 22 = .ok (.iload_n 1, 1) := by decide +kernel
theorem d_LB_total_23 : decode b_LB_total 23 = .ok (.invokevirtual 64, 3) := by decide +kernel
theorem d_LB_total_26 : decode b_LB_total 26 = .ok (.checkcast 108, 3) := by decide +kernel
theorem d_LB_total_29 : decode b_LB_total 29 = .ok (.getfield 124, 3) := by decide +kernel
theorem d_LB_total_32 : decode b_LB_total 32 = .ok (.ireturn, 1) := by decide +kernel
theorem d_LB_threshold_0 : decode b_LB_threshold 0 = .ok (.iload_n 2, 1) := by decide +kernel
theorem d_LB_threshold_1 : decode b_LB_threshold 1 = .ok (.ifCond .eq 18, 3) := by decide +kernel
theorem d_LB_threshold_4 : decode b_LB_threshold 4 = .ok (.iload_n 2, 1) := by decide +kernel
theorem d_LB_threshold_5 : decode b_LB_threshold 5 = .ok (.iconst 1, 1) := by decide +kernel
theorem d_LB_threshold_6 : decode b_LB_threshold 6 = .ok (.if_icmp .eq 13, 3) := by decide +kernel
theorem d_LB_threshold_9 : decode b_LB_threshold 9 = .ok (.new 51, 3) := by decide +kernel
theorem d_LB_threshold_12 : decode b_LB_threshold 12 = .ok (.dup, 1) := by decide +kernel
theorem d_LB_threshold_13 : decode b_LB_threshold 13 = .ok (.ldc 83, 2) := by decide +kernel
theorem d_LB_threshold_15 : decode b_LB_threshold 15 = .ok (.invokespecial 55, 3) := by decide +kernel
theorem d_LB_threshold_18 : decode b_LB_threshold 18 = .ok (.athrow, 1) := by decide +kernel
theorem d_LB_threshold_19 : decode b_LB_threshold 19 = .ok (.aload_n 0, 1) := by decide +kernel
theorem d_LB_threshold_20 : decode b_LB_threshold 20 = .ok (.iload_n 1, 1) := by decide +kernel
theorem d_LB_threshold_21 : decode b_LB_threshold 21 = .ok (.invokevirtual 127, 3) := by decide +kernel
theorem d_LB_threshold_24 : decode b_LB_threshold 24 = .ok (.ifCond .ne 13, 3) := by decide +kernel
theorem d_LB_threshold_27 : decode b_LB_threshold 27 = .ok (.new 88, 3) := by decide +kernel
theorem d_LB_threshold_30 : decode b_LB_threshold 30 = .ok (.dup, 1) := by decide +kernel
theorem d_LB_threshold_31 : decode b_LB_threshold 31 = .ok (.ldc 130, 2) := by decide +kernel
theorem d_LB_threshold_33 : decode b_LB_threshold 33 = .ok (.invokespecial 92, 3) := by decide +kernel
theorem d_LB_threshold_36 : decode b_LB_threshold 36 = .ok (.athrow, 1) := by decide +kernel
theorem d_LB_threshold_37 : decode b_LB_threshold 37 = .ok (.aload_n 0, 1) := by decide +kernel
theorem d_LB_threshold_38 : decode b_LB_threshold 38 = .ok (.getfield 16, 3) := by decide +kernel
theorem d_LB_threshold_41 : decode b_LB_threshold 41 = .ok (.iload_n 1, 1) := by decide +kernel
theorem d_LB_threshold_42 : decode b_LB_threshold 42 = .ok (.invokevirtual 64, 3) := by decide +kernel
theorem d_LB_threshold_45 : decode b_LB_threshold 45 = .ok (.checkcast 108, 3) := by decide +kernel
theorem d_LB_threshold_48 : decode b_LB_threshold 48 = .ok (.astore_n 3, 1) := by decide +kernel
theorem d_LB_threshold_49 : decode b_LB_threshold 49 = .ok (.iload_n 2, 1) := by decide +kernel
theorem d_LB_threshold_50 : decode b_LB_threshold 50 = .ok (.ifCond .ne 10, 3) := by decide +kernel
theorem d_LB_threshold_53 : decode b_LB_threshold 53 = .ok (.aload_n 3, 1) := by decide +kernel
theorem d_LB_threshold_54 : decode b_LB_threshold 54 = .ok (.getfield 136, 3) := by decide +kernel
theorem d_LB_threshold_57 : decode b_LB_threshold 57 = .ok (.goto 8, 3) := by decide +kernel
theorem d_LB_threshold_60 : decode b_LB_threshold 60 = .ok (.aload_n 3, 1) := by decide +kernel
theorem d_LB_threshold_61 : decode b_LB_threshold 61 = .ok (.getfield 140, 3) := by decide +kernel
theorem d_LB_threshold_64 : decode b_LB_threshold 64 = .ok (.i2l, 1) := by decide +kernel
theorem d_LB_threshold_65 : decode b_LB_threshold 65 = .ok (.lreturn, 1) := by decide +kernel
end
section
theorem d_AL_init_0 : decode b_AL_init 0 = .ok (.aload_n 0, 1) := by decide +kernel
theorem d_AL_init_1 : decode b_AL_init 1 = .ok (.invokespecial 1, 3) := by decide +kernel
theorem d_AL_init_4 : decode b_AL_init 4 = .ok (.aload_n 0, 1) := by decide +kernel
theorem d_AL_init_5 : decode b_AL_init 5 = .ok (.getstatic 39, 3) := by decide +kernel
theorem d_AL_init_8 : decode b_AL_init 8 = .ok (.putfield 9, 3) := by decide +kernel
theorem d_AL_init_11 : decode b_AL_init 11 = .ok (.return_, 1) := by decide +kernel
theorem d_AB_init_0 : decode b_AB_init 0 = .ok (.aload_n 0, 1) := by decide +kernel
theorem d_AB_init_1 : decode b_AB_init 1 = .ok (.invokespecial 1, 3) := by decide +kernel
theorem d_AB_init_4 : decode b_AB_init 4 = .ok (.aload_n 0, 1) := by decide +kernel
theorem d_AB_init_5 : decode b_AB_init 5 = .ok (.iconst 0, 1) := by decide +kernel
theorem d_AB_init_6 : decode b_AB_init 6 = .ok (.putfield 7, 3) := by decide +kernel
theorem d_AB_init_9 : decode b_AB_init 9 = .ok (.return_, 1) := by decide +kernel
theorem d_AC_init_0 : decode b_AC_init 0 = .ok (.aload_n 0, 1) := by decide +kernel
theorem d_AC_init_1 : decode b_AC_init 1 = .ok (.invokespecial 1, 3) := by decide +kernel
theorem d_AC_init_4 : decode b_AC_init 4 = .ok (.return_, 1) := by decide +kernel
theorem d_AL_isEmpty_0 : decode b_AL_isEmpty 0 = .ok (.aload_n 0, 1) := by decide +kernel
theorem d_AL_isEmpty_1 : decode b_AL_isEmpty 1 = .ok (.getfield 48, 3) := by decide +kernel
theorem d_AL_isEmpty_4 : decode b_AL_isEmpty 4 = .ok (.ifCond .ne 7, 3) := by decide +kernel
theorem d_AL_isEmpty_7 : decode b_AL_isEmpty 7 = .ok (.iconst 1, 1) := by decide +kernel
theorem d_AL_isEmpty_8 : decode b_AL_isEmpty 8 = .ok (.goto 4, 3) := by decide +kernel
theorem d_AL_isEmpty_11 : decode b_AL_isEmpty 11 = .ok (.iconst 0, 1) := by decide +kernel
theorem d_AL_isEmpty_12 : decode b_AL_isEmpty 12 = .ok (.ireturn, 1) := by decide +kernel
theorem d_AL_clear_0 : decode b_AL_clear 0 = .ok (.aload_n 0, 1) := by decide +kernel
theorem d_AL_clear_1 : decode b_AL_clear 1 = .ok (.dup, 1) := by decide +kernel
theorem d_AL_clear_2 : decode b_AL_clear 2 = .ok (.getfield 63, 3) := by decide +kernel
theorem d_AL_clear_5 : decode b_AL_clear 5 = .ok (.iconst 1, 1) := by decide +kernel
theorem d_AL_clear_6 : decode b_AL_clear 6 = .ok (.iadd, 1) := by decide +kernel
theorem d_AL_clear_7 : decode b_AL_clear 7 = .ok (.putfield 63, 3) := by decide +kernel
theorem d_AL_clear_10 : decode b_AL_clear 10 = .ok (.aload_n 0, 1) := by decide +kernel
theorem d_AL_clear_11 : decode b_AL_clear 11 = .ok (.getfield 9, 3) := by decide +kernel
theorem d_AL_clear_14 : decode b_AL_clear 14 = .ok (.astore_n 1, 1) := by decide +kernel
theorem d_AL_clear_15 : decode b_AL_clear 15 = .ok (.aload_n 0, 1) := by decide +kernel
theorem d_AL_clear_16 : decode b_AL_clear 16 = .ok (.getfield 48, 3) := by decide +kernel
theorem d_AL_clear_19 : decode b_AL_clear 19 = .ok (.istore_n 2, 1) := by decide +kernel
theorem d_AL_clear_20 : decode b_AL_clear 20 = .ok (.aload_n 0, 1) := by decide +kernel
theorem d_AL_clear_21 : decode b_AL_clear 21 = .ok (.iconst 0, 1) := by decide +kernel
theorem d_AL_clear_22 : decode b_AL_clear 22 = .ok (.dup_x1, 1) := by decide +kernel
theorem d_AL_clear_23 : decode b_AL_clear 23 = .ok (.putfield 48, 3) := by decide +kernel
theorem d_AL_clear_26 : decode b_AL_clear 26 = .ok (.istore_n 3, 1) := by decide +kernel
theorem d_AL_clear_27 : decode b_AL_clear 27 = .ok (.iload_n 3, 1) := by decide +kernel
theorem d_AL_clear_28 : decode b_AL_clear 28 = .ok (.iload_n 2, 1) := by decide +kernel
theorem d_AL_clear_29 : decode b_AL_clear 29 = .ok (.if_icmp .ge 13, 3) := by decide +kernel
theorem d_AL_clear_32 : decode b_AL_clear 32 = .ok (.aload_n 1, 1) := by decide +kernel
theorem d_AL_clear_33 : decode b_AL_clear 33 = .ok (.iload_n 3, 1) := by decide +kernel
theorem d_AL_clear_34 : decode b_AL_clear 34 = .ok (.aconst_null, 1) := by decide +kernel
theorem d_AL_clear_35 : decode b_AL_clear 35 = .ok (.aastore, 1) := by decide +kernel
theorem d_AL_clear_36 : decode b_AL_clear 36 = .ok (.iinc 3 1, 3) := by decide +kernel
theorem d_AL_clear_39 : decode b_AL_clear 39 = .ok (.goto (-12), 3) := by decide +kernel
theorem d_AL_clear_42 : decode b_AL_clear 42 = .ok (.return_, 1) := by decide +kernel
theorem d_AL_size_0 : decode b_AL_size 0 = .ok (.aload_n 0, 1) := by decide +kernel
theorem d_AL_size_1 : decode b_AL_size 1 = .ok (.getfield 48, 3) := by decide +kernel
theorem d_AL_size_4 : decode b_AL_size 4 = .ok (.ireturn, 1) := by decide +kernel
theorem d_AL_get_0 : decode b_AL_get 0 = .ok (.iload_n 1, 1) := by decide +kernel
theorem d_AL_get_1 : decode b_AL_get 1 = .ok (.aload_n 0, 1) := by decide +kernel
theorem d_AL_get_2 : decode b_AL_get 2 = .ok (.getfield 48, 3) := by decide +kernel
theorem d_AL_get_5 : decode b_AL_get 5 = .ok (.invokestatic 118, 3) := by decide +kernel
theorem d_AL_get_8 : decode b_AL_get 8 = .ok (.pop, 1) := by decide +kernel
theorem d_AL_get_9 : decode b_AL_get 9 = .ok (.aload_n 0, 1) := by decide +kernel
theorem d_AL_get_10 : decode b_AL_get 10 = .ok (.iload_n 1, 1) := by decide +kernel
theorem d_AL_get_11 : decode b_AL_get 11 = .ok (.invokevirtual 123, 3) := by decide +kernel
theorem d_AL_get_14 : decode b_AL_get 14 = .ok (.areturn, 1) := by decide +kernel
theorem d_OJ_checkIndex_0 : decode b_OJ_checkIndex 0 = .ok (.iload_n 0, 1) := by decide +kernel
theorem d_OJ_checkIndex_1 : decode b_OJ_checkIndex 1 = .ok (.iload_n 1, 1) := by decide +kernel
theorem d_OJ_checkIndex_2 : decode b_OJ_checkIndex 2 = .ok (.aconst_null, 1) := by decide +kernel
theorem d_OJ_checkIndex_3 : decode b_OJ_checkIndex 3 = .ok (.invokestatic 105, 3) := by decide +kernel
theorem d_OJ_checkIndex_6 : decode b_OJ_checkIndex 6 = .ok (.ireturn, 1) := by decide +kernel
theorem d_PC_checkIndex_0 : decode b_PC_checkIndex 0 = .ok (.iload_n 0, 1) := by decide +kernel
theorem d_PC_checkIndex_1 : decode b_PC_checkIndex 1 = .ok (.ifCond .lt 8, 3) := by decide +kernel
theorem d_PC_checkIndex_4 : decode b_PC_checkIndex 4 = .ok (.iload_n 0, 1) := by decide +kernel
theorem d_PC_checkIndex_5 : decode b_PC_checkIndex 5 = .ok (.iload_n 1, 1) := by decide +kernel
theorem d_PC_checkIndex_6 : decode b_PC_checkIndex 6 = .ok (.if_icmp .lt 10, 3) := by decide +kernel
theorem d_PC_checkIndex_9 : decode b_PC_checkIndex 9 = .ok (.aload_n 2, 1) := by decide +kernel
theorem d_PC_checkIndex_10 : decode b_PC_checkIndex 10 = .ok (.iload_n 0, 1) := by decide +kernel
theorem d_PC_checkIndex_11 : decode b_PC_checkIndex 11 = .ok (.iload_n 1, 1) := by decide +kernel
theorem d_PC_checkIndex_12 : decode b_PC_checkIndex 12 = .ok (.invokestatic 95, 3) := by decide +kernel
theorem d_PC_checkIndex_15 : decode b_PC_checkIndex 15 = .ok (.athrow, 1) := by decide +kernel
theorem d_PC_checkIndex_16 : decode b_PC_checkIndex 16 = .ok (.iload_n 0, 1) := by decide +kernel
theorem d_PC_checkIndex_17 : decode b_PC_checkIndex 17 = .ok (.ireturn, 1) := by decide +kernel
theorem d_AL_elementData_0 : decode b_AL_elementData 0 = .ok (.aload_n 0, 1) := by decide +kernel
theorem d_AL_elementData_1 : decode b_AL_elementData 1 = .ok (.getfield 9, 3) := by decide +kernel
theorem d_AL_elementData_4 : decode b_AL_elementData 4 = .ok (.iload_n 1, 1) := by decide +kernel
theorem d_AL_elementData_5 : decode b_AL_elementData 5 = .ok (.aaload, 1) := by decide +kernel
theorem d_AL_elementData_6 : decode b_AL_elementData 6 = .ok (.areturn, 1) := by decide +kernel
theorem d_AL_add1_0 : decode b_AL_add1 0 = .ok (.aload_n 0, 1) := by decide +kernel
theorem d_AL_add1_1 : decode b_AL_add1 1 = .ok (.dup, 1) := by decide +kernel
theorem d_AL_add1_2 : decode b_AL_add1 2 = .ok (.getfield 63, 3) := by decide +kernel
theorem d_AL_add1_5 : decode b_AL_add1 5 = .ok (.iconst 1, 1) := by decide +kernel
theorem d_AL_add1_6 : decode b_AL_add1 6 = .ok (.iadd, 1) := by decide +kernel
theorem d_AL_add1_7 : decode b_AL_add1 7 = .ok (.putfield 63, 3) := by decide +kernel
theorem d_AL_add1_10 : decode b_AL_add1 10 = .ok (.aload_n 0, 1) := by decide +kernel
theorem d_AL_add1_11 : decode b_AL_add1 11 = .ok (.aload_n 1, 1) := by decide +kernel
theorem d_AL_add1_12 : decode b_AL_add1 12 = .ok (.aload_n 0, 1) := by decide +kernel
theorem d_AL_add1_13 : decode b_AL_add1 13 = .ok (.getfield 9, 3) := by decide +kernel
theorem d_AL_add1_16 : decode b_AL_add1 16 = .ok (.aload_n 0, 1) := by decide +kernel
theorem d_AL_add1_17 : decode b_AL_add1 17 = .ok (.getfield 48, 3) := by decide +kernel
theorem d_AL_add1_20 : decode b_AL_add1 20 = .ok (.invokevirtual 131, 3) := by decide +kernel
theorem d_AL_add1_23 : decode b_AL_add1 23 = .ok (.iconst 1, 1) := by decide +kernel
theorem d_AL_add1_24 : decode b_AL_add1 24 = .ok (.ireturn, 1) := by decide +kernel
theorem d_AL_add3_0 : decode b_AL_add3 0 = .ok (.iload_n 3, 1) := by decide +kernel
theorem d_AL_add3_1 : decode b_AL_add3 1 = .ok (.aload_n 2, 1) := by decide +kernel
theorem d_AL_add3_2 : decode b_AL_add3 2 = .ok (.arraylength, 1) := by decide +kernel
theorem d_AL_add3_3 : decode b_AL_add3 3 = .ok (.if_icmp .ne 8, 3) := by decide +kernel
theorem d_AL_add3_6 : decode b_AL_add3 6 = .ok (.aload_n 0, 1) := by decide +kernel
theorem d_AL_add3_7 : decode b_AL_add3 7 = .ok (.invokevirtual 129, 3) := by decide +kernel
theorem d_AL_add3_10 : decode b_AL_add3 10 = .ok (.astore_n 2, 1) := by decide +kernel
theorem d_AL_add3_11 : decode b_AL_add3 11 = .ok (.aload_n 2, 1) := by decide +kernel
theorem d_AL_add3_12 : decode b_AL_add3 12 = .ok (.iload_n 3, 1) := by decide +kernel
theorem d_AL_add3_13 : decode b_AL_add3 13 = .ok (.aload_n 1, 1) := by decide +kernel
theorem d_AL_add3_14 : decode b_AL_add3 14 = .ok (.aastore, 1) := by decide +kernel
theorem d_AL_add3_15 : decode b_AL_add3 15 = .ok (.aload_n 0, 1) := by decide +kernel
theorem d_AL_add3_16 : decode b_AL_add3 16 = .ok (.iload_n 3, 1) := by decide +kernel
theorem d_AL_add3_17 : decode b_AL_add3 17 = .ok (.iconst 1, 1) := by decide +kernel
theorem d_AL_add3_18 : decode b_AL_add3 18 = .ok (.iadd, 1) := by decide +kernel
theorem d_AL_add3_19 : decode b_AL_add3 19 = .ok (.putfield 48, 3) := by decide +kernel
theorem d_AL_add3_22 : decode b_AL_add3 22 = .ok (.return_, 1) := by decide +kernel
theorem d_AL_grow0_0 : decode b_AL_grow0 0 = .ok (.aload_n 0, 1) := by decide +kernel
theorem d_AL_grow0_1 : decode b_AL_grow0 1 = .ok (.aload_n 0, 1) := by decide +kernel
theorem d_AL_grow0_2 : decode b_AL_grow0 2 = .ok (.getfield 48, 3) := by decide +kernel
theorem d_AL_grow0_5 : decode b_AL_grow0 5 = .ok (.iconst 1, 1) := by decide +kernel
theorem d_AL_grow0_6 : decode b_AL_grow0 6 = .ok (.iadd, 1) := by decide +kernel
theorem d_AL_grow0_7 : decode b_AL_grow0 7 = .ok (.invokevirtual 69, 3) := by decide +kernel
theorem d_AL_grow0_10 : decode b_AL_grow0 10 = .ok (.areturn, 1) := by decide +kernel
theorem d_AL_grow1_0 : decode b_AL_grow1 0 = .ok (.aload_n 0, 1) := by decide +kernel
theorem d_AL_grow1_1 : decode b_AL_grow1 1 = .ok (.getfield 9, 3) := by decide +kernel
theorem d_AL_grow1_4 : decode b_AL_grow1 4 = .ok (.arraylength, 1) := by decide +kernel
theorem d_AL_grow1_5 : decode b_AL_grow1 5 = .ok (.istore_n 2, 1) := by decide +kernel
theorem d_AL_grow1_6 : decode b_AL_grow1 6 = .ok (.iload_n 2, 1) := by decide +kernel
theorem d_AL_grow1_7 : decode b_AL_grow1 7 = .ok (.ifCond .gt 13, 3) := by decide +kernel
theorem d_AL_grow1_10 : decode b_AL_grow1 10 = .ok (.aload_n 0, 1) := by decide +kernel
theorem d_AL_grow1_11 : decode b_AL_grow1 11 = .ok (.getfield 9, 3) := by decide +kernel
theorem d_AL_grow1_14 : decode b_AL_grow1 14 = .ok (.getstatic 39, 3) := by decide +kernel
theorem d_AL_grow1_17 : decode b_AL_grow1 17 = .ok (.if_acmp .eq 28, 3) := by decide +kernel
theorem d_AL_grow1_20 : decode b_AL_grow1 20 = .ok (.iload_n 2, 1) := by decide +kernel
theorem d_AL_grow1_21 : decode b_AL_grow1 21 = .ok (.iload_n 1, 1) := by decide +kernel
theorem d_AL_grow1_22 : decode b_AL_grow1 22 = .ok (.iload_n 2, 1) := by decide +kernel
theorem d_AL_grow1_23 : decode b_AL_grow1 23 = .ok (.isub, 1) := by decide +kernel
theorem d_AL_grow1_24 : decode b_AL_grow1 24 = .ok (.iload_n 2, 1) := by decide +kernel
theorem d_AL_grow1_25 : decode b_AL_grow1 25 = .ok (.iconst 1, 1) := by decide +kernel
theorem d_AL_grow1_26 : decode b_AL_grow1 26 = .ok (.ishr, 1) := by decide +kernel
theorem d_AL_grow1_27 : decode b_AL_grow1 27 = .ok (.invokestatic 73, 3) := by decide +kernel
theorem d_AL_grow1_30 : decode b_AL_grow1 30 = .ok (.istore_n 3, 1) := by decide +kernel
theorem d_AL_grow1_31 : decode b_AL_grow1 31 = .ok (.aload_n 0, 1) := by decide +kernel
theorem d_AL_grow1_32 : decode b_AL_grow1 32 = .ok (.aload_n 0, 1) := by decide +kernel
theorem d_AL_grow1_33 : decode b_AL_grow1 33 = .ok (.getfield 9, 3) := by decide +kernel
theorem d_AL_grow1_36 : decode b_AL_grow1 36 = .ok (.iload_n 3, 1) := by decide +kernel
theorem d_AL_grow1_37 : decode b_AL_grow1 37 = .ok (.invokestatic 66, 3) := by decide +kernel
theorem d_AL_grow1_40 : decode b_AL_grow1 40 = .ok (.dup_x1, 1) := by decide +kernel
theorem d_AL_grow1_41 : decode b_AL_grow1 41 = .ok (.putfield 9, 3) := by decide +kernel
theorem d_AL_grow1_44 : decode b_AL_grow1 44 = .ok (.areturn, 1) := by decide +kernel
theorem d_AL_grow1_45 : decode b_AL_grow1 45 = .ok (.aload_n 0, 1) := by decide +kernel
theorem d_AL_grow1_46 : decode b_AL_grow1 46 = .ok (.bipush 10, 2) := by decide +kernel
theorem d_AL_grow1_48 : decode b_AL_grow1 48 = .ok (.iload_n 1, 1) := by decide +kernel
theorem d_AL_grow1_49 : decode b_AL_grow1 49 = .ok (.invokestatic 79, 3) := by decide +kernel
theorem d_AL_grow1_52 : decode b_AL_grow1 52 = .ok (.anewarray 7, 3) := by decide +kernel
theorem d_AL_grow1_55 : decode b_AL_grow1 55 = .ok (.dup_x1, 1) := by decide +kernel
theorem d_AL_grow1_56 : decode b_AL_grow1 56 = .ok (.putfield 9, 3) := by decide +kernel
theorem d_AL_grow1_59 : decode b_AL_grow1 59 = .ok (.areturn, 1) := by decide +kernel
theorem d_AS_newLength_0 : decode b_AS_newLength 0 = .ok (.iload_n 0, 1) := by decide +kernel
theorem d_AS_newLength_1 : decode b_AS_newLength 1 = .ok (.iload_n 1, 1) := by decide +kernel
theorem d_AS_newLength_2 : decode b_AS_newLength 2 = .ok (.iload_n 2, 1) := by decide +kernel
theorem d_AS_newLength_3 : decode b_AS_newLength 3 = .ok (.invokestatic 194, 3) := by decide +kernel
theorem d_AS_newLength_6 : decode b_AS_newLength 6 = .ok (.iadd, 1) := by decide +kernel
theorem d_AS_newLength_7 : decode b_AS_newLength 7 = .ok (.istore_n 3, 1) := by decide +kernel
theorem d_AS_newLength_8 : decode b_AS_newLength 8 = .ok (.iconst 0, 1) := by decide +kernel
theorem d_AS_newLength_9 : decode b_AS_newLength 9 = .ok (.iload_n 3, 1) := by decide +kernel
theorem d_AS_newLength_10 : decode b_AS_newLength 10 = .ok (.if_icmp .ge 11, 3) := by decide +kernel
theorem d_AS_newLength_13 : decode b_AS_newLength 13 = .ok (.iload_n 3, 1) := by decide +kernel
theorem d_AS_newLength_14 : decode b_AS_newLength 14 = .ok (.ldc 200, 2) := by decide +kernel
theorem d_AS_newLength_16 : decode b_AS_newLength 16 = .ok (.if_icmp .gt 5, 3) := by decide +kernel
theorem d_AS_newLength_19 : decode b_AS_newLength 19 = .ok (.iload_n 3, 1) := by decide +kernel
theorem d_AS_newLength_20 : decode b_AS_newLength 20 = .ok (.ireturn, 1) := by decide +kernel
theorem d_AS_newLength_21 : decode b_AS_newLength 21 = .ok (.iload_n 0, 1) := by decide +kernel
theorem d_AS_newLength_22 : decode b_AS_newLength 22 = .ok (.iload_n 1, 1) := by decide +kernel
theorem d_AS_newLength_23 : decode b_AS_newLength 23 = .ok (.invokestatic 201, 3) := by decide +kernel
theorem d_AS_newLength_26 : decode b_AS_newLength 26 = .ok (.ireturn, 1) := by decide +kernel
theorem d_MA_max_0 : decode b_MA_max 0 = .ok (.iload_n 0, 1) := by decide +kernel
theorem d_MA_max_1 : decode b_MA_max 1 = .ok (.iload_n 1, 1) := by decide +kernel
theorem d_MA_max_2 : decode b_MA_max 2 = .ok (.if_icmp .lt 7, 3) := by decide +kernel
theorem d_MA_max_5 : decode b_MA_max 5 = .ok (.iload_n 0, 1) := by decide +kernel
theorem d_MA_max_6 : decode b_MA_max 6 = .ok (.goto 4, 3) := by decide +kernel
theorem d_MA_max_9 : decode b_MA_max 9 = .ok (.iload_n 1, 1) := by decide +kernel
theorem d_MA_max_10 : decode b_MA_max 10 = .ok (.ireturn, 1) := by decide +kernel
theorem d_AS_hugeLength_0 : decode b_AS_hugeLength 0 = .ok (.iload_n 0, 1) := by decide +kernel
theorem d_AS_hugeLength_1 : decode b_AS_hugeLength 1 = .ok (.iload_n 1, 1) := by decide +kernel
theorem d_AS_hugeLength_2 : decode b_AS_hugeLength 2 = .ok (.iadd, 1) := by decide +kernel
theorem d_AS_hugeLength_3 : decode b_AS_hugeLength 3 = .ok (.istore_n 2, 1) := by decide +kernel
theorem d_AS_hugeLength_4 : decode b_AS_hugeLength 4 = .ok (.iload_n 2, 1) := by decide +kernel
theorem d_AS_hugeLength_5 : decode b_AS_hugeLength 5 = .ok (.ifCond .ge 44, 3) := by decide +kernel
theorem d_AS_hugeLength_8 : decode b_AS_hugeLength 8 = .ok (.new 204, 3) := by decide +kernel
theorem d_AS_hugeLength_11 : decode b_AS_hugeLength 11 = .ok (.dup, 1) := by decide +kernel
theorem d_AS_hugeLength_12 : decode b_AS_hugeLength 12 = .ok (.new 89, 3) := by decide +kernel
theorem d_AS_hugeLength_15 : decode b_AS_hugeLength 15 = .ok (.dup, 1) := by decide +kernel
theorem d_AS_hugeLength_16 : decode b_AS_hugeLength 16 = .ok (.invokespecial 91, 3) := by decide +kernel
theorem d_AS_hugeLength_19 : decode b_AS_hugeLength 19 = .ok (.ldc 206, 2) := by decide +kernel
theorem d_AS_hugeLength_21 : decode b_AS_hugeLength 21 = .ok (.invokevirtual 94, 3) := by decide +kernel
theorem d_AS_hugeLength_24 : decode b_AS_hugeLength 24 = .ok (.iload_n 0, 1) := by decide +kernel
theorem d_AS_hugeLength_25 : decode b_AS_hugeLength 25 = .ok (.invokevirtual 98, 3) := by decide +kernel
theorem d_AS_hugeLength_28 : decode b_AS_hugeLength 28 = .ok (.ldc 208, 2) := by decide +kernel
theorem d_AS_hugeLength_30 : decode b_AS_hugeLength 30 = .ok (.invokevirtual 94, 3) := by decide +kernel
theorem d_AS_hugeLength_33 : decode b_AS_hugeLength 33 = .ok (.iload_n 1, 1) := by decide +kernel
theorem d_AS_hugeLength_34 : decode b_AS_hugeLength 34 = .ok (.invokevirtual 98, 3) := by decide +kernel
theorem d_AS_hugeLength_37 : decode b_AS_hugeLength 37 = .ok (.ldc 210, 2) := by decide +kernel
theorem d_AS_hugeLength_39 : decode b_AS_hugeLength 39 = .ok (.invokevirtual 94, 3) := by decide +kernel
theorem d_AS_hugeLength_42 : decode b_AS_hugeLength 42 = .ok (.invokevirtual 101, 3) := by decide +kernel
theorem d_AS_hugeLength_45 : decode b_AS_hugeLength 45 = .ok (.invokespecial 212, 3) := by decide +kernel
theorem d_AS_hugeLength_48 : decode b_AS_hugeLength 48 = .ok (.athrow, 1) := by decide +kernel
theorem d_AS_hugeLength_49 : decode b_AS_hugeLength 49 = .ok (.iload_n 2, 1) := by decide +kernel
theorem d_AS_hugeLength_50 : decode b_AS_hugeLength 50 = .ok (.ldc 200, 2) := by decide +kernel
theorem d_AS_hugeLength_52 : decode b_AS_hugeLength 52 = .ok (.if_icmp .gt 6, 3) := by decide +kernel
theorem d_AS_hugeLength_55 : decode b_AS_hugeLength 55 = .ok (.ldc 200, 2) := by decide +kernel
theorem d_AS_hugeLength_57 : decode b_AS_hugeLength 57 = .ok (.ireturn, 1) := by decide +kernel
theorem d_AS_hugeLength_58 : decode b_AS_hugeLength 58 = .ok (.iload_n 2, 1) := by decide +kernel
theorem d_AS_hugeLength_59 : decode b_AS_hugeLength 59 = .ok (.ireturn, 1) := by decide +kernel
theorem d_AR_copyOf2_0 : decode b_AR_copyOf2 0 = .ok (.aload_n 0, 1) := by decide +kernel
theorem d_AR_copyOf2_1 : decode b_AR_copyOf2 1 = .ok (.iload_n 1, 1) := by decide +kernel
theorem d_AR_copyOf2_2 : decode b_AR_copyOf2 2 = .ok (.aload_n 0, 1) := by decide +kernel
theorem d_AR_copyOf2_3 : decode b_AR_copyOf2 3 = .ok (.invokevirtual 86, 3) := by decide +kernel
theorem d_AR_copyOf2_6 : decode b_AR_copyOf2 6 = .ok (.invokestatic 300, 3) := by decide +kernel
theorem d_AR_copyOf2_9 : decode b_AR_copyOf2 9 = .ok (.areturn, 1) := by decide +kernel
theorem d_AR_copyOf3_0 : decode b_AR_copyOf3 0 = .ok (.aload_n 2, 1) := by decide +kernel
theorem d_AR_copyOf3_1 : decode b_AR_copyOf3 1 = .ok (.ldc 110, 2) := by decide +kernel
theorem d_AR_copyOf3_3 : decode b_AR_copyOf3 3 = .ok (.if_acmp .ne 10, 3) := by decide +kernel
theorem d_AR_copyOf3_6 : decode b_AR_copyOf3 6 = .ok (.iload_n 1, 1) := by decide +kernel
theorem d_AR_copyOf3_7 : decode b_AR_copyOf3 7 = .ok (.anewarray 2, 3) := by decide +kernel
theorem d_AR_copyOf3_10 : decode b_AR_copyOf3 10 = .ok (.goto 14, 3) := by decide +kernel
theorem d_AR_copyOf3_13 : decode b_AR_copyOf3 13 = .ok (.aload_n 2, 1) := by decide +kernel
theorem d_AR_copyOf3_14 : decode b_AR_copyOf3 14 = .ok (.invokevirtual 90, 3) := by decide +kernel
theorem d_AR_copyOf3_17 : decode b_AR_copyOf3 17 = .ok (.iload_n 1, 1) := by decide +kernel
theorem d_AR_copyOf3_18 : decode b_AR_copyOf3 18 = .ok (.invokestatic 95, 3) := by decide +kernel
theorem d_AR_copyOf3_21 : decode b_AR_copyOf3 21 = .ok (.checkcast 110, 3) := by decide +kernel
theorem d_AR_copyOf3_24 : decode b_AR_copyOf3 24 = .ok (.astore_n 3, 1) := by decide +kernel
theorem d_AR_copyOf3_25 : decode b_AR_copyOf3 25 = .ok (.aload_n 0, 1) := by decide +kernel
theorem d_AR_copyOf3_26 : decode b_AR_copyOf3 26 = .ok (.iconst 0, 1) := by decide +kernel
theorem d_AR_copyOf3_27 : decode b_AR_copyOf3 27 = .ok (.aload_n 3, 1) := by decide +kernel
theorem d_AR_copyOf3_28 : decode b_AR_copyOf3 28 = .ok (.iconst 0, 1) := by decide +kernel
theorem d_AR_copyOf3_29 : decode b_AR_copyOf3 29 = .ok (.aload_n 0, 1) := by decide +kernel
theorem d_AR_copyOf3_30 : decode b_AR_copyOf3 30 = .ok (.arraylength, 1) := by decide +kernel
theorem d_AR_copyOf3_31 : decode b_AR_copyOf3 31 = .ok (.iload_n 1, 1) := by decide +kernel
theorem d_AR_copyOf3_32 : decode b_AR_copyOf3 32 = .ok (.invokestatic 304, 3) := by decide +kernel
theorem d_AR_copyOf3_35 : decode b_AR_copyOf3 35 = .ok (.invokestatic 150, 3) := by decide +kernel
theorem d_AR_copyOf3_38 : decode b_AR_copyOf3 38 = .ok (.aload_n 3, 1) := by decide +kernel
theorem d_AR_copyOf3_39 : decode b_AR_copyOf3 39 = .ok (.areturn, 1) := by decide +kernel
theorem d_MA_min_0 : decode b_MA_min 0 = .ok (.iload_n 0, 1) := by decide +kernel
theorem d_MA_min_1 : decode b_MA_min 1 = .ok (.iload_n 1, 1) := by decide +kernel
theorem d_MA_min_2 : decode b_MA_min 2 = .ok (.if_icmp .gt 7, 3) := by decide +kernel
theorem d_MA_min_5 : decode b_MA_min 5 = .ok (.iload_n 0, 1) := by decide +kernel
theorem d_MA_min_6 : decode b_MA_min 6 = .ok (.goto 4, 3) := by decide +kernel
theorem d_MA_min_9 : decode b_MA_min 9 = .ok (.iload_n 1, 1) := by decide +kernel
theorem d_MA_min_10 : decode b_MA_min 10 = .ok (.ireturn, 1) := by decide +kernel
theorem d_LG_compare_0 : decode b_LG_compare 0 = .ok (.lload_n 0, 1) := by decide +kernel
theorem d_LG_compare_1 : decode b_LG_compare 1 = .ok (.lload_n 2, 1) := by decide +kernel
theorem d_LG_compare_2 : decode b_LG_compare 2 = .ok (.lcmp, 1) := by decide +kernel
theorem d_LG_compare_3 : decode b_LG_compare 3 = .ok (.ifCond .ge 7, 3) := by decide +kernel
theorem d_LG_compare_6 : decode b_LG_compare 6 = .ok (.iconst (-1), 1) := by decide +kernel
theorem d_LG_compare_7 : decode b_LG_compare 7 = .ok (.goto 14, 3) := by decide +kernel
theorem d_LG_compare_10 : decode b_LG_compare 10 = .ok (.lload_n 0, 1) := by decide +kernel
theorem d_LG_compare_11 : decode b_LG_compare 11 = .ok (.lload_n 2, 1) := by decide +kernel
theorem d_LG_compare_12 : decode b_LG_compare 12 = .ok (.lcmp, 1) := by decide +kernel
theorem d_LG_compare_13 : decode b_LG_compare 13 = .ok (.ifCond .ne 7, 3) := by decide +kernel
theorem d_LG_compare_16 : decode b_LG_compare 16 = .ok (.iconst 0, 1) := by decide +kernel
theorem d_LG_compare_17 : decode b_LG_compare 17 = .ok (.goto 4, 3) := by decide +kernel
theorem d_LG_compare_20 : decode b_LG_compare 20 = .ok (.iconst 1, 1) := by decide +kernel
theorem d_LG_compare_21 : decode b_LG_compare 21 = .ok (.ireturn, 1) := by decide +kernel
end
section
theorem d_MD_init_0 : decode b_MD_init 0 = .ok (.aload_n 0, 1) := by decide +kernel
theorem d_MD_init_1 : decode b_MD_init 1 = .ok (.invokespecial 1, 3) := by decide +kernel
theorem d_MD_init_4 : decode b_MD_init 4 = .ok (.aload_n 0, 1) := by decide +kernel
theorem d_MD_init_5 : decode b_MD_init 5 = .ok (.sipush 1024, 3) := by decide +kernel
theorem d_MD_init_8 : decode b_MD_init 8 = .ok (.newarray .int, 2) := by decide +kernel
theorem d_MD_init_10 : decode b_MD_init 10 = .ok (.putfield 7, 3) := by decide +kernel
theorem d_MD_init_13 : decode b_MD_init 13 = .ok (.aload_n 0, 1) := by decide +kernel
theorem d_MD_init_14 : decode b_MD_init 14 = .ok (.sipush 1024, 3) := by decide +kernel
theorem d_MD_init_17 : decode b_MD_init 17 = .ok (.newarray .int, 2) := by decide +kernel
theorem d_MD_init_19 : decode b_MD_init 19 = .ok (.putfield 13, 3) := by decide +kernel
theorem d_MD_init_22 : decode b_MD_init 22 = .ok (.aload_n 0, 1) := by decide +kernel
theorem d_MD_init_23 : decode b_MD_init 23 = .ok (.sipush 17408, 3) := by decide +kernel
theorem d_MD_init_26 : decode b_MD_init 26 = .ok (.newarray .int, 2) := by decide +kernel
theorem d_MD_init_28 : decode b_MD_init 28 = .ok (.putfield 16, 3) := by decide +kernel
theorem d_MD_init_31 : decode b_MD_init 31 = .ok (.aload_n 0, 1) := by decide +kernel
theorem d_MD_init_32 : decode b_MD_init 32 = .ok (.sipush 17408, 3) := by decide +kernel
theorem d_MD_init_35 : decode b_MD_init 35 = .ok (.newarray .long, 2) := by decide +kernel
theorem d_MD_init_37 : decode b_MD_init 37 = .ok (.putfield 19, 3) := by decide +kernel
theorem d_MD_init_40 : decode b_MD_init 40 = .ok (.aload_n 0, 1) := by decide +kernel
theorem d_MD_init_41 : decode b_MD_init 41 = .ok (.ldc 23, 2) := by decide +kernel
theorem d_MD_init_43 : decode b_MD_init 43 = .ok (.newarray .int, 2) := by decide +kernel
theorem d_MD_init_45 : decode b_MD_init 45 = .ok (.putfield 24, 3) := by decide +kernel
theorem d_MD_init_48 : decode b_MD_init 48 = .ok (.aload_n 0, 1) := by decide +kernel
theorem d_MD_init_49 : decode b_MD_init 49 = .ok (.bipush 64, 2) := by decide +kernel
theorem d_MD_init_51 : decode b_MD_init 51 = .ok (.newarray .int, 2) := by decide +kernel
theorem d_MD_init_53 : decode b_MD_init 53 = .ok (.putfield 27, 3) := by decide +kernel
theorem d_MD_init_56 : decode b_MD_init 56 = .ok (.aload_n 0, 1) := by decide +kernel
theorem d_MD_init_57 : decode b_MD_init 57 = .ok (.bipush 64, 2) := by decide +kernel
theorem d_MD_init_59 : decode b_MD_init 59 = .ok (.newarray .long, 2) := by decide +kernel
theorem d_MD_init_61 : decode b_MD_init 61 = .ok (.putfield 30, 3) := by decide +kernel
theorem d_MD_init_64 : decode b_MD_init 64 = .ok (.aload_n 0, 1) := by decide +kernel
theorem d_MD_init_65 : decode b_MD_init 65 = .ok (.bipush 64, 2) := by decide +kernel
theorem d_MD_init_67 : decode b_MD_init 67 = .ok (.newarray .int, 2) := by decide +kernel
theorem d_MD_init_69 : decode b_MD_init 69 = .ok (.putfield 33, 3) := by decide +kernel
theorem d_MD_init_72 : decode b_MD_init 72 = .ok (.aload_n 0, 1) := by decide +kernel
theorem d_MD_init_73 : decode b_MD_init 73 = .ok (.sipush 1024, 3) := by decide +kernel
theorem d_MD_init_76 : decode b_MD_init 76 = .ok (.newarray .int, 2) := by decide +kernel
theorem d_MD_init_78 : decode b_MD_init 78 = .ok (.putfield 36, 3) := by decide +kernel
theorem d_MD_init_81 : decode b_MD_init 81 = .ok (.aload_n 0, 1) := by decide +kernel
theorem d_MD_init_82 : decode b_MD_init 82 = .ok (.sipush 1024, 3) := by decide +kernel
theorem d_MD_init_85 : decode b_MD_init 85 = .ok (.newarray .int, 2) := by decide +kernel
theorem d_MD_init_87 : decode b_MD_init 87 = .ok (.putfield 39, 3) := by decide +kernel
theorem d_MD_init_90 : decode b_MD_init 90 = .ok (.return_, 1) := by decide +kernel
theorem d_MD_thrown_0 : decode b_MD_thrown 0 = .ok (.aload_n 0, 1) := by decide +kernel
theorem d_MD_thrown_1 : decode b_MD_thrown 1 = .ok (.getfield 42, 3) := by decide +kernel
theorem d_MD_thrown_4 : decode b_MD_thrown 4 = .ok (.ireturn, 1) := by decide +kernel
theorem d_MD_clear_0 : decode b_MD_clear 0 = .ok (.aload_n 0, 1) := by decide +kernel
theorem d_MD_clear_1 : decode b_MD_clear 1 = .ok (.iconst 0, 1) := by decide +kernel
theorem d_MD_clear_2 : decode b_MD_clear 2 = .ok (.putfield 42, 3) := by decide +kernel
theorem d_MD_clear_5 : decode b_MD_clear 5 = .ok (.aload_n 0, 1) := by decide +kernel
theorem d_MD_clear_6 : decode b_MD_clear 6 = .ok (.iconst 0, 1) := by decide +kernel
theorem d_MD_clear_7 : decode b_MD_clear 7 = .ok (.putfield 46, 3) := by decide +kernel
theorem d_MD_clear_10 : decode b_MD_clear 10 = .ok (.aload_n 0, 1) := by decide +kernel
theorem d_MD_clear_11 : decode b_MD_clear 11 = .ok (.iconst 0, 1) := by decide +kernel
theorem d_MD_clear_12 : decode b_MD_clear 12 = .ok (.putfield 49, 3) := by decide +kernel
theorem d_MD_clear_15 : decode b_MD_clear 15 = .ok (.aload_n 0, 1) := by decide +kernel
theorem d_MD_clear_16 : decode b_MD_clear 16 = .ok (.iconst 0, 1) := by decide +kernel
theorem d_MD_clear_17 : decode b_MD_clear 17 = .ok (.putfield 52, 3) := by decide +kernel
theorem d_MD_clear_20 : decode b_MD_clear 20 = .ok (.aload_n 0, 1) := by decide +kernel
theorem d_MD_clear_21 : decode b_MD_clear 21 = .ok (.iconst 0, 1) := by decide +kernel
theorem d_MD_clear_22 : decode b_MD_clear 22 = .ok (.putfield 55, 3) := by decide +kernel
theorem d_MD_clear_25 : decode b_MD_clear 25 = .ok (.return_, 1) := by decide +kernel
theorem d_MD_block_0 : decode b_MD_block 0 = .ok (.aload_n 0, 1) := by decide +kernel
theorem d_MD_block_1 : decode b_MD_block 1 = .ok (.aload_n 0, 1) := by decide +kernel
theorem d_MD_block_2 : decode b_MD_block 2 = .ok (.getfield 46, 3) := by decide +kernel
theorem d_MD_block_5 : decode b_MD_block 5 = .ok (.sipush 1024, 3) := by decide +kernel
theorem d_MD_block_8 : decode b_MD_block 8 = .ok (.if_icmp .ne 7, 3) := by decide +kernel
theorem d_MD_block_11 : decode b_MD_block 11 = .ok (.iconst 1, 1) := by decide +kernel
theorem d_MD_block_12 : decode b_MD_block 12 = .ok (.goto 4, 3) := by decide +kernel
theorem d_MD_block_15 : decode b_MD_block 15 = .ok (.iconst 0, 1) := by decide +kernel
theorem d_MD_block_16 : decode b_MD_block 16 = .ok (.iconst 0, 1) := by decide +kernel
theorem d_MD_block_17 : decode b_MD_block 17 = .ok (.invokevirtual 58, 3) := by decide +kernel
theorem d_MD_block_20 : decode b_MD_block 20 = .ok (.ifCond .eq 5, 3) := by decide +kernel
theorem d_MD_block_23 : decode b_MD_block 23 = .ok (.iconst 0, 1) := by decide +kernel
theorem d_MD_block_24 : decode b_MD_block 24 = .ok (.ireturn, 1) := by decide +kernel
theorem d_MD_block_25 : decode b_MD_block 25 = .ok (.aload_n 0, 1) := by decide +kernel
theorem d_MD_block_26 : decode b_MD_block 26 = .ok (.getfield 7, 3) := by decide +kernel
theorem d_MD_block_29 : decode b_MD_block 29 = .ok (.aload_n 0, 1) := by decide +kernel
theorem d_MD_block_30 : decode b_MD_block 30 = .ok (.getfield 46, 3) := by decide +kernel
theorem d_MD_block_33 : decode b_MD_block 33 = .ok (.iconst 0, 1) := by decide +kernel
theorem d_MD_block_34 : decode b_MD_block 34 = .ok (.iastore, 1) := by decide +kernel
theorem d_MD_block_35 : decode b_MD_block 35 = .ok (.aload_n 0, 1) := by decide +kernel
theorem d_MD_block_36 : decode b_MD_block 36 = .ok (.getfield 13, 3) := by decide +kernel
theorem d_MD_block_39 : decode b_MD_block 39 = .ok (.aload_n 0, 1) := by decide +kernel
theorem d_MD_block_40 : decode b_MD_block 40 = .ok (.getfield 46, 3) := by decide +kernel
theorem d_MD_block_43 : decode b_MD_block 43 = .ok (.aload_n 0, 1) := by decide +kernel
theorem d_MD_block_44 : decode b_MD_block 44 = .ok (.getfield 52, 3) := by decide +kernel
theorem d_MD_block_47 : decode b_MD_block 47 = .ok (.iastore, 1) := by decide +kernel
theorem d_MD_block_48 : decode b_MD_block 48 = .ok (.aload_n 0, 1) := by decide +kernel
theorem d_MD_block_49 : decode b_MD_block 49 = .ok (.getfield 16, 3) := by decide +kernel
theorem d_MD_block_52 : decode b_MD_block 52 = .ok (.aload_n 0, 1) := by decide +kernel
theorem d_MD_block_53 : decode b_MD_block 53 = .ok (.getfield 52, 3) := by decide +kernel
theorem d_MD_block_56 : decode b_MD_block 56 = .ok (.iconst 0, 1) := by decide +kernel
theorem d_MD_block_57 : decode b_MD_block 57 = .ok (.iastore, 1) := by decide +kernel
theorem d_MD_block_58 : decode b_MD_block 58 = .ok (.aload_n 0, 1) := by decide +kernel
theorem d_MD_block_59 : decode b_MD_block 59 = .ok (.getfield 19, 3) := by decide +kernel
theorem d_MD_block_62 : decode b_MD_block 62 = .ok (.aload_n 0, 1) := by decide +kernel
theorem d_MD_block_63 : decode b_MD_block 63 = .ok (.getfield 52, 3) := by decide +kernel
theorem d_MD_block_66 : decode b_MD_block 66 = .ok (.lconst 0, 1) := by decide +kernel
theorem d_MD_block_67 : decode b_MD_block 67 = .ok (.lastore, 1) := by decide +kernel
theorem d_MD_block_68 : decode b_MD_block 68 = .ok (.aload_n 0, 1) := by decide +kernel
theorem d_MD_block_69 : decode b_MD_block 69 = .ok (.dup, 1) := by decide +kernel
theorem d_MD_block_70 : decode b_MD_block 70 = .ok (.getfield 52, 3) := by decide +kernel
theorem d_MD_block_73 : decode b_MD_block 73 = .ok (.iconst 1, 1) := by decide +kernel
theorem d_MD_block_74 : decode b_MD_block 74 = .ok (.iadd, 1) := by decide +kernel
theorem d_MD_block_75 : decode b_MD_block 75 = .ok (.putfield 52, 3) := by decide +kernel
theorem d_MD_block_78 : decode b_MD_block 78 = .ok (.aload_n 0, 1) := by decide +kernel
theorem d_MD_block_79 : decode b_MD_block 79 = .ok (.dup, 1) := by decide +kernel
theorem d_MD_block_80 : decode b_MD_block 80 = .ok (.getfield 46, 3) := by decide +kernel
theorem d_MD_block_83 : decode b_MD_block 83 = .ok (.iconst 1, 1) := by decide +kernel
theorem d_MD_block_84 : decode b_MD_block 84 = .ok (.iadd, 1) := by decide +kernel
theorem d_MD_block_85 : decode b_MD_block 85 = .ok (.putfield 46, 3) := by decide +kernel
theorem d_MD_block_88 : decode b_MD_block 88 = .ok (.aload_n 0, 1) := by decide +kernel
theorem d_MD_block_89 : decode b_MD_block 89 = .ok (.iconst 0, 1) := by decide +kernel
theorem d_MD_block_90 : decode b_MD_block 90 = .ok (.putfield 55, 3) := by decide +kernel
theorem d_MD_block_93 : decode b_MD_block 93 = .ok (.aload_n 0, 1) := by decide +kernel
theorem d_MD_block_94 : decode b_MD_block 94 = .ok (.getfield 46, 3) := by decide +kernel
theorem d_MD_block_97 : decode b_MD_block 97 = .ok (.iconst 1, 1) := by decide +kernel
theorem d_MD_block_98 : decode b_MD_block 98 = .ok (.isub, 1) := by decide +kernel
theorem d_MD_block_99 : decode b_MD_block 99 = .ok (.ireturn, 1) := by decide +kernel
theorem d_MD_throwing_0 : decode b_MD_throwing 0 = .ok (.aload_n 0, 1) := by decide +kernel
theorem d_MD_throwing_1 : decode b_MD_throwing 1 = .ok (.iload_n 1, 1) := by decide +kernel
theorem d_MD_throwing_2 : decode b_MD_throwing 2 = .ok (.ifCond .eq 7, 3) := by decide +kernel
theorem d_MD_throwing_5 : decode b_MD_throwing 5 = .ok (.iconst 1, 1) := by decide +kernel
theorem d_MD_throwing_6 : decode b_MD_throwing 6 = .ok (.goto 12, 3) := by decide +kernel
theorem d_MD_throwing_9 : decode b_MD_throwing 9 = .ok (.iload_n 2, 1) := by decide +kernel
theorem d_MD_throwing_10 : decode b_MD_throwing 10 = .ok (.ifCond .eq 7, 3) := by decide +kernel
theorem d_MD_throwing_13 : decode b_MD_throwing 13 = .ok (.iconst 2, 1) := by decide +kernel
theorem d_MD_throwing_14 : decode b_MD_throwing 14 = .ok (.goto 4, 3) := by decide +kernel
theorem d_MD_throwing_17 : decode b_MD_throwing 17 = .ok (.iconst 0, 1) := by decide +kernel
theorem d_MD_throwing_18 : decode b_MD_throwing 18 = .ok (.putfield 42, 3) := by decide +kernel
theorem d_MD_throwing_21 : decode b_MD_throwing 21 = .ok (.aload_n 0, 1) := by decide +kernel
theorem d_MD_throwing_22 : decode b_MD_throwing 22 = .ok (.getfield 42, 3) := by decide +kernel
theorem d_MD_throwing_25 : decode b_MD_throwing 25 = .ok (.ifCond .le 7, 3) := by decide +kernel
theorem d_MD_throwing_28 : decode b_MD_throwing 28 = .ok (.iconst 1, 1) := by decide +kernel
theorem d_MD_throwing_29 : decode b_MD_throwing 29 = .ok (.goto 4, 3) := by decide +kernel
theorem d_MD_throwing_32 : decode b_MD_throwing 32 = .ok (.iconst 0, 1) := by decide +kernel
theorem d_MD_throwing_33 : decode b_MD_throwing 33 = .ok (.ireturn, 1) := by decide +kernel
theorem d_MD_pass_0 : decode b_MD_pass 0 = .ok (.iload_n 1, 1) := by decide +kernel
theorem d_MD_pass_1 : decode b_MD_pass 1 = .ok (.iconst 0, 1) := by decide +kernel
theorem d_MD_pass_2 : decode b_MD_pass 2 = .ok (.aload_n 0, 1) := by decide +kernel
theorem d_MD_pass_3 : decode b_MD_pass 3 = .ok (.getfield 46, 3) := by decide +kernel
theorem d_MD_pass_6 : decode b_MD_pass 6 = .ok (.iconst 1, 1) := by decide +kernel
theorem d_MD_pass_7 : decode b_MD_pass 7 = .ok (.isub, 1) := by decide +kernel
theorem d_MD_pass_8 : decode b_MD_pass 8 = .ok (.invokestatic 62, 3) := by decide +kernel
theorem d_MD_pass_11 : decode b_MD_pass 11 = .ok (.ifCond .ne 23, 3) := by decide +kernel
theorem d_MD_pass_14 : decode b_MD_pass 14 = .ok (.iload_n 2, 1) := by decide +kernel
theorem d_MD_pass_15 : decode b_MD_pass 15 = .ok (.ifCond .lt 19, 3) := by decide +kernel
theorem d_MD_pass_18 : decode b_MD_pass 18 = .ok (.lload_n 3, 1) := by decide +kernel
theorem d_MD_pass_19 : decode b_MD_pass 19 = .ok (.ldc2_w 66, 3) := by decide +kernel
theorem d_MD_pass_22 : decode b_MD_pass 22 = .ok (.lcmp, 1) := by decide +kernel
theorem d_MD_pass_23 : decode b_MD_pass 23 = .ok (.ifCond .lt 11, 3) := by decide +kernel
theorem d_MD_pass_26 : decode b_MD_pass 26 = .ok (.lload_n 3, 1) := by decide +kernel
theorem d_MD_pass_27 : decode b_MD_pass 27 = .ok (.ldc2_w 68, 3) := by decide +kernel
theorem d_MD_pass_30 : decode b_MD_pass 30 = .ok (.lcmp, 1) := by decide +kernel
theorem d_MD_pass_31 : decode b_MD_pass 31 = .ok (.ifCond .le 7, 3) := by decide +kernel
theorem d_MD_pass_34 : decode b_MD_pass 34 = .ok (.iconst 1, 1) := by decide +kernel
theorem d_MD_pass_35 : decode b_MD_pass 35 = .ok (.goto 4, 3) := by decide +kernel
theorem d_MD_pass_38 : decode b_MD_pass 38 = .ok (.iconst 0, 1) := by decide +kernel
theorem d_MD_pass_39 : decode b_MD_pass 39 = .ok (.istore 5, 2) := by decide +kernel
theorem d_MD_pass_41 : decode b_MD_pass 41 = .ok (.iload 5, 2) := by decide +kernel
theorem d_MD_pass_43 : decode b_MD_pass 43 = .ok (.ifCond .eq 7, 3) := by decide +kernel
theorem d_MD_pass_46 : decode b_MD_pass 46 = .ok (.iconst 0, 1) := by decide +kernel
theorem d_MD_pass_47 : decode b_MD_pass 47 = .ok (.goto 16, 3) := by decide +kernel
theorem d_MD_pass_50 : decode b_MD_pass 50 = .ok (.aload_n 0, 1) := by decide +kernel
theorem d_MD_pass_51 : decode b_MD_pass 51 = .ok (.getfield 13, 3) := by decide +kernel
theorem d_MD_pass_54 : decode b_MD_pass 54 = .ok (.iload_n 1, 1) := by decide +kernel
theorem d_MD_pass_55 : decode b_MD_pass 55 = .ok (.iaload, 1) := by decide +kernel
theorem d_MD_pass_56 : decode b_MD_pass 56 = .ok (.aload_n 0, 1) := by decide +kernel
theorem d_MD_pass_57 : decode b_MD_pass 57 = .ok (.getfield 7, 3) := by decide +kernel
theorem d_MD_pass_60 : decode b_MD_pass 60 = .ok (.iload_n 1, 1) := by decide +kernel
theorem d_MD_pass_61 : decode b_MD_pass 61 = .ok (.iaload, 1) := by decide +kernel
theorem d_MD_pass_62 : decode b_MD_pass 62 = .ok (.iadd, 1) := by decide +kernel
theorem d_MD_pass_63 : decode b_MD_pass 63 = .ok (.istore 6, 2) := by decide +kernel
theorem d_MD_pass_65 : decode b_MD_pass 65 = .ok (.aload_n 0, 1) := by decide +kernel
theorem d_MD_pass_66 : decode b_MD_pass 66 = .ok (.iload 5, 2) := by decide +kernel
theorem d_MD_pass_68 : decode b_MD_pass 68 = .ok (.iload 5, 2) := by decide +kernel
theorem d_MD_pass_70 : decode b_MD_pass 70 = .ok (.ifCond .ne 42, 3) := by decide +kernel
theorem d_MD_pass_73 : decode b_MD_pass 73 = .ok (.aload_n 0, 1) := by decide +kernel
theorem d_MD_pass_74 : decode b_MD_pass 74 = .ok (.getfield 7, 3) := by decide +kernel
theorem d_MD_pass_77 : decode b_MD_pass 77 = .ok (.iload_n 1, 1) := by decide +kernel
theorem d_MD_pass_78 : decode b_MD_pass 78 = .ok (.iaload, 1) := by decide +kernel
theorem d_MD_pass_79 : decode b_MD_pass 79 = .ok (.bipush 120, 2) := by decide +kernel
theorem d_MD_pass_81 : decode b_MD_pass 81 = .ok (.if_icmp .eq 27, 3) := by decide +kernel
theorem d_MD_pass_84 : decode b_MD_pass 84 = .ok (.iload_n 2, 1) := by decide +kernel
theorem d_MD_pass_85 : decode b_MD_pass 85 = .ok (.ldc 70, 2) := by decide +kernel
theorem d_MD_pass_87 : decode b_MD_pass 87 = .ok (.aload_n 0, 1) := by decide +kernel
theorem d_MD_pass_88 : decode b_MD_pass 88 = .ok (.getfield 16, 3) := by decide +kernel
theorem d_MD_pass_91 : decode b_MD_pass 91 = .ok (.iload 6, 2) := by decide +kernel
theorem d_MD_pass_93 : decode b_MD_pass 93 = .ok (.iaload, 1) := by decide +kernel
theorem d_MD_pass_94 : decode b_MD_pass 94 = .ok (.isub, 1) := by decide +kernel
theorem d_MD_pass_95 : decode b_MD_pass 95 = .ok (.if_icmp .gt 13, 3) := by decide +kernel
theorem d_MD_pass_98 : decode b_MD_pass 98 = .ok (.aload_n 0, 1) := by decide +kernel
theorem d_MD_pass_99 : decode b_MD_pass 99 = .ok (.getfield 49, 3) := by decide +kernel
theorem d_MD_pass_102 : decode b_MD_pass 102 = .ok (.sipush 16384, 3) := by decide +kernel
theorem d_MD_pass_105 : decode b_MD_pass 105 = .ok (.if_icmp .ne 7, 3) := by decide +kernel
theorem d_MD_pass_108 : decode b_MD_pass 108 = .ok (.iconst 1, 1) := by decide +kernel
theorem d_MD_pass_109 : decode b_MD_pass 109 = .ok (.goto 4, 3) := by decide +kernel
theorem d_MD_pass_112 : decode b_MD_pass 112 = .ok (.iconst 0, 1) := by decide +kernel
theorem d_MD_pass_113 : decode b_MD_pass 113 = .ok (.invokevirtual 58, 3) := by decide +kernel
theorem d_MD_pass_116 : decode b_MD_pass 116 = .ok (.ifCond .eq 5, 3) := by decide +kernel
theorem d_MD_pass_119 : decode b_MD_pass 119 = .ok (.iconst 0, 1) := by decide +kernel
theorem d_MD_pass_120 : decode b_MD_pass 120 = .ok (.ireturn, 1) := by decide +kernel
theorem d_MD_pass_121 : decode b_MD_pass 121 = .ok (.aload_n 0, 1) := by decide +kernel
theorem d_MD_pass_122 : decode b_MD_pass 122 = .ok (.getfield 52, 3) := by decide +kernel
theorem d_MD_pass_125 : decode b_MD_pass 125 = .ok (.istore 7, 2) := by decide +kernel
theorem d_MD_pass_127 : decode b_MD_pass 127 = .ok (.iload 7, 2) := by decide +kernel
theorem d_MD_pass_129 : decode b_MD_pass 129 = .ok (.iload 6, 2) := by decide +kernel
theorem d_MD_pass_131 : decode b_MD_pass 131 = .ok (.iconst 1, 1) := by decide +kernel
theorem d_MD_pass_132 : decode b_MD_pass 132 = .ok (.iadd, 1) := by decide +kernel
theorem d_MD_pass_133 : decode b_MD_pass 133 = .ok (.if_icmp .le 41, 3) := by decide +kernel
theorem d_MD_pass_136 : decode b_MD_pass 136 = .ok (.aload_n 0, 1) := by decide +kernel
theorem d_MD_pass_137 : decode b_MD_pass 137 = .ok (.getfield 16, 3) := by decide +kernel
theorem d_MD_pass_140 : decode b_MD_pass 140 = .ok (.iload 7, 2) := by decide +kernel
theorem d_MD_pass_142 : decode b_MD_pass 142 = .ok (.aload_n 0, 1) := by decide +kernel
theorem d_MD_pass_143 : decode b_MD_pass 143 = .ok (.getfield 16, 3) := by decide +kernel
theorem d_MD_pass_146 : decode b_MD_pass 146 = .ok (.iload 7, 2) := by decide +kernel
theorem d_MD_pass_148 : decode b_MD_pass 148 = .ok (.iconst 1, 1) := by decide +kernel
theorem d_MD_pass_149 : decode b_MD_pass 149 = .ok (.isub, 1) := by decide +kernel
theorem d_MD_pass_150 : decode b_MD_pass 150 = .ok (.iaload, 1) := by decide +kernel
theorem d_MD_pass_151 : decode b_MD_pass 151 = .ok (.iastore, 1) := by decide +kernel
theorem d_MD_pass_152 : decode b_MD_pass 152 = .ok (.aload_n 0, 1) := by decide +kernel
theorem d_MD_pass_153 : decode b_MD_pass 153 = .ok (.getfield 19, 3) := by decide +kernel
theorem d_MD_pass_156 : decode b_MD_pass 156 = .ok (.iload 7, 2) := by decide +kernel
theorem d_MD_pass_158 : decode b_MD_pass 158 = .ok (.aload_n 0, 1) := by decide +kernel
theorem d_MD_pass_159 : decode b_MD_pass 159 = .ok (.getfield 19, 3) := by decide +kernel
theorem d_MD_pass_162 : decode b_MD_pass 162 = .ok (.iload 7, 2) := by decide +kernel
theorem d_MD_pass_164 : decode b_MD_pass 164 = .ok (.iconst 1, 1) := by decide +kernel
theorem d_MD_pass_165 : decode b_MD_pass 165 = .ok (.isub, 1) := by decide +kernel
theorem d_MD_pass_166 : decode b_MD_pass 166 = .ok (.laload, 1) := by decide +kernel
theorem d_MD_pass_167 : decode b_MD_pass 167 = .ok (.lastore, 1) := by decide +kernel
theorem d_MD_pass_168 : decode b_MD_pass 168 = .ok (.iinc 7 (-1), 3) := by decide +kernel
theorem d_MD_pass_171 : decode b_MD_pass 171 = .ok (.goto (-44), 3) := by decide +kernel
theorem d_MD_pass_174 : decode b_MD_pass 174 = .ok (.iload_n 1, 1) := by decide +kernel
theorem d_MD_pass_175 : decode b_MD_pass 175 = .ok (.iconst 1, 1) := by decide +kernel
theorem d_MD_pass_176 : decode b_MD_pass 176 = .ok (.iadd, 1) := by decide +kernel
theorem d_MD_pass_177 : decode b_MD_pass 177 = .ok (.istore 7, 2) := by decide +kernel
theorem d_MD_pass_179 : decode b_MD_pass 179 = .ok (.iload 7, 2) := by decide +kernel
theorem d_MD_pass_181 : decode b_MD_pass 181 = .ok (.aload_n 0, 1) := by decide +kernel
theorem d_MD_pass_182 : decode b_MD_pass 182 = .ok (.getfield 46, 3) := by decide +kernel
theorem d_MD_pass_185 : decode b_MD_pass 185 = .ok (.if_icmp .ge 20, 3) := by decide +kernel
theorem d_MD_pass_188 : decode b_MD_pass 188 = .ok (.aload_n 0, 1) := by decide +kernel
theorem d_MD_pass_189 : decode b_MD_pass 189 = .ok (.getfield 13, 3) := by decide +kernel
theorem d_MD_pass_192 : decode b_MD_pass 192 = .ok (.iload 7, 2) := by decide +kernel
theorem d_MD_pass_194 : decode b_MD_pass 194 = .ok (.dup2, 1) := by decide +kernel
theorem d_MD_pass_195 : decode b_MD_pass 195 = .ok (.iaload, 1) := by decide +kernel
theorem d_MD_pass_196 : decode b_MD_pass 196 = .ok (.iconst 1, 1) := by decide +kernel
theorem d_MD_pass_197 : decode b_MD_pass 197 = .ok (.iadd, 1) := by decide +kernel
theorem d_MD_pass_198 : decode b_MD_pass 198 = .ok (.iastore, 1) := by decide +kernel
theorem d_MD_pass_199 : decode b_MD_pass 199 = .ok (.iinc 7 1, 3) := by decide +kernel
theorem d_MD_pass_202 : decode b_MD_pass 202 = .ok (.goto (-23), 3) := by decide +kernel
theorem d_MD_pass_205 : decode b_MD_pass 205 = .ok (.aload_n 0, 1) := by decide +kernel
theorem d_MD_pass_206 : decode b_MD_pass 206 = .ok (.dup, 1) := by decide +kernel
theorem d_MD_pass_207 : decode b_MD_pass 207 = .ok (.getfield 52, 3) := by decide +kernel
theorem d_MD_pass_210 : decode b_MD_pass 210 = .ok (.iconst 1, 1) := by decide +kernel
theorem d_MD_pass_211 : decode b_MD_pass 211 = .ok (.iadd, 1) := by decide +kernel
theorem d_MD_pass_212 : decode b_MD_pass 212 = .ok (.putfield 52, 3) := by decide +kernel
theorem d_MD_pass_215 : decode b_MD_pass 215 = .ok (.aload_n 0, 1) := by decide +kernel
theorem d_MD_pass_216 : decode b_MD_pass 216 = .ok (.getfield 16, 3) := by decide +kernel
theorem d_MD_pass_219 : decode b_MD_pass 219 = .ok (.iload 6, 2) := by decide +kernel
theorem d_MD_pass_221 : decode b_MD_pass 221 = .ok (.iconst 1, 1) := by decide +kernel
theorem d_MD_pass_222 : decode b_MD_pass 222 = .ok (.iadd, 1) := by decide +kernel
theorem d_MD_pass_223 : decode b_MD_pass 223 = .ok (.aload_n 0, 1) := by decide +kernel
theorem d_MD_pass_224 : decode b_MD_pass 224 = .ok (.getfield 16, 3) := by decide +kernel
theorem d_MD_pass_227 : decode b_MD_pass 227 = .ok (.iload 6, 2) := by decide +kernel
theorem d_MD_pass_229 : decode b_MD_pass 229 = .ok (.iaload, 1) := by decide +kernel
theorem d_MD_pass_230 : decode b_MD_pass 230 = .ok (.iload_n 2, 1) := by decide +kernel
theorem d_MD_pass_231 : decode b_MD_pass 231 = .ok (.iadd, 1) := by decide +kernel
theorem d_MD_pass_232 : decode b_MD_pass 232 = .ok (.iastore, 1) := by decide +kernel
theorem d_MD_pass_233 : decode b_MD_pass 233 = .ok (.aload_n 0, 1) := by decide +kernel
theorem d_MD_pass_234 : decode b_MD_pass 234 = .ok (.getfield 19, 3) := by decide +kernel
theorem d_MD_pass_237 : decode b_MD_pass 237 = .ok (.iload 6, 2) := by decide +kernel
theorem d_MD_pass_239 : decode b_MD_pass 239 = .ok (.iconst 1, 1) := by decide +kernel
theorem d_MD_pass_240 : decode b_MD_pass 240 = .ok (.iadd, 1) := by decide +kernel
theorem d_MD_pass_241 : decode b_MD_pass 241 = .ok (.aload_n 0, 1) := by decide +kernel
theorem d_MD_pass_242 : decode b_MD_pass 242 = .ok (.getfield 19, 3) := by decide +kernel
theorem d_MD_pass_245 : decode b_MD_pass 245 = .ok (.iload 6, 2) := by decide +kernel
theorem d_MD_pass_247 : decode b_MD_pass 247 = .ok (.laload, 1) := by decide +kernel
theorem d_MD_pass_248 : decode b_MD_pass 248 = .ok (.lload_n 3, 1) := by decide +kernel
theorem d_MD_pass_249 : decode b_MD_pass 249 = .ok (.ladd, 1) := by decide +kernel
theorem d_MD_pass_250 : decode b_MD_pass 250 = .ok (.lastore, 1) := by decide +kernel
theorem d_MD_pass_251 : decode b_MD_pass 251 = .ok (.aload_n 0, 1) := by decide +kernel
theorem d_MD_pass_252 : decode b_MD_pass 252 = .ok (.getfield 7, 3) := by decide +kernel
theorem d_MD_pass_255 : decode b_MD_pass 255 = .ok (.iload_n 1, 1) := by decide +kernel
theorem d_MD_pass_256 : decode b_MD_pass 256 = .ok (.dup2, 1) := by decide +kernel
theorem d_MD_pass_257 : decode b_MD_pass 257 = .ok (.iaload, 1) := by decide +kernel
theorem d_MD_pass_258 : decode b_MD_pass 258 = .ok (.iconst 1, 1) := by decide +kernel
theorem d_MD_pass_259 : decode b_MD_pass 259 = .ok (.iadd, 1) := by decide +kernel
theorem d_MD_pass_260 : decode b_MD_pass 260 = .ok (.iastore, 1) := by decide +kernel
theorem d_MD_pass_261 : decode b_MD_pass 261 = .ok (.aload_n 0, 1) := by decide +kernel
theorem d_MD_pass_262 : decode b_MD_pass 262 = .ok (.dup, 1) := by decide +kernel
theorem d_MD_pass_263 : decode b_MD_pass 263 = .ok (.getfield 49, 3) := by decide +kernel
theorem d_MD_pass_266 : decode b_MD_pass 266 = .ok (.iconst 1, 1) := by decide +kernel
theorem d_MD_pass_267 : decode b_MD_pass 267 = .ok (.iadd, 1) := by decide +kernel
theorem d_MD_pass_268 : decode b_MD_pass 268 = .ok (.putfield 49, 3) := by decide +kernel
theorem d_MD_pass_271 : decode b_MD_pass 271 = .ok (.aload_n 0, 1) := by decide +kernel
theorem d_MD_pass_272 : decode b_MD_pass 272 = .ok (.iconst 0, 1) := by decide +kernel
theorem d_MD_pass_273 : decode b_MD_pass 273 = .ok (.putfield 55, 3) := by decide +kernel
theorem d_MD_pass_276 : decode b_MD_pass 276 = .ok (.aload_n 0, 1) := by decide +kernel
theorem d_MD_pass_277 : decode b_MD_pass 277 = .ok (.getfield 7, 3) := by decide +kernel
theorem d_MD_pass_280 : decode b_MD_pass 280 = .ok (.iload_n 1, 1) := by decide +kernel
theorem d_MD_pass_281 : decode b_MD_pass 281 = .ok (.iaload, 1) := by decide +kernel
theorem d_MD_pass_282 : decode b_MD_pass 282 = .ok (.ireturn, 1) := by decide +kernel
theorem d_MD_out_0 : decode b_MD_out 0 = .ok (.iload_n 0, 1) := by decide +kernel
theorem d_MD_out_1 : decode b_MD_out 1 = .ok (.iload_n 1, 1) := by decide +kernel
theorem d_MD_out_2 : decode b_MD_out 2 = .ok (.if_icmp .lt 8, 3) := by decide +kernel
theorem d_MD_out_5 : decode b_MD_out 5 = .ok (.iload_n 0, 1) := by decide +kernel
theorem d_MD_out_6 : decode b_MD_out 6 = .ok (.iload_n 2, 1) := by decide +kernel
theorem d_MD_out_7 : decode b_MD_out 7 = .ok (.if_icmp .le 7, 3) := by decide +kernel
theorem d_MD_out_10 : decode b_MD_out 10 = .ok (.iconst 1, 1) := by decide +kernel
theorem d_MD_out_11 : decode b_MD_out 11 = .ok (.goto 4, 3) := by decide +kernel
theorem d_MD_out_14 : decode b_MD_out 14 = .ok (.iconst 0, 1) := by decide +kernel
theorem d_MD_out_15 : decode b_MD_out 15 = .ok (.ireturn, 1) := by decide +kernel
theorem d_MD_step_0 : decode b_MD_step 0 = .ok (.iload_n 1, 1) := by decide +kernel
theorem d_MD_step_1 : decode b_MD_step 1 = .ok (.iconst 0, 1) := by decide +kernel
theorem d_MD_step_2 : decode b_MD_step 2 = .ok (.aload_n 0, 1) := by decide +kernel
theorem d_MD_step_3 : decode b_MD_step 3 = .ok (.getfield 46, 3) := by decide +kernel
theorem d_MD_step_6 : decode b_MD_step 6 = .ok (.iconst 1, 1) := by decide +kernel
theorem d_MD_step_7 : decode b_MD_step 7 = .ok (.isub, 1) := by decide +kernel
theorem d_MD_step_8 : decode b_MD_step 8 = .ok (.invokestatic 62, 3) := by decide +kernel
theorem d_MD_step_11 : decode b_MD_step 11 = .ok (.ifCond .ne 17, 3) := by decide +kernel
theorem d_MD_step_14 : decode b_MD_step 14 = .ok (.iload_n 2, 1) := by decide +kernel
theorem d_MD_step_15 : decode b_MD_step 15 = .ok (.iconst (-1), 1) := by decide +kernel
theorem d_MD_step_16 : decode b_MD_step 16 = .ok (.if_icmp .eq 16, 3) := by decide +kernel
theorem d_MD_step_19 : decode b_MD_step 19 = .ok (.iload_n 3, 1) := by decide +kernel
theorem d_MD_step_20 : decode b_MD_step 20 = .ok (.iconst 0, 1) := by decide +kernel
theorem d_MD_step_21 : decode b_MD_step 21 = .ok (.iconst 1, 1) := by decide +kernel
theorem d_MD_step_22 : decode b_MD_step 22 = .ok (.invokestatic 62, 3) := by decide +kernel
theorem d_MD_step_25 : decode b_MD_step 25 = .ok (.ifCond .eq 7, 3) := by decide +kernel
theorem d_MD_step_28 : decode b_MD_step 28 = .ok (.iconst 1, 1) := by decide +kernel
theorem d_MD_step_29 : decode b_MD_step 29 = .ok (.goto 4, 3) := by decide +kernel
theorem d_MD_step_32 : decode b_MD_step 32 = .ok (.iconst 0, 1) := by decide +kernel
theorem d_MD_step_33 : decode b_MD_step 33 = .ok (.istore 4, 2) := by decide +kernel
theorem d_MD_step_35 : decode b_MD_step 35 = .ok (.iload 4, 2) := by decide +kernel
theorem d_MD_step_37 : decode b_MD_step 37 = .ok (.ifCond .ne 8, 3) := by decide +kernel
theorem d_MD_step_40 : decode b_MD_step 40 = .ok (.iload_n 2, 1) := by decide +kernel
theorem d_MD_step_41 : decode b_MD_step 41 = .ok (.iconst (-1), 1) := by decide +kernel
theorem d_MD_step_42 : decode b_MD_step 42 = .ok (.if_icmp .ne 7, 3) := by decide +kernel
theorem d_MD_step_45 : decode b_MD_step 45 = .ok (.iconst 0, 1) := by decide +kernel
theorem d_MD_step_46 : decode b_MD_step 46 = .ok (.goto 9, 3) := by decide +kernel
theorem d_MD_step_49 : decode b_MD_step 49 = .ok (.aload_n 0, 1) := by decide +kernel
theorem d_MD_step_50 : decode b_MD_step 50 = .ok (.iload_n 1, 1) := by decide +kernel
theorem d_MD_step_51 : decode b_MD_step 51 = .ok (.iload_n 2, 1) := by decide +kernel
theorem d_MD_step_52 : decode b_MD_step 52 = .ok (.invokevirtual 87, 3) := by decide +kernel
theorem d_MD_step_55 : decode b_MD_step 55 = .ok (.istore 5, 2) := by decide +kernel
theorem d_MD_step_57 : decode b_MD_step 57 = .ok (.aload_n 0, 1) := by decide +kernel
theorem d_MD_step_58 : decode b_MD_step 58 = .ok (.iload 4, 2) := by decide +kernel
theorem d_MD_step_60 : decode b_MD_step 60 = .ok (.iload 4, 2) := by decide +kernel
theorem d_MD_step_62 : decode b_MD_step 62 = .ok (.ifCond .ne 12, 3) := by decide +kernel
theorem d_MD_step_65 : decode b_MD_step 65 = .ok (.iload 5, 2) := by decide +kernel
theorem d_MD_step_67 : decode b_MD_step 67 = .ok (.ifCond .ge 7, 3) := by decide +kernel
theorem d_MD_step_70 : decode b_MD_step 70 = .ok (.iconst 1, 1) := by decide +kernel
theorem d_MD_step_71 : decode b_MD_step 71 = .ok (.goto 4, 3) := by decide +kernel
theorem d_MD_step_74 : decode b_MD_step 74 = .ok (.iconst 0, 1) := by decide +kernel
theorem d_MD_step_75 : decode b_MD_step 75 = .ok (.invokevirtual 58, 3) := by decide +kernel
theorem d_MD_step_78 : decode b_MD_step 78 = .ok (.ifCond .eq 5, 3) := by decide +kernel
theorem d_MD_step_81 : decode b_MD_step 81 = .ok (.iconst 0, 1) := by decide +kernel
theorem d_MD_step_82 : decode b_MD_step 82 = .ok (.ireturn, 1) := by decide +kernel
theorem d_MD_step_83 : decode b_MD_step 83 = .ok (.iload_n 2, 1) := by decide +kernel
theorem d_MD_step_84 : decode b_MD_step 84 = .ok (.iconst (-1), 1) := by decide +kernel
theorem d_MD_step_85 : decode b_MD_step 85 = .ok (.if_icmp .ne 9, 3) := by decide +kernel
theorem d_MD_step_88 : decode b_MD_step 88 = .ok (.aload_n 0, 1) := by decide +kernel
theorem d_MD_step_89 : decode b_MD_step 89 = .ok (.iload_n 1, 1) := by decide +kernel
theorem d_MD_step_90 : decode b_MD_step 90 = .ok (.invokevirtual 90, 3) := by decide +kernel
theorem d_MD_step_93 : decode b_MD_step 93 = .ok (.ireturn, 1) := by decide +kernel
theorem d_MD_step_94 : decode b_MD_step 94 = .ok (.iload_n 3, 1) := by decide +kernel
theorem d_MD_step_95 : decode b_MD_step 95 = .ok (.ifCond .ne 13, 3) := by decide +kernel
theorem d_MD_step_98 : decode b_MD_step 98 = .ok (.aload_n 0, 1) := by decide +kernel
theorem d_MD_step_99 : decode b_MD_step 99 = .ok (.iload_n 1, 1) := by decide +kernel
theorem d_MD_step_100 : decode b_MD_step 100 = .ok (.iload 5, 2) := by decide +kernel
theorem d_MD_step_102 : decode b_MD_step 102 = .ok (.invokevirtual 83, 3) := by decide +kernel
theorem d_MD_step_105 : decode b_MD_step 105 = .ok (.goto 17, 3) := by decide +kernel
theorem d_MD_step_108 : decode b_MD_step 108 = .ok (.aload_n 0, 1) := by decide +kernel
theorem d_MD_step_109 : decode b_MD_step 109 = .ok (.iload_n 1, 1) := by decide +kernel
theorem d_MD_step_110 : decode b_MD_step 110 = .ok (.iload 5, 2) := by decide +kernel
theorem d_MD_step_112 : decode b_MD_step 112 = .ok (.aload_n 0, 1) := by decide +kernel
theorem d_MD_step_113 : decode b_MD_step 113 = .ok (.iload_n 1, 1) := by decide +kernel
theorem d_MD_step_114 : decode b_MD_step 114 = .ok (.iload 5, 2) := by decide +kernel
theorem d_MD_step_116 : decode b_MD_step 116 = .ok (.invokevirtual 83, 3) := by decide +kernel
theorem d_MD_step_119 : decode b_MD_step 119 = .ok (.invokevirtual 75, 3) := by decide +kernel
theorem d_MD_step_122 : decode b_MD_step 122 = .ok (.ireturn, 1) := by decide +kernel
theorem d_MD_beginOf_0 : decode b_MD_beginOf 0 = .ok (.iconst 0, 1) := by decide +kernel
theorem d_MD_beginOf_1 : decode b_MD_beginOf 1 = .ok (.istore_n 3, 1) := by decide +kernel
theorem d_MD_beginOf_2 : decode b_MD_beginOf 2 = .ok (.iconst 0, 1) := by decide +kernel
theorem d_MD_beginOf_3 : decode b_MD_beginOf 3 = .ok (.istore 4, 2) := by decide +kernel
theorem d_MD_beginOf_5 : decode b_MD_beginOf 5 = .ok (.iload 4, 2) := by decide +kernel
theorem d_MD_beginOf_7 : decode b_MD_beginOf 7 = .ok (.iload_n 2, 1) := by decide +kernel
theorem d_MD_beginOf_8 : decode b_MD_beginOf 8 = .ok (.if_icmp .ge 25, 3) := by decide +kernel
theorem d_MD_beginOf_11 : decode b_MD_beginOf 11 = .ok (.aload_n 0, 1) := by decide +kernel
theorem d_MD_beginOf_12 : decode b_MD_beginOf 12 = .ok (.iload_n 1, 1) := by decide +kernel
theorem d_MD_beginOf_13 : decode b_MD_beginOf 13 = .ok (.iload_n 3, 1) := by decide +kernel
theorem d_MD_beginOf_14 : decode b_MD_beginOf 14 = .ok (.invokevirtual 83, 3) := by decide +kernel
theorem d_MD_beginOf_17 : decode b_MD_beginOf 17 = .ok (.ifCond .lt 16, 3) := by decide +kernel
theorem d_MD_beginOf_20 : decode b_MD_beginOf 20 = .ok (.aload_n 0, 1) := by decide +kernel
theorem d_MD_beginOf_21 : decode b_MD_beginOf 21 = .ok (.iload_n 1, 1) := by decide +kernel
theorem d_MD_beginOf_22 : decode b_MD_beginOf 22 = .ok (.iload_n 3, 1) := by decide +kernel
theorem d_MD_beginOf_23 : decode b_MD_beginOf 23 = .ok (.invokevirtual 83, 3) := by decide +kernel
theorem d_MD_beginOf_26 : decode b_MD_beginOf 26 = .ok (.istore_n 3, 1) := by decide +kernel
theorem d_MD_beginOf_27 : decode b_MD_beginOf 27 = .ok (.iinc 4 1, 3) := by decide +kernel
theorem d_MD_beginOf_30 : decode b_MD_beginOf 30 = .ok (.goto (-25), 3) := by decide +kernel
theorem d_MD_beginOf_33 : decode b_MD_beginOf 33 = .ok (.iload_n 2, 1) := by decide +kernel
theorem d_MD_beginOf_34 : decode b_MD_beginOf 34 = .ok (.ifCond .lt 22, 3) := by decide +kernel
theorem d_MD_beginOf_37 : decode b_MD_beginOf 37 = .ok (.iload 4, 2) := by decide +kernel
theorem d_MD_beginOf_39 : decode b_MD_beginOf 39 = .ok (.iload_n 2, 1) := by decide +kernel
theorem d_MD_beginOf_40 : decode b_MD_beginOf 40 = .ok (.if_icmp .ne 16, 3) := by decide +kernel
theorem d_MD_beginOf_43 : decode b_MD_beginOf 43 = .ok (.aload_n 0, 1) := by decide +kernel
theorem d_MD_beginOf_44 : decode b_MD_beginOf 44 = .ok (.iload_n 1, 1) := by decide +kernel
theorem d_MD_beginOf_45 : decode b_MD_beginOf 45 = .ok (.iload_n 3, 1) := by decide +kernel
theorem d_MD_beginOf_46 : decode b_MD_beginOf 46 = .ok (.invokevirtual 83, 3) := by decide +kernel
theorem d_MD_beginOf_49 : decode b_MD_beginOf 49 = .ok (.ifCond .lt 7, 3) := by decide +kernel
theorem d_MD_beginOf_52 : decode b_MD_beginOf 52 = .ok (.iload_n 3, 1) := by decide +kernel
theorem d_MD_beginOf_53 : decode b_MD_beginOf 53 = .ok (.goto 4, 3) := by decide +kernel
theorem d_MD_beginOf_56 : decode b_MD_beginOf 56 = .ok (.iconst (-1), 1) := by decide +kernel
theorem d_MD_beginOf_57 : decode b_MD_beginOf 57 = .ok (.ireturn, 1) := by decide +kernel
theorem d_MD_stepFrom_0 : decode b_MD_stepFrom 0 = .ok (.iconst (-1), 1) := by decide +kernel
theorem d_MD_stepFrom_1 : decode b_MD_stepFrom 1 = .ok (.istore_n 3, 1) := by decide +kernel
theorem d_MD_stepFrom_2 : decode b_MD_stepFrom 2 = .ok (.iload_n 2, 1) := by decide +kernel
theorem d_MD_stepFrom_3 : decode b_MD_stepFrom 3 = .ok (.iconst 1, 1) := by decide +kernel
theorem d_MD_stepFrom_4 : decode b_MD_stepFrom 4 = .ok (.iadd, 1) := by decide +kernel
theorem d_MD_stepFrom_5 : decode b_MD_stepFrom 5 = .ok (.istore 4, 2) := by decide +kernel
theorem d_MD_stepFrom_7 : decode b_MD_stepFrom 7 = .ok (.iload 4, 2) := by decide +kernel
theorem d_MD_stepFrom_9 : decode b_MD_stepFrom 9 = .ok (.aload_n 0, 1) := by decide +kernel
theorem d_MD_stepFrom_10 : decode b_MD_stepFrom 10 = .ok (.getfield 7, 3) := by decide +kernel
theorem d_MD_stepFrom_13 : decode b_MD_stepFrom 13 = .ok (.iload_n 1, 1) := by decide +kernel
theorem d_MD_stepFrom_14 : decode b_MD_stepFrom 14 = .ok (.iaload, 1) := by decide +kernel
theorem d_MD_stepFrom_15 : decode b_MD_stepFrom 15 = .ok (.if_icmp .gt 68, 3) := by decide +kernel
theorem d_MD_stepFrom_18 : decode b_MD_stepFrom 18 = .ok (.aload_n 0, 1) := by decide +kernel
theorem d_MD_stepFrom_19 : decode b_MD_stepFrom 19 = .ok (.iload_n 1, 1) := by decide +kernel
theorem d_MD_stepFrom_20 : decode b_MD_stepFrom 20 = .ok (.iload_n 2, 1) := by decide +kernel
theorem d_MD_stepFrom_21 : decode b_MD_stepFrom 21 = .ok (.iload 4, 2) := by decide +kernel
theorem d_MD_stepFrom_23 : decode b_MD_stepFrom 23 = .ok (.invokevirtual 71, 3) := by decide +kernel
theorem d_MD_stepFrom_26 : decode b_MD_stepFrom 26 = .ok (.lconst 0, 1) := by decide +kernel
theorem d_MD_stepFrom_27 : decode b_MD_stepFrom 27 = .ok (.lcmp, 1) := by decide +kernel
theorem d_MD_stepFrom_28 : decode b_MD_stepFrom 28 = .ok (.ifCond .gt 6, 3) := by decide +kernel
theorem d_MD_stepFrom_31 : decode b_MD_stepFrom 31 = .ok (.goto 46, 3) := by decide +kernel
theorem d_MD_stepFrom_34 : decode b_MD_stepFrom 34 = .ok (.iload_n 3, 1) := by decide +kernel
theorem d_MD_stepFrom_35 : decode b_MD_stepFrom 35 = .ok (.ifCond .lt 39, 3) := by decide +kernel
theorem d_MD_stepFrom_38 : decode b_MD_stepFrom 38 = .ok (.aload_n 0, 1) := by decide +kernel
theorem d_MD_stepFrom_39 : decode b_MD_stepFrom 39 = .ok (.iload_n 1, 1) := by decide +kernel
theorem d_MD_stepFrom_40 : decode b_MD_stepFrom 40 = .ok (.iload_n 2, 1) := by decide +kernel
theorem d_MD_stepFrom_41 : decode b_MD_stepFrom 41 = .ok (.iload 4, 2) := by decide +kernel
theorem d_MD_stepFrom_43 : decode b_MD_stepFrom 43 = .ok (.invokevirtual 71, 3) := by decide +kernel
theorem d_MD_stepFrom_46 : decode b_MD_stepFrom 46 = .ok (.aload_n 0, 1) := by decide +kernel
theorem d_MD_stepFrom_47 : decode b_MD_stepFrom 47 = .ok (.iload_n 1, 1) := by decide +kernel
theorem d_MD_stepFrom_48 : decode b_MD_stepFrom 48 = .ok (.iload_n 2, 1) := by decide +kernel
theorem d_MD_stepFrom_49 : decode b_MD_stepFrom 49 = .ok (.iload 4, 2) := by decide +kernel
theorem d_MD_stepFrom_51 : decode b_MD_stepFrom 51 = .ok (.invokevirtual 75, 3) := by decide +kernel
theorem d_MD_stepFrom_54 : decode b_MD_stepFrom 54 = .ok (.aload_n 0, 1) := by decide +kernel
theorem d_MD_stepFrom_55 : decode b_MD_stepFrom 55 = .ok (.iload_n 1, 1) := by decide +kernel
theorem d_MD_stepFrom_56 : decode b_MD_stepFrom 56 = .ok (.iload_n 2, 1) := by decide +kernel
theorem d_MD_stepFrom_57 : decode b_MD_stepFrom 57 = .ok (.iload_n 3, 1) := by decide +kernel
theorem d_MD_stepFrom_58 : decode b_MD_stepFrom 58 = .ok (.invokevirtual 71, 3) := by decide +kernel
theorem d_MD_stepFrom_61 : decode b_MD_stepFrom 61 = .ok (.aload_n 0, 1) := by decide +kernel
theorem d_MD_stepFrom_62 : decode b_MD_stepFrom 62 = .ok (.iload_n 1, 1) := by decide +kernel
theorem d_MD_stepFrom_63 : decode b_MD_stepFrom 63 = .ok (.iload_n 2, 1) := by decide +kernel
theorem d_MD_stepFrom_64 : decode b_MD_stepFrom 64 = .ok (.iload_n 3, 1) := by decide +kernel
theorem d_MD_stepFrom_65 : decode b_MD_stepFrom 65 = .ok (.invokevirtual 75, 3) := by decide +kernel
theorem d_MD_stepFrom_68 : decode b_MD_stepFrom 68 = .ok (.invokestatic 79, 3) := by decide +kernel
theorem d_MD_stepFrom_71 : decode b_MD_stepFrom 71 = .ok (.ifCond .lt 6, 3) := by decide +kernel
theorem d_MD_stepFrom_74 : decode b_MD_stepFrom 74 = .ok (.iload 4, 2) := by decide +kernel
theorem d_MD_stepFrom_76 : decode b_MD_stepFrom 76 = .ok (.istore_n 3, 1) := by decide +kernel
theorem d_MD_stepFrom_77 : decode b_MD_stepFrom 77 = .ok (.iinc 4 1, 3) := by decide +kernel
theorem d_MD_stepFrom_80 : decode b_MD_stepFrom 80 = .ok (.goto (-73), 3) := by decide +kernel
theorem d_MD_stepFrom_83 : decode b_MD_stepFrom 83 = .ok (.iload_n 3, 1) := by decide +kernel
theorem d_MD_stepFrom_84 : decode b_MD_stepFrom 84 = .ok (.ireturn, 1) := by decide +kernel
theorem d_MD_gainOf_0 : decode b_MD_gainOf 0 = .ok (.aload_n 0, 1) := by decide +kernel
theorem d_MD_gainOf_1 : decode b_MD_gainOf 1 = .ok (.getfield 19, 3) := by decide +kernel
theorem d_MD_gainOf_4 : decode b_MD_gainOf 4 = .ok (.aload_n 0, 1) := by decide +kernel
theorem d_MD_gainOf_5 : decode b_MD_gainOf 5 = .ok (.getfield 13, 3) := by decide +kernel
theorem d_MD_gainOf_8 : decode b_MD_gainOf 8 = .ok (.iload_n 1, 1) := by decide +kernel
theorem d_MD_gainOf_9 : decode b_MD_gainOf 9 = .ok (.iaload, 1) := by decide +kernel
theorem d_MD_gainOf_10 : decode b_MD_gainOf 10 = .ok (.iload_n 3, 1) := by decide +kernel
theorem d_MD_gainOf_11 : decode b_MD_gainOf 11 = .ok (.iadd, 1) := by decide +kernel
theorem d_MD_gainOf_12 : decode b_MD_gainOf 12 = .ok (.laload, 1) := by decide +kernel
theorem d_MD_gainOf_13 : decode b_MD_gainOf 13 = .ok (.aload_n 0, 1) := by decide +kernel
theorem d_MD_gainOf_14 : decode b_MD_gainOf 14 = .ok (.getfield 19, 3) := by decide +kernel
theorem d_MD_gainOf_17 : decode b_MD_gainOf 17 = .ok (.aload_n 0, 1) := by decide +kernel
theorem d_MD_gainOf_18 : decode b_MD_gainOf 18 = .ok (.getfield 13, 3) := by decide +kernel
theorem d_MD_gainOf_21 : decode b_MD_gainOf 21 = .ok (.iload_n 1, 1) := by decide +kernel
theorem d_MD_gainOf_22 : decode b_MD_gainOf 22 = .ok (.iaload, 1) := by decide +kernel
theorem d_MD_gainOf_23 : decode b_MD_gainOf 23 = .ok (.iload_n 2, 1) := by decide +kernel
theorem d_MD_gainOf_24 : decode b_MD_gainOf 24 = .ok (.iadd, 1) := by decide +kernel
theorem d_MD_gainOf_25 : decode b_MD_gainOf 25 = .ok (.laload, 1) := by decide +kernel
theorem d_MD_gainOf_26 : decode b_MD_gainOf 26 = .ok (.lsub, 1) := by decide +kernel
theorem d_MD_gainOf_27 : decode b_MD_gainOf 27 = .ok (.lreturn, 1) := by decide +kernel
theorem d_MD_bytesOf_0 : decode b_MD_bytesOf 0 = .ok (.aload_n 0, 1) := by decide +kernel
theorem d_MD_bytesOf_1 : decode b_MD_bytesOf 1 = .ok (.getfield 16, 3) := by decide +kernel
theorem d_MD_bytesOf_4 : decode b_MD_bytesOf 4 = .ok (.aload_n 0, 1) := by decide +kernel
theorem d_MD_bytesOf_5 : decode b_MD_bytesOf 5 = .ok (.getfield 13, 3) := by decide +kernel
theorem d_MD_bytesOf_8 : decode b_MD_bytesOf 8 = .ok (.iload_n 1, 1) := by decide +kernel
theorem d_MD_bytesOf_9 : decode b_MD_bytesOf 9 = .ok (.iaload, 1) := by decide +kernel
theorem d_MD_bytesOf_10 : decode b_MD_bytesOf 10 = .ok (.iload_n 3, 1) := by decide +kernel
theorem d_MD_bytesOf_11 : decode b_MD_bytesOf 11 = .ok (.iadd, 1) := by decide +kernel
theorem d_MD_bytesOf_12 : decode b_MD_bytesOf 12 = .ok (.iaload, 1) := by decide +kernel
theorem d_MD_bytesOf_13 : decode b_MD_bytesOf 13 = .ok (.aload_n 0, 1) := by decide +kernel
theorem d_MD_bytesOf_14 : decode b_MD_bytesOf 14 = .ok (.getfield 16, 3) := by decide +kernel
theorem d_MD_bytesOf_17 : decode b_MD_bytesOf 17 = .ok (.aload_n 0, 1) := by decide +kernel
theorem d_MD_bytesOf_18 : decode b_MD_bytesOf 18 = .ok (.getfield 13, 3) := by decide +kernel
theorem d_MD_bytesOf_21 : decode b_MD_bytesOf 21 = .ok (.iload_n 1, 1) := by decide +kernel
theorem d_MD_bytesOf_22 : decode b_MD_bytesOf 22 = .ok (.iaload, 1) := by decide +kernel
theorem d_MD_bytesOf_23 : decode b_MD_bytesOf 23 = .ok (.iload_n 2, 1) := by decide +kernel
theorem d_MD_bytesOf_24 : decode b_MD_bytesOf 24 = .ok (.iadd, 1) := by decide +kernel
theorem d_MD_bytesOf_25 : decode b_MD_bytesOf 25 = .ok (.iaload, 1) := by decide +kernel
theorem d_MD_bytesOf_26 : decode b_MD_bytesOf 26 = .ok (.isub, 1) := by decide +kernel
theorem d_MD_bytesOf_27 : decode b_MD_bytesOf 27 = .ok (.ireturn, 1) := by decide +kernel
theorem d_MD_compare_0 : decode b_MD_compare 0 = .ok (.iload_n 2, 1) := by decide +kernel
theorem d_MD_compare_1 : decode b_MD_compare 1 = .ok (.ifCond .eq 8, 3) := by decide +kernel
theorem d_MD_compare_4 : decode b_MD_compare 4 = .ok (.iload 5, 2) := by decide +kernel
theorem d_MD_compare_6 : decode b_MD_compare 6 = .ok (.ifCond .ne 23, 3) := by decide +kernel
theorem d_MD_compare_9 : decode b_MD_compare 9 = .ok (.iload_n 2, 1) := by decide +kernel
theorem d_MD_compare_10 : decode b_MD_compare 10 = .ok (.iload 5, 2) := by decide +kernel
theorem d_MD_compare_12 : decode b_MD_compare 12 = .ok (.if_icmp .ne 7, 3) := by decide +kernel
theorem d_MD_compare_15 : decode b_MD_compare 15 = .ok (.iconst 0, 1) := by decide +kernel
theorem d_MD_compare_16 : decode b_MD_compare 16 = .ok (.goto 12, 3) := by decide +kernel
theorem d_MD_compare_19 : decode b_MD_compare 19 = .ok (.iload_n 2, 1) := by decide +kernel
theorem d_MD_compare_20 : decode b_MD_compare 20 = .ok (.ifCond .ne 7, 3) := by decide +kernel
theorem d_MD_compare_23 : decode b_MD_compare 23 = .ok (.iconst 1, 1) := by decide +kernel
theorem d_MD_compare_24 : decode b_MD_compare 24 = .ok (.goto 4, 3) := by decide +kernel
theorem d_MD_compare_27 : decode b_MD_compare 27 = .ok (.iconst (-1), 1) := by decide +kernel
theorem d_MD_compare_28 : decode b_MD_compare 28 = .ok (.ireturn, 1) := by decide +kernel
theorem d_MD_compare_29 : decode b_MD_compare 29 = .ok (.lload_n 0, 1) := by decide +kernel
theorem d_MD_compare_30 : decode b_MD_compare 30 = .ok (.iload 5, 2) := by decide +kernel
theorem d_MD_compare_32 : decode b_MD_compare 32 = .ok (.i2l, 1) := by decide +kernel
theorem d_MD_compare_33 : decode b_MD_compare 33 = .ok (.lmul, 1) := by decide +kernel
theorem d_MD_compare_34 : decode b_MD_compare 34 = .ok (.lstore 6, 2) := by decide +kernel
theorem d_MD_compare_36 : decode b_MD_compare 36 = .ok (.lload_n 3, 1) := by decide +kernel
theorem d_MD_compare_37 : decode b_MD_compare 37 = .ok (.iload_n 2, 1) := by decide +kernel
theorem d_MD_compare_38 : decode b_MD_compare 38 = .ok (.i2l, 1) := by decide +kernel
theorem d_MD_compare_39 : decode b_MD_compare 39 = .ok (.lmul, 1) := by decide +kernel
theorem d_MD_compare_40 : decode b_MD_compare 40 = .ok (.lstore 8, 2) := by decide +kernel
theorem d_MD_compare_42 : decode b_MD_compare 42 = .ok (.lload 6, 2) := by decide +kernel
theorem d_MD_compare_44 : decode b_MD_compare 44 = .ok (.lload 8, 2) := by decide +kernel
theorem d_MD_compare_46 : decode b_MD_compare 46 = .ok (.lcmp, 1) := by decide +kernel
theorem d_MD_compare_47 : decode b_MD_compare 47 = .ok (.ifCond .ge 7, 3) := by decide +kernel
theorem d_MD_compare_50 : decode b_MD_compare 50 = .ok (.iconst (-1), 1) := by decide +kernel
theorem d_MD_compare_51 : decode b_MD_compare 51 = .ok (.goto 16, 3) := by decide +kernel
theorem d_MD_compare_54 : decode b_MD_compare 54 = .ok (.lload 6, 2) := by decide +kernel
theorem d_MD_compare_56 : decode b_MD_compare 56 = .ok (.lload 8, 2) := by decide +kernel
theorem d_MD_compare_58 : decode b_MD_compare 58 = .ok (.lcmp, 1) := by decide +kernel
theorem d_MD_compare_59 : decode b_MD_compare 59 = .ok (.ifCond .le 7, 3) := by decide +kernel
theorem d_MD_compare_62 : decode b_MD_compare 62 = .ok (.iconst 1, 1) := by decide +kernel
theorem d_MD_compare_63 : decode b_MD_compare 63 = .ok (.goto 4, 3) := by decide +kernel
theorem d_MD_compare_66 : decode b_MD_compare 66 = .ok (.iconst 0, 1) := by decide +kernel
theorem d_MD_compare_67 : decode b_MD_compare 67 = .ok (.ireturn, 1) := by decide +kernel
theorem d_MD_countOf_0 : decode b_MD_countOf 0 = .ok (.iconst 0, 1) := by decide +kernel
theorem d_MD_countOf_1 : decode b_MD_countOf 1 = .ok (.istore_n 2, 1) := by decide +kernel
theorem d_MD_countOf_2 : decode b_MD_countOf 2 = .ok (.aload_n 0, 1) := by decide +kernel
theorem d_MD_countOf_3 : decode b_MD_countOf 3 = .ok (.iload_n 1, 1) := by decide +kernel
theorem d_MD_countOf_4 : decode b_MD_countOf 4 = .ok (.iconst 0, 1) := by decide +kernel
theorem d_MD_countOf_5 : decode b_MD_countOf 5 = .ok (.invokevirtual 83, 3) := by decide +kernel
theorem d_MD_countOf_8 : decode b_MD_countOf 8 = .ok (.istore_n 3, 1) := by decide +kernel
theorem d_MD_countOf_9 : decode b_MD_countOf 9 = .ok (.iload_n 3, 1) := by decide +kernel
theorem d_MD_countOf_10 : decode b_MD_countOf 10 = .ok (.ifCond .lt 16, 3) := by decide +kernel
theorem d_MD_countOf_13 : decode b_MD_countOf 13 = .ok (.iinc 2 1, 3) := by decide +kernel
theorem d_MD_countOf_16 : decode b_MD_countOf 16 = .ok (.aload_n 0, 1) := by decide +kernel
theorem d_MD_countOf_17 : decode b_MD_countOf 17 = .ok (.iload_n 1, 1) := by decide +kernel
theorem d_MD_countOf_18 : decode b_MD_countOf 18 = .ok (.iload_n 3, 1) := by decide +kernel
theorem d_MD_countOf_19 : decode b_MD_countOf 19 = .ok (.invokevirtual 83, 3) := by decide +kernel
theorem d_MD_countOf_22 : decode b_MD_countOf 22 = .ok (.istore_n 3, 1) := by decide +kernel
theorem d_MD_countOf_23 : decode b_MD_countOf 23 = .ok (.goto (-14), 3) := by decide +kernel
theorem d_MD_countOf_26 : decode b_MD_countOf 26 = .ok (.iload_n 2, 1) := by decide +kernel
theorem d_MD_countOf_27 : decode b_MD_countOf 27 = .ok (.ireturn, 1) := by decide +kernel
theorem d_MD_gain_0 : decode b_MD_gain 0 = .ok (.iload_n 1, 1) := by decide +kernel
theorem d_MD_gain_1 : decode b_MD_gain 1 = .ok (.iconst 0, 1) := by decide +kernel
theorem d_MD_gain_2 : decode b_MD_gain 2 = .ok (.aload_n 0, 1) := by decide +kernel
theorem d_MD_gain_3 : decode b_MD_gain 3 = .ok (.getfield 46, 3) := by decide +kernel
theorem d_MD_gain_6 : decode b_MD_gain 6 = .ok (.iconst 1, 1) := by decide +kernel
theorem d_MD_gain_7 : decode b_MD_gain 7 = .ok (.isub, 1) := by decide +kernel
theorem d_MD_gain_8 : decode b_MD_gain 8 = .ok (.invokestatic 62, 3) := by decide +kernel
theorem d_MD_gain_11 : decode b_MD_gain 11 = .ok (.istore_n 3, 1) := by decide +kernel
theorem d_MD_gain_12 : decode b_MD_gain 12 = .ok (.iload_n 3, 1) := by decide +kernel
theorem d_MD_gain_13 : decode b_MD_gain 13 = .ok (.ifCond .eq 7, 3) := by decide +kernel
theorem d_MD_gain_16 : decode b_MD_gain 16 = .ok (.iconst 0, 1) := by decide +kernel
theorem d_MD_gain_17 : decode b_MD_gain 17 = .ok (.goto 9, 3) := by decide +kernel
theorem d_MD_gain_20 : decode b_MD_gain 20 = .ok (.aload_n 0, 1) := by decide +kernel
theorem d_MD_gain_21 : decode b_MD_gain 21 = .ok (.iload_n 1, 1) := by decide +kernel
theorem d_MD_gain_22 : decode b_MD_gain 22 = .ok (.iload_n 2, 1) := by decide +kernel
theorem d_MD_gain_23 : decode b_MD_gain 23 = .ok (.invokevirtual 87, 3) := by decide +kernel
theorem d_MD_gain_26 : decode b_MD_gain 26 = .ok (.istore 4, 2) := by decide +kernel
theorem d_MD_gain_28 : decode b_MD_gain 28 = .ok (.aload_n 0, 1) := by decide +kernel
theorem d_MD_gain_29 : decode b_MD_gain 29 = .ok (.iload_n 3, 1) := by decide +kernel
theorem d_MD_gain_30 : decode b_MD_gain 30 = .ok (.iload_n 3, 1) := by decide +kernel
theorem d_MD_gain_31 : decode b_MD_gain 31 = .ok (.ifCond .ne 12, 3) := by decide +kernel
theorem d_MD_gain_34 : decode b_MD_gain 34 = .ok (.iload 4, 2) := by decide +kernel
theorem d_MD_gain_36 : decode b_MD_gain 36 = .ok (.ifCond .ge 7, 3) := by decide +kernel
theorem d_MD_gain_39 : decode b_MD_gain 39 = .ok (.iconst 1, 1) := by decide +kernel
theorem d_MD_gain_40 : decode b_MD_gain 40 = .ok (.goto 4, 3) := by decide +kernel
theorem d_MD_gain_43 : decode b_MD_gain 43 = .ok (.iconst 0, 1) := by decide +kernel
theorem d_MD_gain_44 : decode b_MD_gain 44 = .ok (.invokevirtual 58, 3) := by decide +kernel
theorem d_MD_gain_47 : decode b_MD_gain 47 = .ok (.ifCond .eq 5, 3) := by decide +kernel
theorem d_MD_gain_50 : decode b_MD_gain 50 = .ok (.lconst 0, 1) := by decide +kernel
theorem d_MD_gain_51 : decode b_MD_gain 51 = .ok (.lreturn, 1) := by decide +kernel
theorem d_MD_gain_52 : decode b_MD_gain 52 = .ok (.aload_n 0, 1) := by decide +kernel
theorem d_MD_gain_53 : decode b_MD_gain 53 = .ok (.iload_n 1, 1) := by decide +kernel
theorem d_MD_gain_54 : decode b_MD_gain 54 = .ok (.iload 4, 2) := by decide +kernel
theorem d_MD_gain_56 : decode b_MD_gain 56 = .ok (.aload_n 0, 1) := by decide +kernel
theorem d_MD_gain_57 : decode b_MD_gain 57 = .ok (.iload_n 1, 1) := by decide +kernel
theorem d_MD_gain_58 : decode b_MD_gain 58 = .ok (.iload 4, 2) := by decide +kernel
theorem d_MD_gain_60 : decode b_MD_gain 60 = .ok (.invokevirtual 83, 3) := by decide +kernel
theorem d_MD_gain_63 : decode b_MD_gain 63 = .ok (.invokevirtual 71, 3) := by decide +kernel
theorem d_MD_gain_66 : decode b_MD_gain 66 = .ok (.lreturn, 1) := by decide +kernel
theorem d_MD_layer_0 : decode b_MD_layer 0 = .ok (.iload_n 1, 1) := by decide +kernel
theorem d_MD_layer_1 : decode b_MD_layer 1 = .ok (.iconst (-1), 1) := by decide +kernel
theorem d_MD_layer_2 : decode b_MD_layer 2 = .ok (.if_icmp .ge 7, 3) := by decide +kernel
theorem d_MD_layer_5 : decode b_MD_layer 5 = .ok (.iconst 1, 1) := by decide +kernel
theorem d_MD_layer_6 : decode b_MD_layer 6 = .ok (.goto 4, 3) := by decide +kernel
theorem d_MD_layer_9 : decode b_MD_layer 9 = .ok (.iconst 0, 1) := by decide +kernel
theorem d_MD_layer_10 : decode b_MD_layer 10 = .ok (.istore_n 2, 1) := by decide +kernel
theorem d_MD_layer_11 : decode b_MD_layer 11 = .ok (.aload_n 0, 1) := by decide +kernel
theorem d_MD_layer_12 : decode b_MD_layer 12 = .ok (.iload_n 2, 1) := by decide +kernel
theorem d_MD_layer_13 : decode b_MD_layer 13 = .ok (.iload_n 2, 1) := by decide +kernel
theorem d_MD_layer_14 : decode b_MD_layer 14 = .ok (.ifCond .ne 16, 3) := by decide +kernel
theorem d_MD_layer_17 : decode b_MD_layer 17 = .ok (.aload_n 0, 1) := by decide +kernel
theorem d_MD_layer_18 : decode b_MD_layer 18 = .ok (.getfield 55, 3) := by decide +kernel
theorem d_MD_layer_21 : decode b_MD_layer 21 = .ok (.bipush 64, 2) := by decide +kernel
theorem d_MD_layer_23 : decode b_MD_layer 23 = .ok (.if_icmp .ne 7, 3) := by decide +kernel
theorem d_MD_layer_26 : decode b_MD_layer 26 = .ok (.iconst 1, 1) := by decide +kernel
theorem d_MD_layer_27 : decode b_MD_layer 27 = .ok (.goto 4, 3) := by decide +kernel
theorem d_MD_layer_30 : decode b_MD_layer 30 = .ok (.iconst 0, 1) := by decide +kernel
theorem d_MD_layer_31 : decode b_MD_layer 31 = .ok (.invokevirtual 58, 3) := by decide +kernel
theorem d_MD_layer_34 : decode b_MD_layer 34 = .ok (.ifCond .eq 5, 3) := by decide +kernel
theorem d_MD_layer_37 : decode b_MD_layer 37 = .ok (.iconst 0, 1) := by decide +kernel
theorem d_MD_layer_38 : decode b_MD_layer 38 = .ok (.ireturn, 1) := by decide +kernel
theorem d_MD_layer_39 : decode b_MD_layer 39 = .ok (.aload_n 0, 1) := by decide +kernel
theorem d_MD_layer_40 : decode b_MD_layer 40 = .ok (.getfield 30, 3) := by decide +kernel
theorem d_MD_layer_43 : decode b_MD_layer 43 = .ok (.aload_n 0, 1) := by decide +kernel
theorem d_MD_layer_44 : decode b_MD_layer 44 = .ok (.getfield 55, 3) := by decide +kernel
theorem d_MD_layer_47 : decode b_MD_layer 47 = .ok (.ldc2_w 101, 3) := by decide +kernel
theorem d_MD_layer_50 : decode b_MD_layer 50 = .ok (.lastore, 1) := by decide +kernel
theorem d_MD_layer_51 : decode b_MD_layer 51 = .ok (.aload_n 0, 1) := by decide +kernel
theorem d_MD_layer_52 : decode b_MD_layer 52 = .ok (.getfield 33, 3) := by decide +kernel
theorem d_MD_layer_55 : decode b_MD_layer 55 = .ok (.aload_n 0, 1) := by decide +kernel
theorem d_MD_layer_56 : decode b_MD_layer 56 = .ok (.getfield 55, 3) := by decide +kernel
theorem d_MD_layer_59 : decode b_MD_layer 59 = .ok (.iconst (-1), 1) := by decide +kernel
theorem d_MD_layer_60 : decode b_MD_layer 60 = .ok (.iastore, 1) := by decide +kernel
theorem d_MD_layer_61 : decode b_MD_layer 61 = .ok (.iconst 0, 1) := by decide +kernel
theorem d_MD_layer_62 : decode b_MD_layer 62 = .ok (.istore_n 3, 1) := by decide +kernel
theorem d_MD_layer_63 : decode b_MD_layer 63 = .ok (.iload_n 3, 1) := by decide +kernel
theorem d_MD_layer_64 : decode b_MD_layer 64 = .ok (.aload_n 0, 1) := by decide +kernel
theorem d_MD_layer_65 : decode b_MD_layer 65 = .ok (.getfield 46, 3) := by decide +kernel
theorem d_MD_layer_68 : decode b_MD_layer 68 = .ok (.if_icmp .ge 83, 3) := by decide +kernel
theorem d_MD_layer_71 : decode b_MD_layer 71 = .ok (.aload_n 0, 1) := by decide +kernel
theorem d_MD_layer_72 : decode b_MD_layer 72 = .ok (.getfield 36, 3) := by decide +kernel
theorem d_MD_layer_75 : decode b_MD_layer 75 = .ok (.iload_n 3, 1) := by decide +kernel
theorem d_MD_layer_76 : decode b_MD_layer 76 = .ok (.iload_n 1, 1) := by decide +kernel
theorem d_MD_layer_77 : decode b_MD_layer 77 = .ok (.iconst (-1), 1) := by decide +kernel
theorem d_MD_layer_78 : decode b_MD_layer 78 = .ok (.if_icmp .ne 12, 3) := by decide +kernel
theorem d_MD_layer_81 : decode b_MD_layer 81 = .ok (.aload_n 0, 1) := by decide +kernel
theorem d_MD_layer_82 : decode b_MD_layer 82 = .ok (.getfield 7, 3) := by decide +kernel
theorem d_MD_layer_85 : decode b_MD_layer 85 = .ok (.iload_n 3, 1) := by decide +kernel
theorem d_MD_layer_86 : decode b_MD_layer 86 = .ok (.iaload, 1) := by decide +kernel
theorem d_MD_layer_87 : decode b_MD_layer 87 = .ok (.goto 31, 3) := by decide +kernel
theorem d_MD_layer_90 : decode b_MD_layer 90 = .ok (.aload_n 0, 1) := by decide +kernel
theorem d_MD_layer_91 : decode b_MD_layer 91 = .ok (.getfield 55, 3) := by decide +kernel
theorem d_MD_layer_94 : decode b_MD_layer 94 = .ok (.ifCond .ne 7, 3) := by decide +kernel
theorem d_MD_layer_97 : decode b_MD_layer 97 = .ok (.iconst 0, 1) := by decide +kernel
theorem d_MD_layer_98 : decode b_MD_layer 98 = .ok (.goto 20, 3) := by decide +kernel
theorem d_MD_layer_101 : decode b_MD_layer 101 = .ok (.aload_n 0, 1) := by decide +kernel
theorem d_MD_layer_102 : decode b_MD_layer 102 = .ok (.getfield 24, 3) := by decide +kernel
theorem d_MD_layer_105 : decode b_MD_layer 105 = .ok (.sipush 1024, 3) := by decide +kernel
theorem d_MD_layer_108 : decode b_MD_layer 108 = .ok (.aload_n 0, 1) := by decide +kernel
theorem d_MD_layer_109 : decode b_MD_layer 109 = .ok (.getfield 55, 3) := by decide +kernel
theorem d_MD_layer_112 : decode b_MD_layer 112 = .ok (.iconst 1, 1) := by decide +kernel
theorem d_MD_layer_113 : decode b_MD_layer 113 = .ok (.isub, 1) := by decide +kernel
theorem d_MD_layer_114 : decode b_MD_layer 114 = .ok (.imul, 1) := by decide +kernel
theorem d_MD_layer_115 : decode b_MD_layer 115 = .ok (.iload_n 3, 1) := by decide +kernel
theorem d_MD_layer_116 : decode b_MD_layer 116 = .ok (.iadd, 1) := by decide +kernel
theorem d_MD_layer_117 : decode b_MD_layer 117 = .ok (.iaload, 1) := by decide +kernel
theorem d_MD_layer_118 : decode b_MD_layer 118 = .ok (.iastore, 1) := by decide +kernel
theorem d_MD_layer_119 : decode b_MD_layer 119 = .ok (.aload_n 0, 1) := by decide +kernel
theorem d_MD_layer_120 : decode b_MD_layer 120 = .ok (.getfield 39, 3) := by decide +kernel
theorem d_MD_layer_123 : decode b_MD_layer 123 = .ok (.iload_n 3, 1) := by decide +kernel
theorem d_MD_layer_124 : decode b_MD_layer 124 = .ok (.iload_n 1, 1) := by decide +kernel
theorem d_MD_layer_125 : decode b_MD_layer 125 = .ok (.iconst (-1), 1) := by decide +kernel
theorem d_MD_layer_126 : decode b_MD_layer 126 = .ok (.if_icmp .ne 7, 3) := by decide +kernel
theorem d_MD_layer_129 : decode b_MD_layer 129 = .ok (.iconst (-1), 1) := by decide +kernel
theorem d_MD_layer_130 : decode b_MD_layer 130 = .ok (.goto 14, 3) := by decide +kernel
theorem d_MD_layer_133 : decode b_MD_layer 133 = .ok (.aload_n 0, 1) := by decide +kernel
theorem d_MD_layer_134 : decode b_MD_layer 134 = .ok (.iload_n 3, 1) := by decide +kernel
theorem d_MD_layer_135 : decode b_MD_layer 135 = .ok (.aload_n 0, 1) := by decide +kernel
theorem d_MD_layer_136 : decode b_MD_layer 136 = .ok (.getfield 36, 3) := by decide +kernel
theorem d_MD_layer_139 : decode b_MD_layer 139 = .ok (.iload_n 3, 1) := by decide +kernel
theorem d_MD_layer_140 : decode b_MD_layer 140 = .ok (.iaload, 1) := by decide +kernel
theorem d_MD_layer_141 : decode b_MD_layer 141 = .ok (.invokevirtual 83, 3) := by decide +kernel
theorem d_MD_layer_144 : decode b_MD_layer 144 = .ok (.iastore, 1) := by decide +kernel
theorem d_MD_layer_145 : decode b_MD_layer 145 = .ok (.iinc 3 1, 3) := by decide +kernel
theorem d_MD_layer_148 : decode b_MD_layer 148 = .ok (.goto (-85), 3) := by decide +kernel
theorem d_MD_layer_151 : decode b_MD_layer 151 = .ok (.aload_n 0, 1) := by decide +kernel
theorem d_MD_layer_152 : decode b_MD_layer 152 = .ok (.invokevirtual 103, 3) := by decide +kernel
theorem d_MD_layer_155 : decode b_MD_layer 155 = .ok (.istore_n 3, 1) := by decide +kernel
theorem d_MD_layer_156 : decode b_MD_layer 156 = .ok (.iload_n 3, 1) := by decide +kernel
theorem d_MD_layer_157 : decode b_MD_layer 157 = .ok (.ifCond .lt 33, 3) := by decide +kernel
theorem d_MD_layer_160 : decode b_MD_layer 160 = .ok (.aload_n 0, 1) := by decide +kernel
theorem d_MD_layer_161 : decode b_MD_layer 161 = .ok (.invokevirtual 107, 3) := by decide +kernel
theorem d_MD_layer_164 : decode b_MD_layer 164 = .ok (.i2l, 1) := by decide +kernel
theorem d_MD_layer_165 : decode b_MD_layer 165 = .ok (.aload_n 0, 1) := by decide +kernel
theorem d_MD_layer_166 : decode b_MD_layer 166 = .ok (.iload_n 3, 1) := by decide +kernel
theorem d_MD_layer_167 : decode b_MD_layer 167 = .ok (.invokevirtual 110, 3) := by decide +kernel
theorem d_MD_layer_170 : decode b_MD_layer 170 = .ok (.ladd, 1) := by decide +kernel
theorem d_MD_layer_171 : decode b_MD_layer 171 = .ok (.iload_n 1, 1) := by decide +kernel
theorem d_MD_layer_172 : decode b_MD_layer 172 = .ok (.i2l, 1) := by decide +kernel
theorem d_MD_layer_173 : decode b_MD_layer 173 = .ok (.lcmp, 1) := by decide +kernel
theorem d_MD_layer_174 : decode b_MD_layer 174 = .ok (.ifCond .gt 16, 3) := by decide +kernel
theorem d_MD_layer_177 : decode b_MD_layer 177 = .ok (.aload_n 0, 1) := by decide +kernel
theorem d_MD_layer_178 : decode b_MD_layer 178 = .ok (.iload_n 3, 1) := by decide +kernel
theorem d_MD_layer_179 : decode b_MD_layer 179 = .ok (.invokevirtual 114, 3) := by decide +kernel
theorem d_MD_layer_182 : decode b_MD_layer 182 = .ok (.aload_n 0, 1) := by decide +kernel
theorem d_MD_layer_183 : decode b_MD_layer 183 = .ok (.invokevirtual 103, 3) := by decide +kernel
theorem d_MD_layer_186 : decode b_MD_layer 186 = .ok (.istore_n 3, 1) := by decide +kernel
theorem d_MD_layer_187 : decode b_MD_layer 187 = .ok (.goto (-31), 3) := by decide +kernel
theorem d_MD_layer_190 : decode b_MD_layer 190 = .ok (.aload_n 0, 1) := by decide +kernel
theorem d_MD_layer_191 : decode b_MD_layer 191 = .ok (.getfield 27, 3) := by decide +kernel
theorem d_MD_layer_194 : decode b_MD_layer 194 = .ok (.aload_n 0, 1) := by decide +kernel
theorem d_MD_layer_195 : decode b_MD_layer 195 = .ok (.getfield 55, 3) := by decide +kernel
theorem d_MD_layer_198 : decode b_MD_layer 198 = .ok (.aload_n 0, 1) := by decide +kernel
theorem d_MD_layer_199 : decode b_MD_layer 199 = .ok (.invokevirtual 107, 3) := by decide +kernel
theorem d_MD_layer_202 : decode b_MD_layer 202 = .ok (.iastore, 1) := by decide +kernel
theorem d_MD_layer_203 : decode b_MD_layer 203 = .ok (.iconst 0, 1) := by decide +kernel
theorem d_MD_layer_204 : decode b_MD_layer 204 = .ok (.istore 4, 2) := by decide +kernel
theorem d_MD_layer_206 : decode b_MD_layer 206 = .ok (.iload 4, 2) := by decide +kernel
theorem d_MD_layer_208 : decode b_MD_layer 208 = .ok (.aload_n 0, 1) := by decide +kernel
theorem d_MD_layer_209 : decode b_MD_layer 209 = .ok (.getfield 46, 3) := by decide +kernel
theorem d_MD_layer_212 : decode b_MD_layer 212 = .ok (.if_icmp .ge 32, 3) := by decide +kernel
theorem d_MD_layer_215 : decode b_MD_layer 215 = .ok (.aload_n 0, 1) := by decide +kernel
theorem d_MD_layer_216 : decode b_MD_layer 216 = .ok (.getfield 24, 3) := by decide +kernel
theorem d_MD_layer_219 : decode b_MD_layer 219 = .ok (.sipush 1024, 3) := by decide +kernel
theorem d_MD_layer_222 : decode b_MD_layer 222 = .ok (.aload_n 0, 1) := by decide +kernel
theorem d_MD_layer_223 : decode b_MD_layer 223 = .ok (.getfield 55, 3) := by decide +kernel
theorem d_MD_layer_226 : decode b_MD_layer 226 = .ok (.imul, 1) := by decide +kernel
theorem d_MD_layer_227 : decode b_MD_layer 227 = .ok (.iload 4, 2) := by decide +kernel
theorem d_MD_layer_229 : decode b_MD_layer 229 = .ok (.iadd, 1) := by decide +kernel
theorem d_MD_layer_230 : decode b_MD_layer 230 = .ok (.aload_n 0, 1) := by decide +kernel
theorem d_MD_layer_231 : decode b_MD_layer 231 = .ok (.getfield 36, 3) := by decide +kernel
theorem d_MD_layer_234 : decode b_MD_layer 234 = .ok (.iload 4, 2) := by decide +kernel
theorem d_MD_layer_236 : decode b_MD_layer 236 = .ok (.iaload, 1) := by decide +kernel
theorem d_MD_layer_237 : decode b_MD_layer 237 = .ok (.iastore, 1) := by decide +kernel
theorem d_MD_layer_238 : decode b_MD_layer 238 = .ok (.iinc 4 1, 3) := by decide +kernel
theorem d_MD_layer_241 : decode b_MD_layer 241 = .ok (.goto (-35), 3) := by decide +kernel
theorem d_MD_layer_244 : decode b_MD_layer 244 = .ok (.aload_n 0, 1) := by decide +kernel
theorem d_MD_layer_245 : decode b_MD_layer 245 = .ok (.dup, 1) := by decide +kernel
theorem d_MD_layer_246 : decode b_MD_layer 246 = .ok (.getfield 55, 3) := by decide +kernel
theorem d_MD_layer_249 : decode b_MD_layer 249 = .ok (.iconst 1, 1) := by decide +kernel
theorem d_MD_layer_250 : decode b_MD_layer 250 = .ok (.iadd, 1) := by decide +kernel
theorem d_MD_layer_251 : decode b_MD_layer 251 = .ok (.putfield 55, 3) := by decide +kernel
theorem d_MD_layer_254 : decode b_MD_layer 254 = .ok (.aload_n 0, 1) := by decide +kernel
theorem d_MD_layer_255 : decode b_MD_layer 255 = .ok (.getfield 27, 3) := by decide +kernel
theorem d_MD_layer_258 : decode b_MD_layer 258 = .ok (.aload_n 0, 1) := by decide +kernel
theorem d_MD_layer_259 : decode b_MD_layer 259 = .ok (.getfield 55, 3) := by decide +kernel
theorem d_MD_layer_262 : decode b_MD_layer 262 = .ok (.iconst 1, 1) := by decide +kernel
theorem d_MD_layer_263 : decode b_MD_layer 263 = .ok (.isub, 1) := by decide +kernel
theorem d_MD_layer_264 : decode b_MD_layer 264 = .ok (.iaload, 1) := by decide +kernel
theorem d_MD_layer_265 : decode b_MD_layer 265 = .ok (.ireturn, 1) := by decide +kernel
theorem d_MD_steepest_0 : decode b_MD_steepest 0 = .ok (.iconst (-1), 1) := by decide +kernel
theorem d_MD_steepest_1 : decode b_MD_steepest 1 = .ok (.istore_n 1, 1) := by decide +kernel
theorem d_MD_steepest_2 : decode b_MD_steepest 2 = .ok (.iconst 0, 1) := by decide +kernel
theorem d_MD_steepest_3 : decode b_MD_steepest 3 = .ok (.istore_n 2, 1) := by decide +kernel
theorem d_MD_steepest_4 : decode b_MD_steepest 4 = .ok (.iload_n 2, 1) := by decide +kernel
theorem d_MD_steepest_5 : decode b_MD_steepest 5 = .ok (.aload_n 0, 1) := by decide +kernel
theorem d_MD_steepest_6 : decode b_MD_steepest 6 = .ok (.getfield 46, 3) := by decide +kernel
theorem d_MD_steepest_9 : decode b_MD_steepest 9 = .ok (.if_icmp .ge 36, 3) := by decide +kernel
theorem d_MD_steepest_12 : decode b_MD_steepest 12 = .ok (.aload_n 0, 1) := by decide +kernel
theorem d_MD_steepest_13 : decode b_MD_steepest 13 = .ok (.getfield 39, 3) := by decide +kernel
theorem d_MD_steepest_16 : decode b_MD_steepest 16 = .ok (.iload_n 2, 1) := by decide +kernel
theorem d_MD_steepest_17 : decode b_MD_steepest 17 = .ok (.iaload, 1) := by decide +kernel
theorem d_MD_steepest_18 : decode b_MD_steepest 18 = .ok (.ifCond .ge 6, 3) := by decide +kernel
theorem d_MD_steepest_21 : decode b_MD_steepest 21 = .ok (.goto 18, 3) := by decide +kernel
theorem d_MD_steepest_24 : decode b_MD_steepest 24 = .ok (.iload_n 1, 1) := by decide +kernel
theorem d_MD_steepest_25 : decode b_MD_steepest 25 = .ok (.ifCond .lt 12, 3) := by decide +kernel
theorem d_MD_steepest_28 : decode b_MD_steepest 28 = .ok (.aload_n 0, 1) := by decide +kernel
theorem d_MD_steepest_29 : decode b_MD_steepest 29 = .ok (.iload_n 2, 1) := by decide +kernel
theorem d_MD_steepest_30 : decode b_MD_steepest 30 = .ok (.iload_n 1, 1) := by decide +kernel
theorem d_MD_steepest_31 : decode b_MD_steepest 31 = .ok (.invokevirtual 94, 3) := by decide +kernel
theorem d_MD_steepest_34 : decode b_MD_steepest 34 = .ok (.ifCond .le 5, 3) := by decide +kernel
theorem d_MD_steepest_37 : decode b_MD_steepest 37 = .ok (.iload_n 2, 1) := by decide +kernel
theorem d_MD_steepest_38 : decode b_MD_steepest 38 = .ok (.istore_n 1, 1) := by decide +kernel
theorem d_MD_steepest_39 : decode b_MD_steepest 39 = .ok (.iinc 2 1, 3) := by decide +kernel
theorem d_MD_steepest_42 : decode b_MD_steepest 42 = .ok (.goto (-38), 3) := by decide +kernel
theorem d_MD_steepest_45 : decode b_MD_steepest 45 = .ok (.iload_n 1, 1) := by decide +kernel
theorem d_MD_steepest_46 : decode b_MD_steepest 46 = .ok (.ireturn, 1) := by decide +kernel
theorem d_MD_against_0 : decode b_MD_against 0 = .ok (.aload_n 0, 1) := by decide +kernel
theorem d_MD_against_1 : decode b_MD_against 1 = .ok (.iload_n 1, 1) := by decide +kernel
theorem d_MD_against_2 : decode b_MD_against 2 = .ok (.aload_n 0, 1) := by decide +kernel
theorem d_MD_against_3 : decode b_MD_against 3 = .ok (.getfield 36, 3) := by decide +kernel
theorem d_MD_against_6 : decode b_MD_against 6 = .ok (.iload_n 1, 1) := by decide +kernel
theorem d_MD_against_7 : decode b_MD_against 7 = .ok (.iaload, 1) := by decide +kernel
theorem d_MD_against_8 : decode b_MD_against 8 = .ok (.aload_n 0, 1) := by decide +kernel
theorem d_MD_against_9 : decode b_MD_against 9 = .ok (.getfield 39, 3) := by decide +kernel
theorem d_MD_against_12 : decode b_MD_against 12 = .ok (.iload_n 1, 1) := by decide +kernel
theorem d_MD_against_13 : decode b_MD_against 13 = .ok (.iaload, 1) := by decide +kernel
theorem d_MD_against_14 : decode b_MD_against 14 = .ok (.invokevirtual 71, 3) := by decide +kernel
theorem d_MD_against_17 : decode b_MD_against 17 = .ok (.aload_n 0, 1) := by decide +kernel
theorem d_MD_against_18 : decode b_MD_against 18 = .ok (.iload_n 1, 1) := by decide +kernel
theorem d_MD_against_19 : decode b_MD_against 19 = .ok (.aload_n 0, 1) := by decide +kernel
theorem d_MD_against_20 : decode b_MD_against 20 = .ok (.getfield 36, 3) := by decide +kernel
theorem d_MD_against_23 : decode b_MD_against 23 = .ok (.iload_n 1, 1) := by decide +kernel
theorem d_MD_against_24 : decode b_MD_against 24 = .ok (.iaload, 1) := by decide +kernel
theorem d_MD_against_25 : decode b_MD_against 25 = .ok (.aload_n 0, 1) := by decide +kernel
theorem d_MD_against_26 : decode b_MD_against 26 = .ok (.getfield 39, 3) := by decide +kernel
theorem d_MD_against_29 : decode b_MD_against 29 = .ok (.iload_n 1, 1) := by decide +kernel
theorem d_MD_against_30 : decode b_MD_against 30 = .ok (.iaload, 1) := by decide +kernel
theorem d_MD_against_31 : decode b_MD_against 31 = .ok (.invokevirtual 75, 3) := by decide +kernel
theorem d_MD_against_34 : decode b_MD_against 34 = .ok (.aload_n 0, 1) := by decide +kernel
theorem d_MD_against_35 : decode b_MD_against 35 = .ok (.iload_n 2, 1) := by decide +kernel
theorem d_MD_against_36 : decode b_MD_against 36 = .ok (.aload_n 0, 1) := by decide +kernel
theorem d_MD_against_37 : decode b_MD_against 37 = .ok (.getfield 36, 3) := by decide +kernel
theorem d_MD_against_40 : decode b_MD_against 40 = .ok (.iload_n 2, 1) := by decide +kernel
theorem d_MD_against_41 : decode b_MD_against 41 = .ok (.iaload, 1) := by decide +kernel
theorem d_MD_against_42 : decode b_MD_against 42 = .ok (.aload_n 0, 1) := by decide +kernel
theorem d_MD_against_43 : decode b_MD_against 43 = .ok (.getfield 39, 3) := by decide +kernel
theorem d_MD_against_46 : decode b_MD_against 46 = .ok (.iload_n 2, 1) := by decide +kernel
theorem d_MD_against_47 : decode b_MD_against 47 = .ok (.iaload, 1) := by decide +kernel
theorem d_MD_against_48 : decode b_MD_against 48 = .ok (.invokevirtual 71, 3) := by decide +kernel
theorem d_MD_against_51 : decode b_MD_against 51 = .ok (.aload_n 0, 1) := by decide +kernel
theorem d_MD_against_52 : decode b_MD_against 52 = .ok (.iload_n 2, 1) := by decide +kernel
theorem d_MD_against_53 : decode b_MD_against 53 = .ok (.aload_n 0, 1) := by decide +kernel
theorem d_MD_against_54 : decode b_MD_against 54 = .ok (.getfield 36, 3) := by decide +kernel
theorem d_MD_against_57 : decode b_MD_against 57 = .ok (.iload_n 2, 1) := by decide +kernel
theorem d_MD_against_58 : decode b_MD_against 58 = .ok (.iaload, 1) := by decide +kernel
theorem d_MD_against_59 : decode b_MD_against 59 = .ok (.aload_n 0, 1) := by decide +kernel
theorem d_MD_against_60 : decode b_MD_against 60 = .ok (.getfield 39, 3) := by decide +kernel
theorem d_MD_against_63 : decode b_MD_against 63 = .ok (.iload_n 2, 1) := by decide +kernel
theorem d_MD_against_64 : decode b_MD_against 64 = .ok (.iaload, 1) := by decide +kernel
theorem d_MD_against_65 : decode b_MD_against 65 = .ok (.invokevirtual 75, 3) := by decide +kernel
theorem d_MD_against_68 : decode b_MD_against 68 = .ok (.invokestatic 79, 3) := by decide +kernel
theorem d_MD_against_71 : decode b_MD_against 71 = .ok (.ireturn, 1) := by decide +kernel
theorem d_MD_sumOf_0 : decode b_MD_sumOf 0 = .ok (.iconst 0, 1) := by decide +kernel
theorem d_MD_sumOf_1 : decode b_MD_sumOf 1 = .ok (.istore_n 1, 1) := by decide +kernel
theorem d_MD_sumOf_2 : decode b_MD_sumOf 2 = .ok (.iconst 0, 1) := by decide +kernel
theorem d_MD_sumOf_3 : decode b_MD_sumOf 3 = .ok (.istore_n 2, 1) := by decide +kernel
theorem d_MD_sumOf_4 : decode b_MD_sumOf 4 = .ok (.iload_n 2, 1) := by decide +kernel
theorem d_MD_sumOf_5 : decode b_MD_sumOf 5 = .ok (.aload_n 0, 1) := by decide +kernel
theorem d_MD_sumOf_6 : decode b_MD_sumOf 6 = .ok (.getfield 46, 3) := by decide +kernel
theorem d_MD_sumOf_9 : decode b_MD_sumOf 9 = .ok (.if_icmp .ge 24, 3) := by decide +kernel
theorem d_MD_sumOf_12 : decode b_MD_sumOf 12 = .ok (.iload_n 1, 1) := by decide +kernel
theorem d_MD_sumOf_13 : decode b_MD_sumOf 13 = .ok (.aload_n 0, 1) := by decide +kernel
theorem d_MD_sumOf_14 : decode b_MD_sumOf 14 = .ok (.iload_n 2, 1) := by decide +kernel
theorem d_MD_sumOf_15 : decode b_MD_sumOf 15 = .ok (.iconst 0, 1) := by decide +kernel
theorem d_MD_sumOf_16 : decode b_MD_sumOf 16 = .ok (.aload_n 0, 1) := by decide +kernel
theorem d_MD_sumOf_17 : decode b_MD_sumOf 17 = .ok (.getfield 36, 3) := by decide +kernel
theorem d_MD_sumOf_20 : decode b_MD_sumOf 20 = .ok (.iload_n 2, 1) := by decide +kernel
theorem d_MD_sumOf_21 : decode b_MD_sumOf 21 = .ok (.iaload, 1) := by decide +kernel
theorem d_MD_sumOf_22 : decode b_MD_sumOf 22 = .ok (.invokevirtual 75, 3) := by decide +kernel
theorem d_MD_sumOf_25 : decode b_MD_sumOf 25 = .ok (.iadd, 1) := by decide +kernel
theorem d_MD_sumOf_26 : decode b_MD_sumOf 26 = .ok (.istore_n 1, 1) := by decide +kernel
theorem d_MD_sumOf_27 : decode b_MD_sumOf 27 = .ok (.iinc 2 1, 3) := by decide +kernel
theorem d_MD_sumOf_30 : decode b_MD_sumOf 30 = .ok (.goto (-26), 3) := by decide +kernel
theorem d_MD_sumOf_33 : decode b_MD_sumOf 33 = .ok (.iload_n 1, 1) := by decide +kernel
theorem d_MD_sumOf_34 : decode b_MD_sumOf 34 = .ok (.ireturn, 1) := by decide +kernel
theorem d_MD_costOf_0 : decode b_MD_costOf 0 = .ok (.lconst 0, 1) := by decide +kernel
theorem d_MD_costOf_1 : decode b_MD_costOf 1 = .ok (.lstore_n 2, 1) := by decide +kernel
theorem d_MD_costOf_2 : decode b_MD_costOf 2 = .ok (.iconst 0, 1) := by decide +kernel
theorem d_MD_costOf_3 : decode b_MD_costOf 3 = .ok (.istore 4, 2) := by decide +kernel
theorem d_MD_costOf_5 : decode b_MD_costOf 5 = .ok (.iload 4, 2) := by decide +kernel
theorem d_MD_costOf_7 : decode b_MD_costOf 7 = .ok (.aload_n 0, 1) := by decide +kernel
theorem d_MD_costOf_8 : decode b_MD_costOf 8 = .ok (.getfield 46, 3) := by decide +kernel
theorem d_MD_costOf_11 : decode b_MD_costOf 11 = .ok (.if_icmp .ge 53, 3) := by decide +kernel
theorem d_MD_costOf_14 : decode b_MD_costOf 14 = .ok (.aload_n 0, 1) := by decide +kernel
theorem d_MD_costOf_15 : decode b_MD_costOf 15 = .ok (.getfield 39, 3) := by decide +kernel
theorem d_MD_costOf_18 : decode b_MD_costOf 18 = .ok (.iload 4, 2) := by decide +kernel
theorem d_MD_costOf_20 : decode b_MD_costOf 20 = .ok (.iaload, 1) := by decide +kernel
theorem d_MD_costOf_21 : decode b_MD_costOf 21 = .ok (.ifCond .lt 37, 3) := by decide +kernel
theorem d_MD_costOf_24 : decode b_MD_costOf 24 = .ok (.aload_n 0, 1) := by decide +kernel
theorem d_MD_costOf_25 : decode b_MD_costOf 25 = .ok (.iload 4, 2) := by decide +kernel
theorem d_MD_costOf_27 : decode b_MD_costOf 27 = .ok (.iload_n 1, 1) := by decide +kernel
theorem d_MD_costOf_28 : decode b_MD_costOf 28 = .ok (.invokevirtual 94, 3) := by decide +kernel
theorem d_MD_costOf_31 : decode b_MD_costOf 31 = .ok (.ifCond .ne 27, 3) := by decide +kernel
theorem d_MD_costOf_34 : decode b_MD_costOf 34 = .ok (.lload_n 2, 1) := by decide +kernel
theorem d_MD_costOf_35 : decode b_MD_costOf 35 = .ok (.aload_n 0, 1) := by decide +kernel
theorem d_MD_costOf_36 : decode b_MD_costOf 36 = .ok (.iload 4, 2) := by decide +kernel
theorem d_MD_costOf_38 : decode b_MD_costOf 38 = .ok (.aload_n 0, 1) := by decide +kernel
theorem d_MD_costOf_39 : decode b_MD_costOf 39 = .ok (.getfield 36, 3) := by decide +kernel
theorem d_MD_costOf_42 : decode b_MD_costOf 42 = .ok (.iload 4, 2) := by decide +kernel
theorem d_MD_costOf_44 : decode b_MD_costOf 44 = .ok (.iaload, 1) := by decide +kernel
theorem d_MD_costOf_45 : decode b_MD_costOf 45 = .ok (.aload_n 0, 1) := by decide +kernel
theorem d_MD_costOf_46 : decode b_MD_costOf 46 = .ok (.getfield 39, 3) := by decide +kernel
theorem d_MD_costOf_49 : decode b_MD_costOf 49 = .ok (.iload 4, 2) := by decide +kernel
theorem d_MD_costOf_51 : decode b_MD_costOf 51 = .ok (.iaload, 1) := by decide +kernel
theorem d_MD_costOf_52 : decode b_MD_costOf 52 = .ok (.invokevirtual 75, 3) := by decide +kernel
theorem d_MD_costOf_55 : decode b_MD_costOf 55 = .ok (.i2l, 1) := by decide +kernel
theorem d_MD_costOf_56 : decode b_MD_costOf 56 = .ok (.ladd, 1) := by decide +kernel
theorem d_MD_costOf_57 : decode b_MD_costOf 57 = .ok (.lstore_n 2, 1) := by decide +kernel
theorem d_MD_costOf_58 : decode b_MD_costOf 58 = .ok (.iinc 4 1, 3) := by decide +kernel
theorem d_MD_costOf_61 : decode b_MD_costOf 61 = .ok (.goto (-56), 3) := by decide +kernel
theorem d_MD_costOf_64 : decode b_MD_costOf 64 = .ok (.lload_n 2, 1) := by decide +kernel
theorem d_MD_costOf_65 : decode b_MD_costOf 65 = .ok (.lreturn, 1) := by decide +kernel
theorem d_MD_take_0 : decode b_MD_take 0 = .ok (.aload_n 0, 1) := by decide +kernel
theorem d_MD_take_1 : decode b_MD_take 1 = .ok (.getfield 30, 3) := by decide +kernel
theorem d_MD_take_4 : decode b_MD_take 4 = .ok (.aload_n 0, 1) := by decide +kernel
theorem d_MD_take_5 : decode b_MD_take 5 = .ok (.getfield 55, 3) := by decide +kernel
theorem d_MD_take_8 : decode b_MD_take 8 = .ok (.aload_n 0, 1) := by decide +kernel
theorem d_MD_take_9 : decode b_MD_take 9 = .ok (.iload_n 1, 1) := by decide +kernel
theorem d_MD_take_10 : decode b_MD_take 10 = .ok (.aload_n 0, 1) := by decide +kernel
theorem d_MD_take_11 : decode b_MD_take 11 = .ok (.getfield 36, 3) := by decide +kernel
theorem d_MD_take_14 : decode b_MD_take 14 = .ok (.iload_n 1, 1) := by decide +kernel
theorem d_MD_take_15 : decode b_MD_take 15 = .ok (.iaload, 1) := by decide +kernel
theorem d_MD_take_16 : decode b_MD_take 16 = .ok (.aload_n 0, 1) := by decide +kernel
theorem d_MD_take_17 : decode b_MD_take 17 = .ok (.getfield 39, 3) := by decide +kernel
theorem d_MD_take_20 : decode b_MD_take 20 = .ok (.iload_n 1, 1) := by decide +kernel
theorem d_MD_take_21 : decode b_MD_take 21 = .ok (.iaload, 1) := by decide +kernel
theorem d_MD_take_22 : decode b_MD_take 22 = .ok (.invokevirtual 71, 3) := by decide +kernel
theorem d_MD_take_25 : decode b_MD_take 25 = .ok (.lastore, 1) := by decide +kernel
theorem d_MD_take_26 : decode b_MD_take 26 = .ok (.aload_n 0, 1) := by decide +kernel
theorem d_MD_take_27 : decode b_MD_take 27 = .ok (.getfield 33, 3) := by decide +kernel
theorem d_MD_take_30 : decode b_MD_take 30 = .ok (.aload_n 0, 1) := by decide +kernel
theorem d_MD_take_31 : decode b_MD_take 31 = .ok (.getfield 55, 3) := by decide +kernel
theorem d_MD_take_34 : decode b_MD_take 34 = .ok (.aload_n 0, 1) := by decide +kernel
theorem d_MD_take_35 : decode b_MD_take 35 = .ok (.iload_n 1, 1) := by decide +kernel
theorem d_MD_take_36 : decode b_MD_take 36 = .ok (.aload_n 0, 1) := by decide +kernel
theorem d_MD_take_37 : decode b_MD_take 37 = .ok (.getfield 36, 3) := by decide +kernel
theorem d_MD_take_40 : decode b_MD_take 40 = .ok (.iload_n 1, 1) := by decide +kernel
theorem d_MD_take_41 : decode b_MD_take 41 = .ok (.iaload, 1) := by decide +kernel
theorem d_MD_take_42 : decode b_MD_take 42 = .ok (.aload_n 0, 1) := by decide +kernel
theorem d_MD_take_43 : decode b_MD_take 43 = .ok (.getfield 39, 3) := by decide +kernel
theorem d_MD_take_46 : decode b_MD_take 46 = .ok (.iload_n 1, 1) := by decide +kernel
theorem d_MD_take_47 : decode b_MD_take 47 = .ok (.iaload, 1) := by decide +kernel
theorem d_MD_take_48 : decode b_MD_take 48 = .ok (.invokevirtual 75, 3) := by decide +kernel
theorem d_MD_take_51 : decode b_MD_take 51 = .ok (.iastore, 1) := by decide +kernel
theorem d_MD_take_52 : decode b_MD_take 52 = .ok (.iconst 0, 1) := by decide +kernel
theorem d_MD_take_53 : decode b_MD_take 53 = .ok (.istore_n 2, 1) := by decide +kernel
theorem d_MD_take_54 : decode b_MD_take 54 = .ok (.iload_n 2, 1) := by decide +kernel
theorem d_MD_take_55 : decode b_MD_take 55 = .ok (.aload_n 0, 1) := by decide +kernel
theorem d_MD_take_56 : decode b_MD_take 56 = .ok (.getfield 46, 3) := by decide +kernel
theorem d_MD_take_59 : decode b_MD_take 59 = .ok (.if_icmp .ge 40, 3) := by decide +kernel
theorem d_MD_take_62 : decode b_MD_take 62 = .ok (.iload_n 2, 1) := by decide +kernel
theorem d_MD_take_63 : decode b_MD_take 63 = .ok (.iload_n 1, 1) := by decide +kernel
theorem d_MD_take_64 : decode b_MD_take 64 = .ok (.if_icmp .eq 29, 3) := by decide +kernel
theorem d_MD_take_67 : decode b_MD_take 67 = .ok (.aload_n 0, 1) := by decide +kernel
theorem d_MD_take_68 : decode b_MD_take 68 = .ok (.getfield 39, 3) := by decide +kernel
theorem d_MD_take_71 : decode b_MD_take 71 = .ok (.iload_n 2, 1) := by decide +kernel
theorem d_MD_take_72 : decode b_MD_take 72 = .ok (.iaload, 1) := by decide +kernel
theorem d_MD_take_73 : decode b_MD_take 73 = .ok (.ifCond .lt 20, 3) := by decide +kernel
theorem d_MD_take_76 : decode b_MD_take 76 = .ok (.aload_n 0, 1) := by decide +kernel
theorem d_MD_take_77 : decode b_MD_take 77 = .ok (.iload_n 2, 1) := by decide +kernel
theorem d_MD_take_78 : decode b_MD_take 78 = .ok (.iload_n 1, 1) := by decide +kernel
theorem d_MD_take_79 : decode b_MD_take 79 = .ok (.invokevirtual 94, 3) := by decide +kernel
theorem d_MD_take_82 : decode b_MD_take 82 = .ok (.ifCond .eq 6, 3) := by decide +kernel
theorem d_MD_take_85 : decode b_MD_take 85 = .ok (.goto 8, 3) := by decide +kernel
theorem d_MD_take_88 : decode b_MD_take 88 = .ok (.aload_n 0, 1) := by decide +kernel
theorem d_MD_take_89 : decode b_MD_take 89 = .ok (.iload_n 2, 1) := by decide +kernel
theorem d_MD_take_90 : decode b_MD_take 90 = .ok (.invokevirtual 97, 3) := by decide +kernel
theorem d_MD_take_93 : decode b_MD_take 93 = .ok (.iinc 2 1, 3) := by decide +kernel
theorem d_MD_take_96 : decode b_MD_take 96 = .ok (.goto (-42), 3) := by decide +kernel
theorem d_MD_take_99 : decode b_MD_take 99 = .ok (.aload_n 0, 1) := by decide +kernel
theorem d_MD_take_100 : decode b_MD_take 100 = .ok (.iload_n 1, 1) := by decide +kernel
theorem d_MD_take_101 : decode b_MD_take 101 = .ok (.invokevirtual 97, 3) := by decide +kernel
theorem d_MD_take_104 : decode b_MD_take 104 = .ok (.return_, 1) := by decide +kernel
theorem d_MD_goOn_0 : decode b_MD_goOn 0 = .ok (.aload_n 0, 1) := by decide +kernel
theorem d_MD_goOn_1 : decode b_MD_goOn 1 = .ok (.getfield 36, 3) := by decide +kernel
theorem d_MD_goOn_4 : decode b_MD_goOn 4 = .ok (.iload_n 1, 1) := by decide +kernel
theorem d_MD_goOn_5 : decode b_MD_goOn 5 = .ok (.aload_n 0, 1) := by decide +kernel
theorem d_MD_goOn_6 : decode b_MD_goOn 6 = .ok (.getfield 39, 3) := by decide +kernel
theorem d_MD_goOn_9 : decode b_MD_goOn 9 = .ok (.iload_n 1, 1) := by decide +kernel
theorem d_MD_goOn_10 : decode b_MD_goOn 10 = .ok (.iaload, 1) := by decide +kernel
theorem d_MD_goOn_11 : decode b_MD_goOn 11 = .ok (.iastore, 1) := by decide +kernel
theorem d_MD_goOn_12 : decode b_MD_goOn 12 = .ok (.aload_n 0, 1) := by decide +kernel
theorem d_MD_goOn_13 : decode b_MD_goOn 13 = .ok (.getfield 39, 3) := by decide +kernel
theorem d_MD_goOn_16 : decode b_MD_goOn 16 = .ok (.iload_n 1, 1) := by decide +kernel
theorem d_MD_goOn_17 : decode b_MD_goOn 17 = .ok (.aload_n 0, 1) := by decide +kernel
theorem d_MD_goOn_18 : decode b_MD_goOn 18 = .ok (.iload_n 1, 1) := by decide +kernel
theorem d_MD_goOn_19 : decode b_MD_goOn 19 = .ok (.aload_n 0, 1) := by decide +kernel
theorem d_MD_goOn_20 : decode b_MD_goOn 20 = .ok (.getfield 36, 3) := by decide +kernel
theorem d_MD_goOn_23 : decode b_MD_goOn 23 = .ok (.iload_n 1, 1) := by decide +kernel
theorem d_MD_goOn_24 : decode b_MD_goOn 24 = .ok (.iaload, 1) := by decide +kernel
theorem d_MD_goOn_25 : decode b_MD_goOn 25 = .ok (.invokevirtual 83, 3) := by decide +kernel
theorem d_MD_goOn_28 : decode b_MD_goOn 28 = .ok (.iastore, 1) := by decide +kernel
theorem d_MD_goOn_29 : decode b_MD_goOn 29 = .ok (.return_, 1) := by decide +kernel
theorem d_MD_layers_0 : decode b_MD_layers 0 = .ok (.aload_n 0, 1) := by decide +kernel
theorem d_MD_layers_1 : decode b_MD_layers 1 = .ok (.iconst 0, 1) := by decide +kernel
theorem d_MD_layers_2 : decode b_MD_layers 2 = .ok (.putfield 42, 3) := by decide +kernel
theorem d_MD_layers_5 : decode b_MD_layers 5 = .ok (.aload_n 0, 1) := by decide +kernel
theorem d_MD_layers_6 : decode b_MD_layers 6 = .ok (.getfield 55, 3) := by decide +kernel
theorem d_MD_layers_9 : decode b_MD_layers 9 = .ok (.ireturn, 1) := by decide +kernel
theorem d_MD_cut_0 : decode b_MD_cut 0 = .ok (.iload_n 2, 1) := by decide +kernel
theorem d_MD_cut_1 : decode b_MD_cut 1 = .ok (.iconst 0, 1) := by decide +kernel
theorem d_MD_cut_2 : decode b_MD_cut 2 = .ok (.aload_n 0, 1) := by decide +kernel
theorem d_MD_cut_3 : decode b_MD_cut 3 = .ok (.getfield 46, 3) := by decide +kernel
theorem d_MD_cut_6 : decode b_MD_cut 6 = .ok (.iconst 1, 1) := by decide +kernel
theorem d_MD_cut_7 : decode b_MD_cut 7 = .ok (.isub, 1) := by decide +kernel
theorem d_MD_cut_8 : decode b_MD_cut 8 = .ok (.invokestatic 62, 3) := by decide +kernel
theorem d_MD_cut_11 : decode b_MD_cut 11 = .ok (.istore_n 3, 1) := by decide +kernel
theorem d_MD_cut_12 : decode b_MD_cut 12 = .ok (.aload_n 0, 1) := by decide +kernel
theorem d_MD_cut_13 : decode b_MD_cut 13 = .ok (.iload_n 3, 1) := by decide +kernel
theorem d_MD_cut_14 : decode b_MD_cut 14 = .ok (.iload_n 3, 1) := by decide +kernel
theorem d_MD_cut_15 : decode b_MD_cut 15 = .ok (.ifCond .ne 21, 3) := by decide +kernel
theorem d_MD_cut_18 : decode b_MD_cut 18 = .ok (.iload_n 1, 1) := by decide +kernel
theorem d_MD_cut_19 : decode b_MD_cut 19 = .ok (.iconst 0, 1) := by decide +kernel
theorem d_MD_cut_20 : decode b_MD_cut 20 = .ok (.aload_n 0, 1) := by decide +kernel
theorem d_MD_cut_21 : decode b_MD_cut 21 = .ok (.getfield 55, 3) := by decide +kernel
theorem d_MD_cut_24 : decode b_MD_cut 24 = .ok (.iconst 1, 1) := by decide +kernel
theorem d_MD_cut_25 : decode b_MD_cut 25 = .ok (.isub, 1) := by decide +kernel
theorem d_MD_cut_26 : decode b_MD_cut 26 = .ok (.invokestatic 62, 3) := by decide +kernel
theorem d_MD_cut_29 : decode b_MD_cut 29 = .ok (.ifCond .eq 7, 3) := by decide +kernel
theorem d_MD_cut_32 : decode b_MD_cut 32 = .ok (.iconst 1, 1) := by decide +kernel
theorem d_MD_cut_33 : decode b_MD_cut 33 = .ok (.goto 4, 3) := by decide +kernel
theorem d_MD_cut_36 : decode b_MD_cut 36 = .ok (.iconst 0, 1) := by decide +kernel
theorem d_MD_cut_37 : decode b_MD_cut 37 = .ok (.invokevirtual 58, 3) := by decide +kernel
theorem d_MD_cut_40 : decode b_MD_cut 40 = .ok (.ifCond .eq 5, 3) := by decide +kernel
theorem d_MD_cut_43 : decode b_MD_cut 43 = .ok (.iconst 0, 1) := by decide +kernel
theorem d_MD_cut_44 : decode b_MD_cut 44 = .ok (.ireturn, 1) := by decide +kernel
theorem d_MD_cut_45 : decode b_MD_cut 45 = .ok (.aload_n 0, 1) := by decide +kernel
theorem d_MD_cut_46 : decode b_MD_cut 46 = .ok (.getfield 24, 3) := by decide +kernel
theorem d_MD_cut_49 : decode b_MD_cut 49 = .ok (.sipush 1024, 3) := by decide +kernel
theorem d_MD_cut_52 : decode b_MD_cut 52 = .ok (.iload_n 1, 1) := by decide +kernel
theorem d_MD_cut_53 : decode b_MD_cut 53 = .ok (.imul, 1) := by decide +kernel
theorem d_MD_cut_54 : decode b_MD_cut 54 = .ok (.iload_n 2, 1) := by decide +kernel
theorem d_MD_cut_55 : decode b_MD_cut 55 = .ok (.iadd, 1) := by decide +kernel
theorem d_MD_cut_56 : decode b_MD_cut 56 = .ok (.iaload, 1) := by decide +kernel
theorem d_MD_cut_57 : decode b_MD_cut 57 = .ok (.ireturn, 1) := by decide +kernel
theorem d_MD_total_0 : decode b_MD_total 0 = .ok (.aload_n 0, 1) := by decide +kernel
theorem d_MD_total_1 : decode b_MD_total 1 = .ok (.iload_n 1, 1) := by decide +kernel
theorem d_MD_total_2 : decode b_MD_total 2 = .ok (.iconst 0, 1) := by decide +kernel
theorem d_MD_total_3 : decode b_MD_total 3 = .ok (.aload_n 0, 1) := by decide +kernel
theorem d_MD_total_4 : decode b_MD_total 4 = .ok (.getfield 55, 3) := by decide +kernel
theorem d_MD_total_7 : decode b_MD_total 7 = .ok (.iconst 1, 1) := by decide +kernel
theorem d_MD_total_8 : decode b_MD_total 8 = .ok (.isub, 1) := by decide +kernel
theorem d_MD_total_9 : decode b_MD_total 9 = .ok (.invokestatic 62, 3) := by decide +kernel
theorem d_MD_total_12 : decode b_MD_total 12 = .ok (.iconst 0, 1) := by decide +kernel
theorem d_MD_total_13 : decode b_MD_total 13 = .ok (.invokevirtual 58, 3) := by decide +kernel
theorem d_MD_total_16 : decode b_MD_total 16 = .ok (.ifCond .eq 5, 3) := by decide +kernel
theorem d_MD_total_19 : decode b_MD_total 19 = .ok (.iconst 0, 1) := by decide +kernel
theorem d_MD_total_20 : decode b_MD_total 20 = .ok (.ireturn, 1) := by decide +kernel
theorem d_MD_total_21 : decode b_MD_total 21 = .ok (.aload_n 0, 1) := by decide +kernel
theorem d_MD_total_22 : decode b_MD_total 22 = .ok (.getfield 27, 3) := by decide +kernel
theorem d_MD_total_25 : decode b_MD_total 25 = .ok (.iload_n 1, 1) := by decide +kernel
theorem d_MD_total_26 : decode b_MD_total 26 = .ok (.iaload, 1) := by decide +kernel
theorem d_MD_total_27 : decode b_MD_total 27 = .ok (.ireturn, 1) := by decide +kernel
theorem d_MD_threshold_0 : decode b_MD_threshold 0 = .ok (.iload_n 2, 1) := by decide +kernel
theorem d_MD_threshold_1 : decode b_MD_threshold 1 = .ok (.iconst 0, 1) := by decide +kernel
theorem d_MD_threshold_2 : decode b_MD_threshold 2 = .ok (.iconst 1, 1) := by decide +kernel
theorem d_MD_threshold_3 : decode b_MD_threshold 3 = .ok (.invokestatic 62, 3) := by decide +kernel
theorem d_MD_threshold_6 : decode b_MD_threshold 6 = .ok (.istore_n 3, 1) := by decide +kernel
theorem d_MD_threshold_7 : decode b_MD_threshold 7 = .ok (.aload_n 0, 1) := by decide +kernel
theorem d_MD_threshold_8 : decode b_MD_threshold 8 = .ok (.iload_n 3, 1) := by decide +kernel
theorem d_MD_threshold_9 : decode b_MD_threshold 9 = .ok (.iload_n 3, 1) := by decide +kernel
theorem d_MD_threshold_10 : decode b_MD_threshold 10 = .ok (.ifCond .ne 21, 3) := by decide +kernel
theorem d_MD_threshold_13 : decode b_MD_threshold 13 = .ok (.iload_n 1, 1) := by decide +kernel
theorem d_MD_threshold_14 : decode b_MD_threshold 14 = .ok (.iconst 0, 1) := by decide +kernel
theorem d_MD_threshold_15 : decode b_MD_threshold 15 = .ok (.aload_n 0, 1) := by decide +kernel
theorem d_MD_threshold_16 : decode b_MD_threshold 16 = .ok (.getfield 55, 3) := by decide +kernel
theorem d_MD_threshold_19 : decode b_MD_threshold 19 = .ok (.iconst 1, 1) := by decide +kernel
theorem d_MD_threshold_20 : decode b_MD_threshold 20 = .ok (.isub, 1) := by decide +kernel
theorem d_MD_threshold_21 : decode b_MD_threshold 21 = .ok (.invokestatic 62, 3) := by decide +kernel
theorem d_MD_threshold_24 : decode b_MD_threshold 24 = .ok (.ifCond .eq 7, 3) := by decide +kernel
theorem d_MD_threshold_27 : decode b_MD_threshold 27 = .ok (.iconst 1, 1) := by decide +kernel
theorem d_MD_threshold_28 : decode b_MD_threshold 28 = .ok (.goto 4, 3) := by decide +kernel
theorem d_MD_threshold_31 : decode b_MD_threshold 31 = .ok (.iconst 0, 1) := by decide +kernel
theorem d_MD_threshold_32 : decode b_MD_threshold 32 = .ok (.invokevirtual 58, 3) := by decide +kernel
theorem d_MD_threshold_35 : decode b_MD_threshold 35 = .ok (.ifCond .eq 5, 3) := by decide +kernel
theorem d_MD_threshold_38 : decode b_MD_threshold 38 = .ok (.lconst 0, 1) := by decide +kernel
theorem d_MD_threshold_39 : decode b_MD_threshold 39 = .ok (.lreturn, 1) := by decide +kernel
theorem d_MD_threshold_40 : decode b_MD_threshold 40 = .ok (.iload_n 2, 1) := by decide +kernel
theorem d_MD_threshold_41 : decode b_MD_threshold 41 = .ok (.ifCond .ne 12, 3) := by decide +kernel
theorem d_MD_threshold_44 : decode b_MD_threshold 44 = .ok (.aload_n 0, 1) := by decide +kernel
theorem d_MD_threshold_45 : decode b_MD_threshold 45 = .ok (.getfield 30, 3) := by decide +kernel
theorem d_MD_threshold_48 : decode b_MD_threshold 48 = .ok (.iload_n 1, 1) := by decide +kernel
theorem d_MD_threshold_49 : decode b_MD_threshold 49 = .ok (.laload, 1) := by decide +kernel
theorem d_MD_threshold_50 : decode b_MD_threshold 50 = .ok (.goto 10, 3) := by decide +kernel
theorem d_MD_threshold_53 : decode b_MD_threshold 53 = .ok (.aload_n 0, 1) := by decide +kernel
theorem d_MD_threshold_54 : decode b_MD_threshold 54 = .ok (.getfield 33, 3) := by decide +kernel
theorem d_MD_threshold_57 : decode b_MD_threshold 57 = .ok (.iload_n 1, 1) := by decide +kernel
theorem d_MD_threshold_58 : decode b_MD_threshold 58 = .ok (.iaload, 1) := by decide +kernel
theorem d_MD_threshold_59 : decode b_MD_threshold 59 = .ok (.i2l, 1) := by decide +kernel
theorem d_MD_threshold_60 : decode b_MD_threshold 60 = .ok (.lreturn, 1) := by decide +kernel
end
section
theorem d_LW_block_0 : decode b_LW_block 0 = .ok (.aload_n 1, 1) := by decide +kernel
theorem d_LW_block_1 : decode b_LW_block 1 = .ok (.iconst 0, 1) := by decide +kernel
theorem d_LW_block_2 : decode b_LW_block 2 = .ok (.aload_n 0, 1) := by decide +kernel
theorem d_LW_block_3 : decode b_LW_block 3 = .ok (.invokevirtual 7, 3) := by decide +kernel
theorem d_LW_block_6 : decode b_LW_block 6 = .ok (.i2l, 1) := by decide +kernel
theorem d_LW_block_7 : decode b_LW_block 7 = .ok (.lastore, 1) := by decide +kernel
theorem d_LW_block_8 : decode b_LW_block 8 = .ok (.goto 6, 3) := by decide +kernel
theorem d_LW_block_11 : decode b_LW_block 11 = .ok (.astore_n 2, 1) := by decide +kernel
theorem d_LW_block_12 : decode b_LW_block 12 = .ok (.iconst 1, 1) := by decide +kernel
theorem d_LW_block_13 : decode b_LW_block 13 = .ok (.ireturn, 1) := by decide +kernel
theorem d_LW_block_14 : decode b_LW_block 14 = .ok (.iconst 0, 1) := by decide +kernel
theorem d_LW_block_15 : decode b_LW_block 15 = .ok (.ireturn, 1) := by decide +kernel
theorem d_LW_pass_0 : decode b_LW_pass 0 = .ok (.aload 5, 2) := by decide +kernel
theorem d_LW_pass_2 : decode b_LW_pass 2 = .ok (.iconst 0, 1) := by decide +kernel
theorem d_LW_pass_3 : decode b_LW_pass 3 = .ok (.aload_n 0, 1) := by decide +kernel
theorem d_LW_pass_4 : decode b_LW_pass 4 = .ok (.iload_n 1, 1) := by decide +kernel
theorem d_LW_pass_5 : decode b_LW_pass 5 = .ok (.iload_n 2, 1) := by decide +kernel
theorem d_LW_pass_6 : decode b_LW_pass 6 = .ok (.lload_n 3, 1) := by decide +kernel
theorem d_LW_pass_7 : decode b_LW_pass 7 = .ok (.invokevirtual 15, 3) := by decide +kernel
theorem d_LW_pass_10 : decode b_LW_pass 10 = .ok (.i2l, 1) := by decide +kernel
theorem d_LW_pass_11 : decode b_LW_pass 11 = .ok (.lastore, 1) := by decide +kernel
theorem d_LW_pass_12 : decode b_LW_pass 12 = .ok (.goto 11, 3) := by decide +kernel
theorem d_LW_pass_15 : decode b_LW_pass 15 = .ok (.astore 6, 2) := by decide +kernel
theorem d_LW_pass_17 : decode b_LW_pass 17 = .ok (.iconst 1, 1) := by decide +kernel
theorem d_LW_pass_18 : decode b_LW_pass 18 = .ok (.ireturn, 1) := by decide +kernel
theorem d_LW_pass_19 : decode b_LW_pass 19 = .ok (.astore 6, 2) := by decide +kernel
theorem d_LW_pass_21 : decode b_LW_pass 21 = .ok (.iconst 2, 1) := by decide +kernel
theorem d_LW_pass_22 : decode b_LW_pass 22 = .ok (.ireturn, 1) := by decide +kernel
theorem d_LW_pass_23 : decode b_LW_pass 23 = .ok (.iconst 0, 1) := by decide +kernel
theorem d_LW_pass_24 : decode b_LW_pass 24 = .ok (.ireturn, 1) := by decide +kernel
theorem d_LW_step_0 : decode b_LW_step 0 = .ok (.aload 4, 2) := by decide +kernel
theorem d_LW_step_2 : decode b_LW_step 2 = .ok (.iconst 0, 1) := by decide +kernel
theorem d_LW_step_3 : decode b_LW_step 3 = .ok (.aload_n 0, 1) := by decide +kernel
theorem d_LW_step_4 : decode b_LW_step 4 = .ok (.iload_n 1, 1) := by decide +kernel
theorem d_LW_step_5 : decode b_LW_step 5 = .ok (.iload_n 2, 1) := by decide +kernel
theorem d_LW_step_6 : decode b_LW_step 6 = .ok (.iload_n 3, 1) := by decide +kernel
theorem d_LW_step_7 : decode b_LW_step 7 = .ok (.invokevirtual 21, 3) := by decide +kernel
theorem d_LW_step_10 : decode b_LW_step 10 = .ok (.i2l, 1) := by decide +kernel
theorem d_LW_step_11 : decode b_LW_step 11 = .ok (.lastore, 1) := by decide +kernel
theorem d_LW_step_12 : decode b_LW_step 12 = .ok (.goto 11, 3) := by decide +kernel
theorem d_LW_step_15 : decode b_LW_step 15 = .ok (.astore 5, 2) := by decide +kernel
theorem d_LW_step_17 : decode b_LW_step 17 = .ok (.iconst 1, 1) := by decide +kernel
theorem d_LW_step_18 : decode b_LW_step 18 = .ok (.ireturn, 1) := by decide +kernel
theorem d_LW_step_19 : decode b_LW_step 19 = .ok (.astore 5, 2) := by decide +kernel
theorem d_LW_step_21 : decode b_LW_step 21 = .ok (.iconst 2, 1) := by decide +kernel
theorem d_LW_step_22 : decode b_LW_step 22 = .ok (.ireturn, 1) := by decide +kernel
theorem d_LW_step_23 : decode b_LW_step 23 = .ok (.iconst 0, 1) := by decide +kernel
theorem d_LW_step_24 : decode b_LW_step 24 = .ok (.ireturn, 1) := by decide +kernel
theorem d_LW_gain_0 : decode b_LW_gain 0 = .ok (.aload_n 3, 1) := by decide +kernel
theorem d_LW_gain_1 : decode b_LW_gain 1 = .ok (.iconst 0, 1) := by decide +kernel
theorem d_LW_gain_2 : decode b_LW_gain 2 = .ok (.aload_n 0, 1) := by decide +kernel
theorem d_LW_gain_3 : decode b_LW_gain 3 = .ok (.iload_n 1, 1) := by decide +kernel
theorem d_LW_gain_4 : decode b_LW_gain 4 = .ok (.iload_n 2, 1) := by decide +kernel
theorem d_LW_gain_5 : decode b_LW_gain 5 = .ok (.invokevirtual 27, 3) := by decide +kernel
theorem d_LW_gain_8 : decode b_LW_gain 8 = .ok (.lastore, 1) := by decide +kernel
theorem d_LW_gain_9 : decode b_LW_gain 9 = .ok (.goto 11, 3) := by decide +kernel
theorem d_LW_gain_12 : decode b_LW_gain 12 = .ok (.astore 4, 2) := by decide +kernel
theorem d_LW_gain_14 : decode b_LW_gain 14 = .ok (.iconst 1, 1) := by decide +kernel
theorem d_LW_gain_15 : decode b_LW_gain 15 = .ok (.ireturn, 1) := by decide +kernel
theorem d_LW_gain_16 : decode b_LW_gain 16 = .ok (.astore 4, 2) := by decide +kernel
theorem d_LW_gain_18 : decode b_LW_gain 18 = .ok (.iconst 2, 1) := by decide +kernel
theorem d_LW_gain_19 : decode b_LW_gain 19 = .ok (.ireturn, 1) := by decide +kernel
theorem d_LW_gain_20 : decode b_LW_gain 20 = .ok (.iconst 0, 1) := by decide +kernel
theorem d_LW_gain_21 : decode b_LW_gain 21 = .ok (.ireturn, 1) := by decide +kernel
theorem d_LW_layer_0 : decode b_LW_layer 0 = .ok (.aload_n 2, 1) := by decide +kernel
theorem d_LW_layer_1 : decode b_LW_layer 1 = .ok (.iconst 0, 1) := by decide +kernel
theorem d_LW_layer_2 : decode b_LW_layer 2 = .ok (.aload_n 0, 1) := by decide +kernel
theorem d_LW_layer_3 : decode b_LW_layer 3 = .ok (.iload_n 1, 1) := by decide +kernel
theorem d_LW_layer_4 : decode b_LW_layer 4 = .ok (.invokevirtual 31, 3) := by decide +kernel
theorem d_LW_layer_7 : decode b_LW_layer 7 = .ok (.i2l, 1) := by decide +kernel
theorem d_LW_layer_8 : decode b_LW_layer 8 = .ok (.lastore, 1) := by decide +kernel
theorem d_LW_layer_9 : decode b_LW_layer 9 = .ok (.goto 9, 3) := by decide +kernel
theorem d_LW_layer_12 : decode b_LW_layer 12 = .ok (.astore_n 3, 1) := by decide +kernel
theorem d_LW_layer_13 : decode b_LW_layer 13 = .ok (.iconst 1, 1) := by decide +kernel
theorem d_LW_layer_14 : decode b_LW_layer 14 = .ok (.ireturn, 1) := by decide +kernel
theorem d_LW_layer_15 : decode b_LW_layer 15 = .ok (.astore_n 3, 1) := by decide +kernel
theorem d_LW_layer_16 : decode b_LW_layer 16 = .ok (.iconst 2, 1) := by decide +kernel
theorem d_LW_layer_17 : decode b_LW_layer 17 = .ok (.ireturn, 1) := by decide +kernel
theorem d_LW_layer_18 : decode b_LW_layer 18 = .ok (.iconst 0, 1) := by decide +kernel
theorem d_LW_layer_19 : decode b_LW_layer 19 = .ok (.ireturn, 1) := by decide +kernel
theorem d_LW_cut_0 : decode b_LW_cut 0 = .ok (.aload_n 3, 1) := by decide +kernel
theorem d_LW_cut_1 : decode b_LW_cut 1 = .ok (.iconst 0, 1) := by decide +kernel
theorem d_LW_cut_2 : decode b_LW_cut 2 = .ok (.aload_n 0, 1) := by decide +kernel
theorem d_LW_cut_3 : decode b_LW_cut 3 = .ok (.iload_n 1, 1) := by decide +kernel
theorem d_LW_cut_4 : decode b_LW_cut 4 = .ok (.iload_n 2, 1) := by decide +kernel
theorem d_LW_cut_5 : decode b_LW_cut 5 = .ok (.invokevirtual 35, 3) := by decide +kernel
theorem d_LW_cut_8 : decode b_LW_cut 8 = .ok (.i2l, 1) := by decide +kernel
theorem d_LW_cut_9 : decode b_LW_cut 9 = .ok (.lastore, 1) := by decide +kernel
theorem d_LW_cut_10 : decode b_LW_cut 10 = .ok (.goto 11, 3) := by decide +kernel
theorem d_LW_cut_13 : decode b_LW_cut 13 = .ok (.astore 4, 2) := by decide +kernel
theorem d_LW_cut_15 : decode b_LW_cut 15 = .ok (.iconst 1, 1) := by decide +kernel
theorem d_LW_cut_16 : decode b_LW_cut 16 = .ok (.ireturn, 1) := by decide +kernel
theorem d_LW_cut_17 : decode b_LW_cut 17 = .ok (.astore 4, 2) := by decide +kernel
theorem d_LW_cut_19 : decode b_LW_cut 19 = .ok (.iconst 2, 1) := by decide +kernel
theorem d_LW_cut_20 : decode b_LW_cut 20 = .ok (.ireturn, 1) := by decide +kernel
theorem d_LW_cut_21 : decode b_LW_cut 21 = .ok (.iconst 0, 1) := by decide +kernel
theorem d_LW_cut_22 : decode b_LW_cut 22 = .ok (.ireturn, 1) := by decide +kernel
theorem d_LW_total_0 : decode b_LW_total 0 = .ok (.aload_n 2, 1) := by decide +kernel
theorem d_LW_total_1 : decode b_LW_total 1 = .ok (.iconst 0, 1) := by decide +kernel
theorem d_LW_total_2 : decode b_LW_total 2 = .ok (.aload_n 0, 1) := by decide +kernel
theorem d_LW_total_3 : decode b_LW_total 3 = .ok (.iload_n 1, 1) := by decide +kernel
theorem d_LW_total_4 : decode b_LW_total 4 = .ok (.invokevirtual 39, 3) := by decide +kernel
theorem d_LW_total_7 : decode b_LW_total 7 = .ok (.i2l, 1) := by decide +kernel
theorem d_LW_total_8 : decode b_LW_total 8 = .ok (.lastore, 1) := by decide +kernel
theorem d_LW_total_9 : decode b_LW_total 9 = .ok (.goto 6, 3) := by decide +kernel
theorem d_LW_total_12 : decode b_LW_total 12 = .ok (.astore_n 3, 1) := by decide +kernel
theorem d_LW_total_13 : decode b_LW_total 13 = .ok (.iconst 1, 1) := by decide +kernel
theorem d_LW_total_14 : decode b_LW_total 14 = .ok (.ireturn, 1) := by decide +kernel
theorem d_LW_total_15 : decode b_LW_total 15 = .ok (.iconst 0, 1) := by decide +kernel
theorem d_LW_total_16 : decode b_LW_total 16 = .ok (.ireturn, 1) := by decide +kernel
theorem d_LW_threshold_0 : decode b_LW_threshold 0 = .ok (.aload_n 3, 1) := by decide +kernel
theorem d_LW_threshold_1 : decode b_LW_threshold 1 = .ok (.iconst 0, 1) := by decide +kernel
theorem d_LW_threshold_2 : decode b_LW_threshold 2 = .ok (.aload_n 0, 1) := by decide +kernel
theorem d_LW_threshold_3 : decode b_LW_threshold 3 = .ok (.iload_n 1, 1) := by decide +kernel
theorem d_LW_threshold_4 : decode b_LW_threshold 4 = .ok (.iload_n 2, 1) := by decide +kernel
theorem d_LW_threshold_5 : decode b_LW_threshold 5 = .ok (.invokevirtual 42, 3) := by decide +kernel
theorem d_LW_threshold_8 : decode b_LW_threshold 8 = .ok (.lastore, 1) := by decide +kernel
theorem d_LW_threshold_9 : decode b_LW_threshold 9 = .ok (.goto 11, 3) := by decide +kernel
theorem d_LW_threshold_12 : decode b_LW_threshold 12 = .ok (.astore 4, 2) := by decide +kernel
theorem d_LW_threshold_14 : decode b_LW_threshold 14 = .ok (.iconst 1, 1) := by decide +kernel
theorem d_LW_threshold_15 : decode b_LW_threshold 15 = .ok (.ireturn, 1) := by decide +kernel
theorem d_LW_threshold_16 : decode b_LW_threshold 16 = .ok (.astore 4, 2) := by decide +kernel
theorem d_LW_threshold_18 : decode b_LW_threshold 18 = .ok (.iconst 2, 1) := by decide +kernel
theorem d_LW_threshold_19 : decode b_LW_threshold 19 = .ok (.ireturn, 1) := by decide +kernel
theorem d_LW_threshold_20 : decode b_LW_threshold 20 = .ok (.iconst 0, 1) := by decide +kernel
theorem d_LW_threshold_21 : decode b_LW_threshold 21 = .ok (.ireturn, 1) := by decide +kernel
theorem d_LW_law_0 : decode b_LW_law 0 = .ok (.new 8, 3) := by decide +kernel
theorem d_LW_law_3 : decode b_LW_law 3 = .ok (.dup, 1) := by decide +kernel
theorem d_LW_law_4 : decode b_LW_law 4 = .ok (.invokespecial 45, 3) := by decide +kernel
theorem d_LW_law_7 : decode b_LW_law 7 = .ok (.astore_n 1, 1) := by decide +kernel
theorem d_LW_law_8 : decode b_LW_law 8 = .ok (.new 46, 3) := by decide +kernel
theorem d_LW_law_11 : decode b_LW_law 11 = .ok (.dup, 1) := by decide +kernel
theorem d_LW_law_12 : decode b_LW_law 12 = .ok (.invokespecial 48, 3) := by decide +kernel
theorem d_LW_law_15 : decode b_LW_law 15 = .ok (.astore_n 2, 1) := by decide +kernel
theorem d_LW_law_16 : decode b_LW_law 16 = .ok (.iconst 1, 1) := by decide +kernel
theorem d_LW_law_17 : decode b_LW_law 17 = .ok (.newarray .long, 2) := by decide +kernel
theorem d_LW_law_19 : decode b_LW_law 19 = .ok (.astore_n 3, 1) := by decide +kernel
theorem d_LW_law_20 : decode b_LW_law 20 = .ok (.iconst 0, 1) := by decide +kernel
theorem d_LW_law_21 : decode b_LW_law 21 = .ok (.istore 4, 2) := by decide +kernel
theorem d_LW_law_23 : decode b_LW_law 23 = .ok (.iload 4, 2) := by decide +kernel
theorem d_LW_law_25 : decode b_LW_law 25 = .ok (.aload_n 0, 1) := by decide +kernel
theorem d_LW_law_26 : decode b_LW_law 26 = .ok (.arraylength, 1) := by decide +kernel
theorem d_LW_law_27 : decode b_LW_law 27 = .ok (.iconst 5, 1) := by decide +kernel
theorem d_LW_law_28 : decode b_LW_law 28 = .ok (.isub, 1) := by decide +kernel
theorem d_LW_law_29 : decode b_LW_law 29 = .ok (.if_icmp .gt 643, 3) := by decide +kernel
theorem d_LW_law_32 : decode b_LW_law 32 = .ok (.aload_n 0, 1) := by decide +kernel
theorem d_LW_law_33 : decode b_LW_law 33 = .ok (.iload 4, 2) := by decide +kernel
theorem d_LW_law_35 : decode b_LW_law 35 = .ok (.iaload, 1) := by decide +kernel
theorem d_LW_law_36 : decode b_LW_law 36 = .ok (.bipush 15, 2) := by decide +kernel
theorem d_LW_law_38 : decode b_LW_law 38 = .ok (.iand, 1) := by decide +kernel
theorem d_LW_law_39 : decode b_LW_law 39 = .ok (.tableswitch 627 0 9 #[53, 64, 108, 220, 300, 367, 423, 436, 504, 560], 53) := by decide +kernel
theorem d_LW_law_92 : decode b_LW_law 92 = .ok (.aload_n 1, 1) := by decide +kernel
theorem d_LW_law_93 : decode b_LW_law 93 = .ok (.invokevirtual 49, 3) := by decide +kernel
theorem d_LW_law_96 : decode b_LW_law 96 = .ok (.aload_n 2, 1) := by decide +kernel
theorem d_LW_law_97 : decode b_LW_law 97 = .ok (.invokevirtual 52, 3) := by decide +kernel
theorem d_LW_law_100 : decode b_LW_law 100 = .ok (.goto 566, 3) := by decide +kernel
theorem d_LW_law_103 : decode b_LW_law 103 = .ok (.aload_n 1, 1) := by decide +kernel
theorem d_LW_law_104 : decode b_LW_law 104 = .ok (.aload_n 3, 1) := by decide +kernel
theorem d_LW_law_105 : decode b_LW_law 105 = .ok (.invokestatic 53, 3) := by decide +kernel
theorem d_LW_law_108 : decode b_LW_law 108 = .ok (.istore 5, 2) := by decide +kernel
theorem d_LW_law_110 : decode b_LW_law 110 = .ok (.aload_n 2, 1) := by decide +kernel
theorem d_LW_law_111 : decode b_LW_law 111 = .ok (.invokevirtual 58, 3) := by decide +kernel
theorem d_LW_law_114 : decode b_LW_law 114 = .ok (.istore 6, 2) := by decide +kernel
theorem d_LW_law_116 : decode b_LW_law 116 = .ok (.aload_n 2, 1) := by decide +kernel
theorem d_LW_law_117 : decode b_LW_law 117 = .ok (.invokevirtual 59, 3) := by decide +kernel
theorem d_LW_law_120 : decode b_LW_law 120 = .ok (.iload 5, 2) := by decide +kernel
theorem d_LW_law_122 : decode b_LW_law 122 = .ok (.if_icmp .eq 5, 3) := by decide +kernel
theorem d_LW_law_125 : decode b_LW_law 125 = .ok (.iconst 0, 1) := by decide +kernel
theorem d_LW_law_126 : decode b_LW_law 126 = .ok (.ireturn, 1) := by decide +kernel
theorem d_LW_law_127 : decode b_LW_law 127 = .ok (.iload 5, 2) := by decide +kernel
theorem d_LW_law_129 : decode b_LW_law 129 = .ok (.ifCond .ne 15, 3) := by decide +kernel
theorem d_LW_law_132 : decode b_LW_law 132 = .ok (.aload_n 3, 1) := by decide +kernel
theorem d_LW_law_133 : decode b_LW_law 133 = .ok (.iconst 0, 1) := by decide +kernel
theorem d_LW_law_134 : decode b_LW_law 134 = .ok (.laload, 1) := by decide +kernel
theorem d_LW_law_135 : decode b_LW_law 135 = .ok (.iload 6, 2) := by decide +kernel
theorem d_LW_law_137 : decode b_LW_law 137 = .ok (.i2l, 1) := by decide +kernel
theorem d_LW_law_138 : decode b_LW_law 138 = .ok (.lcmp, 1) := by decide +kernel
theorem d_LW_law_139 : decode b_LW_law 139 = .ok (.ifCond .eq 5, 3) := by decide +kernel
theorem d_LW_law_142 : decode b_LW_law 142 = .ok (.iconst 0, 1) := by decide +kernel
theorem d_LW_law_143 : decode b_LW_law 143 = .ok (.ireturn, 1) := by decide +kernel
theorem d_LW_law_144 : decode b_LW_law 144 = .ok (.goto 522, 3) := by decide +kernel
theorem d_LW_law_147 : decode b_LW_law 147 = .ok (.aload_n 1, 1) := by decide +kernel
theorem d_LW_law_148 : decode b_LW_law 148 = .ok (.aload_n 0, 1) := by decide +kernel
theorem d_LW_law_149 : decode b_LW_law 149 = .ok (.iload 4, 2) := by decide +kernel
theorem d_LW_law_151 : decode b_LW_law 151 = .ok (.iconst 1, 1) := by decide +kernel
theorem d_LW_law_152 : decode b_LW_law 152 = .ok (.iadd, 1) := by decide +kernel
theorem d_LW_law_153 : decode b_LW_law 153 = .ok (.iaload, 1) := by decide +kernel
theorem d_LW_law_154 : decode b_LW_law 154 = .ok (.aload_n 0, 1) := by decide +kernel
theorem d_LW_law_155 : decode b_LW_law 155 = .ok (.iload 4, 2) := by decide +kernel
theorem d_LW_law_157 : decode b_LW_law 157 = .ok (.iconst 2, 1) := by decide +kernel
theorem d_LW_law_158 : decode b_LW_law 158 = .ok (.iadd, 1) := by decide +kernel
theorem d_LW_law_159 : decode b_LW_law 159 = .ok (.iaload, 1) := by decide +kernel
theorem d_LW_law_160 : decode b_LW_law 160 = .ok (.aload_n 0, 1) := by decide +kernel
theorem d_LW_law_161 : decode b_LW_law 161 = .ok (.iload 4, 2) := by decide +kernel
theorem d_LW_law_163 : decode b_LW_law 163 = .ok (.iconst 3, 1) := by decide +kernel
theorem d_LW_law_164 : decode b_LW_law 164 = .ok (.iadd, 1) := by decide +kernel
theorem d_LW_law_165 : decode b_LW_law 165 = .ok (.iaload, 1) := by decide +kernel
theorem d_LW_law_166 : decode b_LW_law 166 = .ok (.i2l, 1) := by decide +kernel
theorem d_LW_law_167 : decode b_LW_law 167 = .ok (.bipush 32, 2) := by decide +kernel
theorem d_LW_law_169 : decode b_LW_law 169 = .ok (.lshl, 1) := by decide +kernel
theorem d_LW_law_170 : decode b_LW_law 170 = .ok (.aload_n 0, 1) := by decide +kernel
theorem d_LW_law_171 : decode b_LW_law 171 = .ok (.iload 4, 2) := by decide +kernel
theorem d_LW_law_173 : decode b_LW_law 173 = .ok (.iconst 4, 1) := by decide +kernel
theorem d_LW_law_174 : decode b_LW_law 174 = .ok (.iadd, 1) := by decide +kernel
theorem d_LW_law_175 : decode b_LW_law 175 = .ok (.iaload, 1) := by decide +kernel
theorem d_LW_law_176 : decode b_LW_law 176 = .ok (.i2l, 1) := by decide +kernel
theorem d_LW_law_177 : decode b_LW_law 177 = .ok (.ldc2_w 62, 3) := by decide +kernel
theorem d_LW_law_180 : decode b_LW_law 180 = .ok (.land, 1) := by decide +kernel
theorem d_LW_law_181 : decode b_LW_law 181 = .ok (.lor, 1) := by decide +kernel
theorem d_LW_law_182 : decode b_LW_law 182 = .ok (.aload_n 3, 1) := by decide +kernel
theorem d_LW_law_183 : decode b_LW_law 183 = .ok (.invokestatic 64, 3) := by decide +kernel
theorem d_LW_law_186 : decode b_LW_law 186 = .ok (.istore 5, 2) := by decide +kernel
theorem d_LW_law_188 : decode b_LW_law 188 = .ok (.aload_n 2, 1) := by decide +kernel
theorem d_LW_law_189 : decode b_LW_law 189 = .ok (.aload_n 0, 1) := by decide +kernel
theorem d_LW_law_190 : decode b_LW_law 190 = .ok (.iload 4, 2) := by decide +kernel
theorem d_LW_law_192 : decode b_LW_law 192 = .ok (.iconst 1, 1) := by decide +kernel
theorem d_LW_law_193 : decode b_LW_law 193 = .ok (.iadd, 1) := by decide +kernel
theorem d_LW_law_194 : decode b_LW_law 194 = .ok (.iaload, 1) := by decide +kernel
theorem d_LW_law_195 : decode b_LW_law 195 = .ok (.aload_n 0, 1) := by decide +kernel
theorem d_LW_law_196 : decode b_LW_law 196 = .ok (.iload 4, 2) := by decide +kernel
theorem d_LW_law_198 : decode b_LW_law 198 = .ok (.iconst 2, 1) := by decide +kernel
theorem d_LW_law_199 : decode b_LW_law 199 = .ok (.iadd, 1) := by decide +kernel
theorem d_LW_law_200 : decode b_LW_law 200 = .ok (.iaload, 1) := by decide +kernel
theorem d_LW_law_201 : decode b_LW_law 201 = .ok (.aload_n 0, 1) := by decide +kernel
theorem d_LW_law_202 : decode b_LW_law 202 = .ok (.iload 4, 2) := by decide +kernel
theorem d_LW_law_204 : decode b_LW_law 204 = .ok (.iconst 3, 1) := by decide +kernel
theorem d_LW_law_205 : decode b_LW_law 205 = .ok (.iadd, 1) := by decide +kernel
theorem d_LW_law_206 : decode b_LW_law 206 = .ok (.iaload, 1) := by decide +kernel
theorem d_LW_law_207 : decode b_LW_law 207 = .ok (.i2l, 1) := by decide +kernel
theorem d_LW_law_208 : decode b_LW_law 208 = .ok (.bipush 32, 2) := by decide +kernel
theorem d_LW_law_210 : decode b_LW_law 210 = .ok (.lshl, 1) := by decide +kernel
theorem d_LW_law_211 : decode b_LW_law 211 = .ok (.aload_n 0, 1) := by decide +kernel
theorem d_LW_law_212 : decode b_LW_law 212 = .ok (.iload 4, 2) := by decide +kernel
theorem d_LW_law_214 : decode b_LW_law 214 = .ok (.iconst 4, 1) := by decide +kernel
theorem d_LW_law_215 : decode b_LW_law 215 = .ok (.iadd, 1) := by decide +kernel
theorem d_LW_law_216 : decode b_LW_law 216 = .ok (.iaload, 1) := by decide +kernel
theorem d_LW_law_217 : decode b_LW_law 217 = .ok (.i2l, 1) := by decide +kernel
theorem d_LW_law_218 : decode b_LW_law 218 = .ok (.ldc2_w 62, 3) := by decide +kernel
theorem d_LW_law_221 : decode b_LW_law 221 = .ok (.land, 1) := by decide +kernel
theorem d_LW_law_222 : decode b_LW_law 222 = .ok (.lor, 1) := by decide +kernel
theorem d_LW_law_223 : decode b_LW_law 223 = .ok (.invokevirtual 67, 3) := by decide +kernel
theorem d_LW_law_226 : decode b_LW_law 226 = .ok (.istore 6, 2) := by decide +kernel
theorem d_LW_law_228 : decode b_LW_law 228 = .ok (.aload_n 2, 1) := by decide +kernel
theorem d_LW_law_229 : decode b_LW_law 229 = .ok (.invokevirtual 59, 3) := by decide +kernel
theorem d_LW_law_232 : decode b_LW_law 232 = .ok (.iload 5, 2) := by decide +kernel
theorem d_LW_law_234 : decode b_LW_law 234 = .ok (.if_icmp .eq 5, 3) := by decide +kernel
theorem d_LW_law_237 : decode b_LW_law 237 = .ok (.iconst 0, 1) := by decide +kernel
theorem d_LW_law_238 : decode b_LW_law 238 = .ok (.ireturn, 1) := by decide +kernel
theorem d_LW_law_239 : decode b_LW_law 239 = .ok (.iload 5, 2) := by decide +kernel
theorem d_LW_law_241 : decode b_LW_law 241 = .ok (.ifCond .ne 15, 3) := by decide +kernel
theorem d_LW_law_244 : decode b_LW_law 244 = .ok (.aload_n 3, 1) := by decide +kernel
theorem d_LW_law_245 : decode b_LW_law 245 = .ok (.iconst 0, 1) := by decide +kernel
theorem d_LW_law_246 : decode b_LW_law 246 = .ok (.laload, 1) := by decide +kernel
theorem d_LW_law_247 : decode b_LW_law 247 = .ok (.iload 6, 2) := by decide +kernel
theorem d_LW_law_249 : decode b_LW_law 249 = .ok (.i2l, 1) := by decide +kernel
theorem d_LW_law_250 : decode b_LW_law 250 = .ok (.lcmp, 1) := by decide +kernel
theorem d_LW_law_251 : decode b_LW_law 251 = .ok (.ifCond .eq 5, 3) := by decide +kernel
theorem d_LW_law_254 : decode b_LW_law 254 = .ok (.iconst 0, 1) := by decide +kernel
theorem d_LW_law_255 : decode b_LW_law 255 = .ok (.ireturn, 1) := by decide +kernel
theorem d_LW_law_256 : decode b_LW_law 256 = .ok (.goto 410, 3) := by decide +kernel
theorem d_LW_law_259 : decode b_LW_law 259 = .ok (.aload_n 1, 1) := by decide +kernel
theorem d_LW_law_260 : decode b_LW_law 260 = .ok (.aload_n 0, 1) := by decide +kernel
theorem d_LW_law_261 : decode b_LW_law 261 = .ok (.iload 4, 2) := by decide +kernel
theorem d_LW_law_263 : decode b_LW_law 263 = .ok (.iconst 1, 1) := by decide +kernel
theorem d_LW_law_264 : decode b_LW_law 264 = .ok (.iadd, 1) := by decide +kernel
theorem d_LW_law_265 : decode b_LW_law 265 = .ok (.iaload, 1) := by decide +kernel
theorem d_LW_law_266 : decode b_LW_law 266 = .ok (.aload_n 0, 1) := by decide +kernel
theorem d_LW_law_267 : decode b_LW_law 267 = .ok (.iload 4, 2) := by decide +kernel
theorem d_LW_law_269 : decode b_LW_law 269 = .ok (.iconst 2, 1) := by decide +kernel
theorem d_LW_law_270 : decode b_LW_law 270 = .ok (.iadd, 1) := by decide +kernel
theorem d_LW_law_271 : decode b_LW_law 271 = .ok (.iaload, 1) := by decide +kernel
theorem d_LW_law_272 : decode b_LW_law 272 = .ok (.aload_n 0, 1) := by decide +kernel
theorem d_LW_law_273 : decode b_LW_law 273 = .ok (.iload 4, 2) := by decide +kernel
theorem d_LW_law_275 : decode b_LW_law 275 = .ok (.iconst 3, 1) := by decide +kernel
theorem d_LW_law_276 : decode b_LW_law 276 = .ok (.iadd, 1) := by decide +kernel
theorem d_LW_law_277 : decode b_LW_law 277 = .ok (.iaload, 1) := by decide +kernel
theorem d_LW_law_278 : decode b_LW_law 278 = .ok (.aload_n 3, 1) := by decide +kernel
theorem d_LW_law_279 : decode b_LW_law 279 = .ok (.invokestatic 68, 3) := by decide +kernel
theorem d_LW_law_282 : decode b_LW_law 282 = .ok (.istore 5, 2) := by decide +kernel
theorem d_LW_law_284 : decode b_LW_law 284 = .ok (.aload_n 2, 1) := by decide +kernel
theorem d_LW_law_285 : decode b_LW_law 285 = .ok (.aload_n 0, 1) := by decide +kernel
theorem d_LW_law_286 : decode b_LW_law 286 = .ok (.iload 4, 2) := by decide +kernel
theorem d_LW_law_288 : decode b_LW_law 288 = .ok (.iconst 1, 1) := by decide +kernel
theorem d_LW_law_289 : decode b_LW_law 289 = .ok (.iadd, 1) := by decide +kernel
theorem d_LW_law_290 : decode b_LW_law 290 = .ok (.iaload, 1) := by decide +kernel
theorem d_LW_law_291 : decode b_LW_law 291 = .ok (.aload_n 0, 1) := by decide +kernel
theorem d_LW_law_292 : decode b_LW_law 292 = .ok (.iload 4, 2) := by decide +kernel
theorem d_LW_law_294 : decode b_LW_law 294 = .ok (.iconst 2, 1) := by decide +kernel
theorem d_LW_law_295 : decode b_LW_law 295 = .ok (.iadd, 1) := by decide +kernel
theorem d_LW_law_296 : decode b_LW_law 296 = .ok (.iaload, 1) := by decide +kernel
theorem d_LW_law_297 : decode b_LW_law 297 = .ok (.aload_n 0, 1) := by decide +kernel
theorem d_LW_law_298 : decode b_LW_law 298 = .ok (.iload 4, 2) := by decide +kernel
theorem d_LW_law_300 : decode b_LW_law 300 = .ok (.iconst 3, 1) := by decide +kernel
theorem d_LW_law_301 : decode b_LW_law 301 = .ok (.iadd, 1) := by decide +kernel
theorem d_LW_law_302 : decode b_LW_law 302 = .ok (.iaload, 1) := by decide +kernel
theorem d_LW_law_303 : decode b_LW_law 303 = .ok (.invokevirtual 71, 3) := by decide +kernel
theorem d_LW_law_306 : decode b_LW_law 306 = .ok (.istore 6, 2) := by decide +kernel
theorem d_LW_law_308 : decode b_LW_law 308 = .ok (.aload_n 2, 1) := by decide +kernel
theorem d_LW_law_309 : decode b_LW_law 309 = .ok (.invokevirtual 59, 3) := by decide +kernel
theorem d_LW_law_312 : decode b_LW_law 312 = .ok (.iload 5, 2) := by decide +kernel
theorem d_LW_law_314 : decode b_LW_law 314 = .ok (.if_icmp .eq 5, 3) := by decide +kernel
theorem d_LW_law_317 : decode b_LW_law 317 = .ok (.iconst 0, 1) := by decide +kernel
theorem d_LW_law_318 : decode b_LW_law 318 = .ok (.ireturn, 1) := by decide +kernel
theorem d_LW_law_319 : decode b_LW_law 319 = .ok (.iload 5, 2) := by decide +kernel
theorem d_LW_law_321 : decode b_LW_law 321 = .ok (.ifCond .ne 15, 3) := by decide +kernel
theorem d_LW_law_324 : decode b_LW_law 324 = .ok (.aload_n 3, 1) := by decide +kernel
theorem d_LW_law_325 : decode b_LW_law 325 = .ok (.iconst 0, 1) := by decide +kernel
theorem d_LW_law_326 : decode b_LW_law 326 = .ok (.laload, 1) := by decide +kernel
theorem d_LW_law_327 : decode b_LW_law 327 = .ok (.iload 6, 2) := by decide +kernel
theorem d_LW_law_329 : decode b_LW_law 329 = .ok (.i2l, 1) := by decide +kernel
theorem d_LW_law_330 : decode b_LW_law 330 = .ok (.lcmp, 1) := by decide +kernel
theorem d_LW_law_331 : decode b_LW_law 331 = .ok (.ifCond .eq 5, 3) := by decide +kernel
theorem d_LW_law_334 : decode b_LW_law 334 = .ok (.iconst 0, 1) := by decide +kernel
theorem d_LW_law_335 : decode b_LW_law 335 = .ok (.ireturn, 1) := by decide +kernel
theorem d_LW_law_336 : decode b_LW_law 336 = .ok (.goto 330, 3) := by decide +kernel
theorem d_LW_law_339 : decode b_LW_law 339 = .ok (.aload_n 1, 1) := by decide +kernel
theorem d_LW_law_340 : decode b_LW_law 340 = .ok (.aload_n 0, 1) := by decide +kernel
theorem d_LW_law_341 : decode b_LW_law 341 = .ok (.iload 4, 2) := by decide +kernel
theorem d_LW_law_343 : decode b_LW_law 343 = .ok (.iconst 1, 1) := by decide +kernel
theorem d_LW_law_344 : decode b_LW_law 344 = .ok (.iadd, 1) := by decide +kernel
theorem d_LW_law_345 : decode b_LW_law 345 = .ok (.iaload, 1) := by decide +kernel
theorem d_LW_law_346 : decode b_LW_law 346 = .ok (.aload_n 0, 1) := by decide +kernel
theorem d_LW_law_347 : decode b_LW_law 347 = .ok (.iload 4, 2) := by decide +kernel
theorem d_LW_law_349 : decode b_LW_law 349 = .ok (.iconst 2, 1) := by decide +kernel
theorem d_LW_law_350 : decode b_LW_law 350 = .ok (.iadd, 1) := by decide +kernel
theorem d_LW_law_351 : decode b_LW_law 351 = .ok (.iaload, 1) := by decide +kernel
theorem d_LW_law_352 : decode b_LW_law 352 = .ok (.aload_n 3, 1) := by decide +kernel
theorem d_LW_law_353 : decode b_LW_law 353 = .ok (.invokestatic 72, 3) := by decide +kernel
theorem d_LW_law_356 : decode b_LW_law 356 = .ok (.istore 5, 2) := by decide +kernel
theorem d_LW_law_358 : decode b_LW_law 358 = .ok (.aload_n 2, 1) := by decide +kernel
theorem d_LW_law_359 : decode b_LW_law 359 = .ok (.aload_n 0, 1) := by decide +kernel
theorem d_LW_law_360 : decode b_LW_law 360 = .ok (.iload 4, 2) := by decide +kernel
theorem d_LW_law_362 : decode b_LW_law 362 = .ok (.iconst 1, 1) := by decide +kernel
theorem d_LW_law_363 : decode b_LW_law 363 = .ok (.iadd, 1) := by decide +kernel
theorem d_LW_law_364 : decode b_LW_law 364 = .ok (.iaload, 1) := by decide +kernel
theorem d_LW_law_365 : decode b_LW_law 365 = .ok (.aload_n 0, 1) := by decide +kernel
theorem d_LW_law_366 : decode b_LW_law 366 = .ok (.iload 4, 2) := by decide +kernel
theorem d_LW_law_368 : decode b_LW_law 368 = .ok (.iconst 2, 1) := by decide +kernel
theorem d_LW_law_369 : decode b_LW_law 369 = .ok (.iadd, 1) := by decide +kernel
theorem d_LW_law_370 : decode b_LW_law 370 = .ok (.iaload, 1) := by decide +kernel
theorem d_LW_law_371 : decode b_LW_law 371 = .ok (.invokevirtual 75, 3) := by decide +kernel
theorem d_LW_law_374 : decode b_LW_law 374 = .ok (.lstore 6, 2) := by decide +kernel
theorem d_LW_law_376 : decode b_LW_law 376 = .ok (.aload_n 2, 1) := by decide +kernel
theorem d_LW_law_377 : decode b_LW_law 377 = .ok (.invokevirtual 59, 3) := by decide +kernel
theorem d_LW_law_380 : decode b_LW_law 380 = .ok (.iload 5, 2) := by decide +kernel
theorem d_LW_law_382 : decode b_LW_law 382 = .ok (.if_icmp .eq 5, 3) := by decide +kernel
theorem d_LW_law_385 : decode b_LW_law 385 = .ok (.iconst 0, 1) := by decide +kernel
theorem d_LW_law_386 : decode b_LW_law 386 = .ok (.ireturn, 1) := by decide +kernel
theorem d_LW_law_387 : decode b_LW_law 387 = .ok (.iload 5, 2) := by decide +kernel
theorem d_LW_law_389 : decode b_LW_law 389 = .ok (.ifCond .ne 14, 3) := by decide +kernel
theorem d_LW_law_392 : decode b_LW_law 392 = .ok (.aload_n 3, 1) := by decide +kernel
theorem d_LW_law_393 : decode b_LW_law 393 = .ok (.iconst 0, 1) := by decide +kernel
theorem d_LW_law_394 : decode b_LW_law 394 = .ok (.laload, 1) := by decide +kernel
theorem d_LW_law_395 : decode b_LW_law 395 = .ok (.lload 6, 2) := by decide +kernel
theorem d_LW_law_397 : decode b_LW_law 397 = .ok (.lcmp, 1) := by decide +kernel
theorem d_LW_law_398 : decode b_LW_law 398 = .ok (.ifCond .eq 5, 3) := by decide +kernel
theorem d_LW_law_401 : decode b_LW_law 401 = .ok (.iconst 0, 1) := by decide +kernel
theorem d_LW_law_402 : decode b_LW_law 402 = .ok (.ireturn, 1) := by decide +kernel
theorem d_LW_law_403 : decode b_LW_law 403 = .ok (.goto 263, 3) := by decide +kernel
theorem d_LW_law_406 : decode b_LW_law 406 = .ok (.aload_n 1, 1) := by decide +kernel
theorem d_LW_law_407 : decode b_LW_law 407 = .ok (.aload_n 0, 1) := by decide +kernel
theorem d_LW_law_408 : decode b_LW_law 408 = .ok (.iload 4, 2) := by decide +kernel
theorem d_LW_law_410 : decode b_LW_law 410 = .ok (.iconst 1, 1) := by decide +kernel
theorem d_LW_law_411 : decode b_LW_law 411 = .ok (.iadd, 1) := by decide +kernel
theorem d_LW_law_412 : decode b_LW_law 412 = .ok (.iaload, 1) := by decide +kernel
theorem d_LW_law_413 : decode b_LW_law 413 = .ok (.aload_n 3, 1) := by decide +kernel
theorem d_LW_law_414 : decode b_LW_law 414 = .ok (.invokestatic 76, 3) := by decide +kernel
theorem d_LW_law_417 : decode b_LW_law 417 = .ok (.istore 5, 2) := by decide +kernel
theorem d_LW_law_419 : decode b_LW_law 419 = .ok (.aload_n 2, 1) := by decide +kernel
theorem d_LW_law_420 : decode b_LW_law 420 = .ok (.aload_n 0, 1) := by decide +kernel
theorem d_LW_law_421 : decode b_LW_law 421 = .ok (.iload 4, 2) := by decide +kernel
theorem d_LW_law_423 : decode b_LW_law 423 = .ok (.iconst 1, 1) := by decide +kernel
theorem d_LW_law_424 : decode b_LW_law 424 = .ok (.iadd, 1) := by decide +kernel
theorem d_LW_law_425 : decode b_LW_law 425 = .ok (.iaload, 1) := by decide +kernel
theorem d_LW_law_426 : decode b_LW_law 426 = .ok (.invokevirtual 79, 3) := by decide +kernel
theorem d_LW_law_429 : decode b_LW_law 429 = .ok (.istore 6, 2) := by decide +kernel
theorem d_LW_law_431 : decode b_LW_law 431 = .ok (.aload_n 2, 1) := by decide +kernel
theorem d_LW_law_432 : decode b_LW_law 432 = .ok (.invokevirtual 59, 3) := by decide +kernel
theorem d_LW_law_435 : decode b_LW_law 435 = .ok (.iload 5, 2) := by decide +kernel
theorem d_LW_law_437 : decode b_LW_law 437 = .ok (.if_icmp .eq 5, 3) := by decide +kernel
theorem d_LW_law_440 : decode b_LW_law 440 = .ok (.iconst 0, 1) := by decide +kernel
theorem d_LW_law_441 : decode b_LW_law 441 = .ok (.ireturn, 1) := by decide +kernel
theorem d_LW_law_442 : decode b_LW_law 442 = .ok (.iload 5, 2) := by decide +kernel
theorem d_LW_law_444 : decode b_LW_law 444 = .ok (.ifCond .ne 15, 3) := by decide +kernel
theorem d_LW_law_447 : decode b_LW_law 447 = .ok (.aload_n 3, 1) := by decide +kernel
theorem d_LW_law_448 : decode b_LW_law 448 = .ok (.iconst 0, 1) := by decide +kernel
theorem d_LW_law_449 : decode b_LW_law 449 = .ok (.laload, 1) := by decide +kernel
theorem d_LW_law_450 : decode b_LW_law 450 = .ok (.iload 6, 2) := by decide +kernel
theorem d_LW_law_452 : decode b_LW_law 452 = .ok (.i2l, 1) := by decide +kernel
theorem d_LW_law_453 : decode b_LW_law 453 = .ok (.lcmp, 1) := by decide +kernel
theorem d_LW_law_454 : decode b_LW_law 454 = .ok (.ifCond .eq 5, 3) := by decide +kernel
theorem d_LW_law_457 : decode b_LW_law 457 = .ok (.iconst 0, 1) := by decide +kernel
theorem d_LW_law_458 : decode b_LW_law 458 = .ok (.ireturn, 1) := by decide +kernel
theorem d_LW_law_459 : decode b_LW_law 459 = .ok (.goto 207, 3) := by decide +kernel
theorem d_LW_law_462 : decode b_LW_law 462 = .ok (.aload_n 1, 1) := by decide +kernel
theorem d_LW_law_463 : decode b_LW_law 463 = .ok (.invokevirtual 80, 3) := by decide +kernel
theorem d_LW_law_466 : decode b_LW_law 466 = .ok (.aload_n 2, 1) := by decide +kernel
theorem d_LW_law_467 : decode b_LW_law 467 = .ok (.invokevirtual 83, 3) := by decide +kernel
theorem d_LW_law_470 : decode b_LW_law 470 = .ok (.if_icmp .eq 196, 3) := by decide +kernel
theorem d_LW_law_473 : decode b_LW_law 473 = .ok (.iconst 0, 1) := by decide +kernel
theorem d_LW_law_474 : decode b_LW_law 474 = .ok (.ireturn, 1) := by decide +kernel
theorem d_LW_law_475 : decode b_LW_law 475 = .ok (.aload_n 1, 1) := by decide +kernel
theorem d_LW_law_476 : decode b_LW_law 476 = .ok (.aload_n 0, 1) := by decide +kernel
theorem d_LW_law_477 : decode b_LW_law 477 = .ok (.iload 4, 2) := by decide +kernel
theorem d_LW_law_479 : decode b_LW_law 479 = .ok (.iconst 1, 1) := by decide +kernel
theorem d_LW_law_480 : decode b_LW_law 480 = .ok (.iadd, 1) := by decide +kernel
theorem d_LW_law_481 : decode b_LW_law 481 = .ok (.iaload, 1) := by decide +kernel
theorem d_LW_law_482 : decode b_LW_law 482 = .ok (.aload_n 0, 1) := by decide +kernel
theorem d_LW_law_483 : decode b_LW_law 483 = .ok (.iload 4, 2) := by decide +kernel
theorem d_LW_law_485 : decode b_LW_law 485 = .ok (.iconst 2, 1) := by decide +kernel
theorem d_LW_law_486 : decode b_LW_law 486 = .ok (.iadd, 1) := by decide +kernel
theorem d_LW_law_487 : decode b_LW_law 487 = .ok (.iaload, 1) := by decide +kernel
theorem d_LW_law_488 : decode b_LW_law 488 = .ok (.aload_n 3, 1) := by decide +kernel
theorem d_LW_law_489 : decode b_LW_law 489 = .ok (.invokestatic 84, 3) := by decide +kernel
theorem d_LW_law_492 : decode b_LW_law 492 = .ok (.istore 5, 2) := by decide +kernel
theorem d_LW_law_494 : decode b_LW_law 494 = .ok (.aload_n 2, 1) := by decide +kernel
theorem d_LW_law_495 : decode b_LW_law 495 = .ok (.aload_n 0, 1) := by decide +kernel
theorem d_LW_law_496 : decode b_LW_law 496 = .ok (.iload 4, 2) := by decide +kernel
theorem d_LW_law_498 : decode b_LW_law 498 = .ok (.iconst 1, 1) := by decide +kernel
theorem d_LW_law_499 : decode b_LW_law 499 = .ok (.iadd, 1) := by decide +kernel
theorem d_LW_law_500 : decode b_LW_law 500 = .ok (.iaload, 1) := by decide +kernel
theorem d_LW_law_501 : decode b_LW_law 501 = .ok (.aload_n 0, 1) := by decide +kernel
theorem d_LW_law_502 : decode b_LW_law 502 = .ok (.iload 4, 2) := by decide +kernel
theorem d_LW_law_504 : decode b_LW_law 504 = .ok (.iconst 2, 1) := by decide +kernel
theorem d_LW_law_505 : decode b_LW_law 505 = .ok (.iadd, 1) := by decide +kernel
theorem d_LW_law_506 : decode b_LW_law 506 = .ok (.iaload, 1) := by decide +kernel
theorem d_LW_law_507 : decode b_LW_law 507 = .ok (.invokevirtual 86, 3) := by decide +kernel
theorem d_LW_law_510 : decode b_LW_law 510 = .ok (.istore 6, 2) := by decide +kernel
theorem d_LW_law_512 : decode b_LW_law 512 = .ok (.aload_n 2, 1) := by decide +kernel
theorem d_LW_law_513 : decode b_LW_law 513 = .ok (.invokevirtual 59, 3) := by decide +kernel
theorem d_LW_law_516 : decode b_LW_law 516 = .ok (.iload 5, 2) := by decide +kernel
theorem d_LW_law_518 : decode b_LW_law 518 = .ok (.if_icmp .eq 5, 3) := by decide +kernel
theorem d_LW_law_521 : decode b_LW_law 521 = .ok (.iconst 0, 1) := by decide +kernel
theorem d_LW_law_522 : decode b_LW_law 522 = .ok (.ireturn, 1) := by decide +kernel
theorem d_LW_law_523 : decode b_LW_law 523 = .ok (.iload 5, 2) := by decide +kernel
theorem d_LW_law_525 : decode b_LW_law 525 = .ok (.ifCond .ne 15, 3) := by decide +kernel
theorem d_LW_law_528 : decode b_LW_law 528 = .ok (.aload_n 3, 1) := by decide +kernel
theorem d_LW_law_529 : decode b_LW_law 529 = .ok (.iconst 0, 1) := by decide +kernel
theorem d_LW_law_530 : decode b_LW_law 530 = .ok (.laload, 1) := by decide +kernel
theorem d_LW_law_531 : decode b_LW_law 531 = .ok (.iload 6, 2) := by decide +kernel
theorem d_LW_law_533 : decode b_LW_law 533 = .ok (.i2l, 1) := by decide +kernel
theorem d_LW_law_534 : decode b_LW_law 534 = .ok (.lcmp, 1) := by decide +kernel
theorem d_LW_law_535 : decode b_LW_law 535 = .ok (.ifCond .eq 5, 3) := by decide +kernel
theorem d_LW_law_538 : decode b_LW_law 538 = .ok (.iconst 0, 1) := by decide +kernel
theorem d_LW_law_539 : decode b_LW_law 539 = .ok (.ireturn, 1) := by decide +kernel
theorem d_LW_law_540 : decode b_LW_law 540 = .ok (.goto 126, 3) := by decide +kernel
theorem d_LW_law_543 : decode b_LW_law 543 = .ok (.aload_n 1, 1) := by decide +kernel
theorem d_LW_law_544 : decode b_LW_law 544 = .ok (.aload_n 0, 1) := by decide +kernel
theorem d_LW_law_545 : decode b_LW_law 545 = .ok (.iload 4, 2) := by decide +kernel
theorem d_LW_law_547 : decode b_LW_law 547 = .ok (.iconst 1, 1) := by decide +kernel
theorem d_LW_law_548 : decode b_LW_law 548 = .ok (.iadd, 1) := by decide +kernel
theorem d_LW_law_549 : decode b_LW_law 549 = .ok (.iaload, 1) := by decide +kernel
theorem d_LW_law_550 : decode b_LW_law 550 = .ok (.aload_n 3, 1) := by decide +kernel
theorem d_LW_law_551 : decode b_LW_law 551 = .ok (.invokestatic 87, 3) := by decide +kernel
theorem d_LW_law_554 : decode b_LW_law 554 = .ok (.istore 5, 2) := by decide +kernel
theorem d_LW_law_556 : decode b_LW_law 556 = .ok (.aload_n 2, 1) := by decide +kernel
theorem d_LW_law_557 : decode b_LW_law 557 = .ok (.aload_n 0, 1) := by decide +kernel
theorem d_LW_law_558 : decode b_LW_law 558 = .ok (.iload 4, 2) := by decide +kernel
theorem d_LW_law_560 : decode b_LW_law 560 = .ok (.iconst 1, 1) := by decide +kernel
theorem d_LW_law_561 : decode b_LW_law 561 = .ok (.iadd, 1) := by decide +kernel
theorem d_LW_law_562 : decode b_LW_law 562 = .ok (.iaload, 1) := by decide +kernel
theorem d_LW_law_563 : decode b_LW_law 563 = .ok (.invokevirtual 89, 3) := by decide +kernel
theorem d_LW_law_566 : decode b_LW_law 566 = .ok (.istore 6, 2) := by decide +kernel
theorem d_LW_law_568 : decode b_LW_law 568 = .ok (.aload_n 2, 1) := by decide +kernel
theorem d_LW_law_569 : decode b_LW_law 569 = .ok (.invokevirtual 59, 3) := by decide +kernel
theorem d_LW_law_572 : decode b_LW_law 572 = .ok (.iload 5, 2) := by decide +kernel
theorem d_LW_law_574 : decode b_LW_law 574 = .ok (.if_icmp .eq 5, 3) := by decide +kernel
theorem d_LW_law_577 : decode b_LW_law 577 = .ok (.iconst 0, 1) := by decide +kernel
theorem d_LW_law_578 : decode b_LW_law 578 = .ok (.ireturn, 1) := by decide +kernel
theorem d_LW_law_579 : decode b_LW_law 579 = .ok (.iload 5, 2) := by decide +kernel
theorem d_LW_law_581 : decode b_LW_law 581 = .ok (.ifCond .ne 15, 3) := by decide +kernel
theorem d_LW_law_584 : decode b_LW_law 584 = .ok (.aload_n 3, 1) := by decide +kernel
theorem d_LW_law_585 : decode b_LW_law 585 = .ok (.iconst 0, 1) := by decide +kernel
theorem d_LW_law_586 : decode b_LW_law 586 = .ok (.laload, 1) := by decide +kernel
theorem d_LW_law_587 : decode b_LW_law 587 = .ok (.iload 6, 2) := by decide +kernel
theorem d_LW_law_589 : decode b_LW_law 589 = .ok (.i2l, 1) := by decide +kernel
theorem d_LW_law_590 : decode b_LW_law 590 = .ok (.lcmp, 1) := by decide +kernel
theorem d_LW_law_591 : decode b_LW_law 591 = .ok (.ifCond .eq 5, 3) := by decide +kernel
theorem d_LW_law_594 : decode b_LW_law 594 = .ok (.iconst 0, 1) := by decide +kernel
theorem d_LW_law_595 : decode b_LW_law 595 = .ok (.ireturn, 1) := by decide +kernel
theorem d_LW_law_596 : decode b_LW_law 596 = .ok (.goto 70, 3) := by decide +kernel
theorem d_LW_law_599 : decode b_LW_law 599 = .ok (.aload_n 1, 1) := by decide +kernel
theorem d_LW_law_600 : decode b_LW_law 600 = .ok (.aload_n 0, 1) := by decide +kernel
theorem d_LW_law_601 : decode b_LW_law 601 = .ok (.iload 4, 2) := by decide +kernel
theorem d_LW_law_603 : decode b_LW_law 603 = .ok (.iconst 1, 1) := by decide +kernel
theorem d_LW_law_604 : decode b_LW_law 604 = .ok (.iadd, 1) := by decide +kernel
theorem d_LW_law_605 : decode b_LW_law 605 = .ok (.iaload, 1) := by decide +kernel
theorem d_LW_law_606 : decode b_LW_law 606 = .ok (.aload_n 0, 1) := by decide +kernel
theorem d_LW_law_607 : decode b_LW_law 607 = .ok (.iload 4, 2) := by decide +kernel
theorem d_LW_law_609 : decode b_LW_law 609 = .ok (.iconst 2, 1) := by decide +kernel
theorem d_LW_law_610 : decode b_LW_law 610 = .ok (.iadd, 1) := by decide +kernel
theorem d_LW_law_611 : decode b_LW_law 611 = .ok (.iaload, 1) := by decide +kernel
theorem d_LW_law_612 : decode b_LW_law 612 = .ok (.aload_n 3, 1) := by decide +kernel
theorem d_LW_law_613 : decode b_LW_law 613 = .ok (.invokestatic 90, 3) := by decide +kernel
theorem d_LW_law_616 : decode b_LW_law 616 = .ok (.istore 5, 2) := by decide +kernel
theorem d_LW_law_618 : decode b_LW_law 618 = .ok (.aload_n 2, 1) := by decide +kernel
theorem d_LW_law_619 : decode b_LW_law 619 = .ok (.aload_n 0, 1) := by decide +kernel
theorem d_LW_law_620 : decode b_LW_law 620 = .ok (.iload 4, 2) := by decide +kernel
theorem d_LW_law_622 : decode b_LW_law 622 = .ok (.iconst 1, 1) := by decide +kernel
theorem d_LW_law_623 : decode b_LW_law 623 = .ok (.iadd, 1) := by decide +kernel
theorem d_LW_law_624 : decode b_LW_law 624 = .ok (.iaload, 1) := by decide +kernel
theorem d_LW_law_625 : decode b_LW_law 625 = .ok (.aload_n 0, 1) := by decide +kernel
theorem d_LW_law_626 : decode b_LW_law 626 = .ok (.iload 4, 2) := by decide +kernel
theorem d_LW_law_628 : decode b_LW_law 628 = .ok (.iconst 2, 1) := by decide +kernel
theorem d_LW_law_629 : decode b_LW_law 629 = .ok (.iadd, 1) := by decide +kernel
theorem d_LW_law_630 : decode b_LW_law 630 = .ok (.iaload, 1) := by decide +kernel
theorem d_LW_law_631 : decode b_LW_law 631 = .ok (.invokevirtual 92, 3) := by decide +kernel
theorem d_LW_law_634 : decode b_LW_law 634 = .ok (.lstore 6, 2) := by decide +kernel
theorem d_LW_law_636 : decode b_LW_law 636 = .ok (.aload_n 2, 1) := by decide +kernel
theorem d_LW_law_637 : decode b_LW_law 637 = .ok (.invokevirtual 59, 3) := by decide +kernel
theorem d_LW_law_640 : decode b_LW_law 640 = .ok (.iload 5, 2) := by decide +kernel
theorem d_LW_law_642 : decode b_LW_law 642 = .ok (.if_icmp .eq 5, 3) := by decide +kernel
theorem d_LW_law_645 : decode b_LW_law 645 = .ok (.iconst 0, 1) := by decide +kernel
theorem d_LW_law_646 : decode b_LW_law 646 = .ok (.ireturn, 1) := by decide +kernel
theorem d_LW_law_647 : decode b_LW_law 647 = .ok (.iload 5, 2) := by decide +kernel
theorem d_LW_law_649 : decode b_LW_law 649 = .ok (.ifCond .ne 14, 3) := by decide +kernel
theorem d_LW_law_652 : decode b_LW_law 652 = .ok (.aload_n 3, 1) := by decide +kernel
theorem d_LW_law_653 : decode b_LW_law 653 = .ok (.iconst 0, 1) := by decide +kernel
theorem d_LW_law_654 : decode b_LW_law 654 = .ok (.laload, 1) := by decide +kernel
theorem d_LW_law_655 : decode b_LW_law 655 = .ok (.lload 6, 2) := by decide +kernel
theorem d_LW_law_657 : decode b_LW_law 657 = .ok (.lcmp, 1) := by decide +kernel
theorem d_LW_law_658 : decode b_LW_law 658 = .ok (.ifCond .eq 5, 3) := by decide +kernel
theorem d_LW_law_661 : decode b_LW_law 661 = .ok (.iconst 0, 1) := by decide +kernel
theorem d_LW_law_662 : decode b_LW_law 662 = .ok (.ireturn, 1) := by decide +kernel
theorem d_LW_law_663 : decode b_LW_law 663 = .ok (.goto 3, 3) := by decide +kernel
theorem d_LW_law_666 : decode b_LW_law 666 = .ok (.iinc 4 5, 3) := by decide +kernel
theorem d_LW_law_669 : decode b_LW_law 669 = .ok (.goto (-646), 3) := by decide +kernel
theorem d_LW_law_672 : decode b_LW_law 672 = .ok (.iconst 1, 1) := by decide +kernel
theorem d_LW_law_673 : decode b_LW_law 673 = .ok (.ireturn, 1) := by decide +kernel
end
section
/-! THE GHOST HEAP: a partial map from addresses to tagged cells, and a walk over it (G). A tag says what a cell is and whose it is; tag kind 0: a cell that was there before the law, never written. s0 is the state at the law's entry. -/
abbrev gE : Type := (Nat × Nat) × va_E
abbrev gH : Type := Nat → Option gE
def g_up (h : gH) (a : Nat) (x : gE) : gH := fun q => if q = a then some x else h q
theorem g_us {h : gH} {a : Nat} {x : gE} : g_up h a x a = some x := by simp [g_up]
theorem g_un {h : gH} {a b : Nat} {x : gE} (hn : b ≠ a) : g_up h a x b = h b := by simp [g_up, hn]
theorem g_ne {h : gH} {a b : Nat} {x y : gE} (ha : h a = some x) (hb : h b = some y) (ht : x.1.1 ≠ y.1.1) : a ≠ b := by
  intro e
  subst e
  cases ha.symm.trans hb
  exact ht rfl
theorem g_nz {h : gH} {a b : Nat} {x : gE} (ha : h a = some x) (hb : h b = none) : a ≠ b := by
  intro e
  subst e
  cases ha.symm.trans hb
theorem g_uk {h : gH} {a b : Nat} {x y z : gE} (hb : h b = some y) (ha : h a = some z) (ht : y.1.1 ≠ z.1.1) : g_up h a x b = some y := (g_un (g_ne hb ha ht)).trans hb
theorem g_uf {h : gH} {a b : Nat} {x y : gE} (hb : h b = some y) (ha : h a = none) : g_up h a x b = some y := (g_un (g_nz hb ha)).trans hb
theorem g_uu {h : gH} {a : Nat} {x y : gE} : g_up (g_up h a x) a y = g_up h a y := by
  funext q
  by_cases hq : q = a <;> simp [g_up, hq]
theorem g_id {h : gH} {a : Nat} {x : gE} (ha : h a = some x) : g_up h a x = h := by
  funext q
  by_cases hq : q = a
  · subst hq
    rw [g_us, ha]
  · rw [g_un hq]
def g_M (D : va_G) (s0 : State) (h : gH) (H : Heap) : Prop :=
  (∀ (a : Nat) (x : gE), h a = some x → va_at D vwCl (a, x.2) H ∧ (x.1.1 ≠ 0 → s0.heap.size ≤ a)) ∧ (∀ q : Nat, q < s0.heap.size → H[q]? = s0.heap[q]?) ∧ s0.heap.size ≤ H.size
theorem g_M.fresh {D : va_G} {s0 : State} {H : Heap} {h : gH} (hM : g_M D s0 h H) {a : Nat} (hs : H.size ≤ a) : h a = none := by
  cases hx : h a with
  | none => rfl
  | some x => exact absurd ((hM.1 a x hx).1.lt) (Nat.not_lt.mpr hs)
theorem g_M.set {D : va_G} {s0 : State} {H H1 : Heap} {h : gH} (hM : g_M D s0 h H) {a : Nat} {x y : gE} (ha : h a = some x) (ht : x.1.1 ≠ 0) (he : va_at D vwCl (a, y.2) H1) (hz : H1.size = H.size) (oq : ∀ q : Nat, q ≠ a → H1[q]? = H[q]?) : g_M D s0 (g_up h a y) H1 := by
  have hN := (hM.1 a x ha).2 ht
  refine ⟨fun b z hb => ?_, fun q hq => ?_, by rw [hz]; exact hM.2.2⟩
  · by_cases hba : b = a
    · subst hba
      rw [g_us] at hb
      cases hb
      exact ⟨he, fun _ => hN⟩
    · rw [g_un hba] at hb
      obtain ⟨h1, h2⟩ := hM.1 b z hb
      exact ⟨h1.kept (oq b hba), h2⟩
  · rw [oq q (fun e => by omega)]
    exact hM.2.1 q hq
theorem g_M.push {D : va_G} {s0 : State} {H H1 : Heap} {h : gH} (hM : g_M D s0 h H) {y : gE} (he : va_at D vwCl (H.size, y.2) H1) (hz : H1.size = H.size + 1) (oq : ∀ q : Nat, q < H.size → H1[q]? = H[q]?) : g_M D s0 (g_up h H.size y) H1 := by
  have h3 := hM.2.2
  refine ⟨fun b z hb => ?_, fun q hq => ?_, by omega⟩
  · by_cases hba : b = H.size
    · subst hba
      rw [g_us] at hb
      cases hb
      exact ⟨he, fun _ => h3⟩
    · rw [g_un hba] at hb
      obtain ⟨h1, h2⟩ := hM.1 b z hb
      exact ⟨h1.kept (oq b h1.lt), h2⟩
  · rw [oq q (by omega)]
    exact hM.2.1 q hq
/-- new cells that the ghost doesn't hold -/
theorem g_M.more {D : va_G} {s0 : State} {H H1 : Heap} {h : gH} (hM : g_M D s0 h H) (hz : H.size ≤ H1.size) (oq : ∀ q : Nat, q < H.size → H1[q]? = H[q]?) : g_M D s0 h H1 := by
  have h3 := hM.2.2
  refine ⟨fun b z hb => ?_, fun q hq => ?_, by omega⟩
  · obtain ⟨h1, h2⟩ := hM.1 b z hb
    exact ⟨h1.kept (oq b h1.lt), h2⟩
  · rw [oq q (by omega)]
    exact hM.2.1 q hq
theorem g_P {D : va_G} {s0 : State} {H : Heap} {h : gH} (hM : g_M D s0 h H) {a : Nat} {x : gE} (ha : h a = some x) : va_P D vwCl [(a, x.2)] H := by
  intro k q hk
  have hz : k < 1 := (List.getElem?_eq_some_iff.mp hk).1
  rw [show k = 0 by omega] at hk
  cases hk
  exact (hM.1 a x ha).1
/-- the words that stay true under warmer tables -/
def g_wk (w : Cond) : Bool := (w.onTables && w.keeps) || (match w with
  | .arrayClass _ => true
  | .fieldLinkNest .. => true
  | .methodLinkNest .. => true
  | .declares _ => true
  | .castable .. => true
  | .arrayOver (.object _) => true
  | _ => false)
theorem g_warm {w : Cond} (hw : g_wk w = true) {a a' : Array Value} {s U : State} (hW : s.WarmedH U.vm) (h : w.before a s = true) : w.before a' U = true := by
  unfold g_wk at hw
  rw [Bool.or_eq_true] at hw
  rcases hw with h1 | h1
  · exact word_at hW (Or.inl h1) h
  · split at h1
    · exact word_at hW (Or.inr ⟨_, rfl⟩) h
    · exact va_Nw.use rfl (va_Nw.warmF hW (va_Nw.of rfl h))
    · exact va_Nw.use rfl (va_Nw.warmM hW (va_Nw.of rfl h))
    · exact va_Nw.use rfl (va_Nw.warmD hW (va_Nw.of rfl h))
    · exact va_Nw.use rfl (va_Nw.warmC hW (va_Nw.of rfl h))
    · exact va_AO.use (va_AO.moved hW.alike (va_AO.of h))
    · exact absurd h1 (by decide)
def g_tys (D : va_G) : List (ClassId × FieldType) := [(D.1 100, .int), (D.1 101, .long), (D.1 102, .object "java/lang/Object")]
/-- what holds at the law's entry -/
def g_strs : List (Nat × String) := [(35, "there are 1024 blocks"), (53, "no such block"), (56, "bytes below 0"), (62, "gain not within -2^38 .. 2^38"), (71, "too many passes or bytes"), (83, "no such w"), (90, "no such step"), (104, "budget below NONE"), (106, "there are 64 layers"), (130, "no such layer")]
def g_stw : List Cond := [.isRef (.static "java/lang/Throwable" "UNASSIGNED_STACK" "[Ljava/lang/StackTraceElement;"), .isRef (.static "java/lang/Throwable" "SUPPRESSED_SENTINEL" "Ljava/util/List;"),
  .not (.castable "java/lang/IllegalArgumentException" "java/lang/IllegalStateException"), .not (.castable "java/lang/IndexOutOfBoundsException" "java/lang/IllegalStateException"), .not (.castable "java/lang/IllegalStateException" "java/lang/IllegalArgumentException"), .not (.castable "java/lang/IndexOutOfBoundsException" "java/lang/IllegalArgumentException"), .not (.castable "java/lang/IllegalStateException" "java/lang/IndexOutOfBoundsException"), .not (.castable "java/lang/IllegalArgumentException" "java/lang/IndexOutOfBoundsException")]
/-- .. of the JDK's statics, of class objects and texts. D.1 200: the empty array of ArrayList; D.1 201: the class object of Object[]; D.1 (300 + k): the text at entry k -/
def gB2 (D : va_G) (s0 : State) : Prop := va_Z "java/util/ArrayList" "DEFAULTCAPACITY_EMPTY_ELEMENTDATA" "[Ljava/lang/Object;" (.ref (D.1 200)) (fun q => s0.heap.size ≤ q) s0 s0.heap ∧ va_T (.object "java/lang/Object") (D.1 200) 0 (fun _ => .null) (fun q => s0.heap.size ≤ q) s0 s0.heap ∧
  va_Mi "[Ljava/lang/Object;" (D.1 201) s0 ∧ (∀ q ∈ g_strs, vk_R "LayerBudgets" q.1 q.2 (D.1 (300 + q.1)) s0) ∧ ∀ w ∈ g_stw, w.before #[] s0 = true
def gB (D : va_G) (s0 : State) : Prop := (∀ w ∈ lw_tbl, w.before #[] s0 = true) ∧ va_K D vwCl (g_tys D) s0 ∧ gB2 D s0
theorem g_lay : ∀ (ci : Nat) (q : vw_C), vwCl[ci]? = some q → ∀ w ∈ u_ws q.1 q.2.1 q.2.2, w ∈ lw_tbl ∧ g_wk w = true := by
  intro ci q hq
  match ci, hq with
  | 0, hq => cases hq; exact fun w hw => ⟨i_LB w hw, (show ∀ w ∈ u_ws R_LB F_LB 4, g_wk w = true by decide +kernel) w hw⟩
  | 1, hq => cases hq; exact fun w hw => ⟨i_BK w hw, (show ∀ w ∈ u_ws R_BK F_BK 7, g_wk w = true by decide +kernel) w hw⟩
  | 2, hq => cases hq; exact fun w hw => ⟨i_LY w hw, (show ∀ w ∈ u_ws R_LY F_LY 4, g_wk w = true by decide +kernel) w hw⟩
  | 3, hq => cases hq; exact fun w hw => ⟨i_AL w hw, (show ∀ w ∈ u_ws R_AL F_AL 3, g_wk w = true by decide +kernel) w hw⟩
  | 4, hq => cases hq; exact fun w hw => ⟨i_MD w hw, (show ∀ w ∈ u_ws R_MD F_MD 15, g_wk w = true by decide +kernel) w hw⟩
  | k + 5, hq => simp [vwCl] at hq
def g_ty : Nat → Nat → FieldType := fun ci => match ci with
  | 0 => t_LB
  | 1 => t_BK
  | 2 => t_LY
  | 3 => t_AL
  | _ => t_MD
theorem g_ty_ok : ∀ (ci : Nat) (q : vw_C), vwCl[ci]? = some q → ∀ k, k < q.2.2 → parseFieldDescriptor (q.2.1 k).2.2.1 = some (g_ty ci k) := by
  intro ci q hq
  match ci, hq with
  | 0, hq => cases hq; exact t_LB_ok
  | 1, hq => cases hq; exact t_BK_ok
  | 2, hq => cases hq; exact t_LY_ok
  | 3, hq => cases hq; exact t_AL_ok
  | 4, hq => cases hq; exact t_MD_ok
  | k + 5, hq => simp [vwCl] at hq
theorem g_nm : ∀ (ci : Nat) (q : vw_C), vwCl[ci]? = some q → ∀ a, a < q.2.2 → ∀ b, b < q.2.2 → a ≠ b → (q.2.1 a).2.1 ≠ (q.2.1 b).2.1 := by
  intro ci q hq
  match ci, hq with
  | 0, hq => cases hq; exact n_LB
  | 1, hq => cases hq; exact n_BK
  | 2, hq => cases hq; exact n_LY
  | 3, hq => cases hq; exact n_AL
  | 4, hq => cases hq; exact n_MD
  | k + 5, hq => simp [vwCl] at hq
/-- a method's body: its machine, code, tables -/
def gX (D : va_G) (s0 : State) (own : String) (cc : ByteArray) (nL : Nat) (ret : Option FieldType) (p : Program) (s : State) (m : MethodId) (meth : Method) (c : Code) : Prop :=
  p.tables.exec = Jvm.exec ∧ c.code = cc ∧ c.maxLocals = nL ∧ meth.sig.returnType = ret ∧ meth.locks = false ∧ s.vm.findClass own = some m.cls ∧ s0.WarmedH s.vm ∧ gB D s0
theorem gX.w {D : va_G} {s0 : State} {own : String} {cc : ByteArray} {nL : Nat} {ret : Option FieldType} {p : Program} {s : State} {m : MethodId} {meth : Method} {c : Code} (X : gX D s0 own cc nL ret p s m meth c) {args : Array Value} {w : Cond} (hw : w ∈ lw_tbl) (hk : g_wk w = true) : w.before args s = true := g_warm hk X.2.2.2.2.2.2.1 (X.2.2.2.2.2.2.2.1 w hw)
theorem gX.K {D : va_G} {s0 : State} {own : String} {cc : ByteArray} {nL : Nat} {ret : Option FieldType} {p : Program} {s : State} {m : MethodId} {meth : Method} {c : Code} (X : gX D s0 own cc nL ret p s m meth c) : va_K D vwCl (g_tys D) s := va_K.moved X.2.2.2.2.2.2.1.alike X.2.2.2.2.2.2.2.2.1
theorem gX.lay {D : va_G} {s0 : State} {own : String} {cc : ByteArray} {nL : Nat} {ret : Option FieldType} {p : Program} {s : State} {m : MethodId} {meth : Method} {c : Code} (X : gX D s0 own cc nL ret p s m meth c) {ci : Nat} {q : vw_C} (hc : vwCl[ci]? = some q) {args : Array Value} : ∀ w ∈ u_ws q.1 q.2.1 q.2.2, w.before args s = true := fun w hw => X.w (g_lay ci q hc w hw).1 (g_lay ci q hc w hw).2
end
section
/-! NUMBERS: ints and longs by integers -/
def iZ (z : Int) : Int32 := Int32.ofInt z
def lZ (z : Int) : Int64 := Int64.ofInt z
abbrev i_ok (z : Int) : Prop := -2147483648 ≤ z ∧ z < 2147483648
abbrev l_ok (z : Int) : Prop := -9223372036854775808 ≤ z ∧ z < 9223372036854775808
theorem iZ_add (a b : Int) : iZ a + iZ b = iZ (a + b) := by simp [iZ, Int32.ofInt_add]
theorem iZ_sub (a b : Int) : iZ a - iZ b = iZ (a - b) := by simp [iZ, Int32.ofInt_sub]
theorem iZ_mul (a b : Int) : iZ a * iZ b = iZ (a * b) := by simp [iZ, Int32.ofInt_mul]
theorem lZ_add (a b : Int) : lZ a + lZ b = lZ (a + b) := by simp [lZ, Int64.ofInt_add]
theorem lZ_sub (a b : Int) : lZ a - lZ b = lZ (a - b) := by simp [lZ, Int64.ofInt_sub]
theorem lZ_mul (a b : Int) : lZ a * lZ b = lZ (a * b) := by simp [lZ, Int64.ofInt_mul]
theorem iZ_I {a : Int} (h : i_ok a) : (iZ a).toInt = a := Int32.toInt_ofInt_of_le (by have := h.1; omega) (by have := h.2; omega)
theorem lZ_I {a : Int} (h : l_ok a) : (lZ a).toInt = a := Int64.toInt_ofInt_of_le (by have := h.1; omega) (by have := h.2; omega)
theorem iZ_of (x : Int32) : i_ok x.toInt ∧ x = iZ x.toInt := by
  refine ⟨⟨?_, ?_⟩, (Int32.ofInt_toInt x).symm⟩
  · have := Int32.le_toInt x; omega
  · have := Int32.toInt_lt x; omega
theorem lZ_of (x : Int64) : l_ok x.toInt ∧ x = lZ x.toInt := by
  refine ⟨⟨?_, ?_⟩, (Int64.ofInt_toInt x).symm⟩
  · have := Int64.le_toInt x; omega
  · have := Int64.toInt_lt x; omega
theorem iZ_lt {a b : Int} (ha : i_ok a) (hb : i_ok b) : iZ a < iZ b ↔ a < b := by rw [Int32.lt_iff_toInt_lt, iZ_I ha, iZ_I hb]
theorem iZ_le {a b : Int} (ha : i_ok a) (hb : i_ok b) : iZ a ≤ iZ b ↔ a ≤ b := by rw [Int32.le_iff_toInt_le, iZ_I ha, iZ_I hb]
theorem iZ_eq {a b : Int} (ha : i_ok a) (hb : i_ok b) : iZ a = iZ b ↔ a = b := by rw [← Int32.toInt_inj, iZ_I ha, iZ_I hb]
theorem lZ_lt {a b : Int} (ha : l_ok a) (hb : l_ok b) : lZ a < lZ b ↔ a < b := by rw [Int64.lt_iff_toInt_lt, lZ_I ha, lZ_I hb]
theorem lZ_le {a b : Int} (ha : l_ok a) (hb : l_ok b) : lZ a ≤ lZ b ↔ a ≤ b := by rw [Int64.le_iff_toInt_le, lZ_I ha, lZ_I hb]
theorem lZ_eq {a b : Int} (ha : l_ok a) (hb : l_ok b) : lZ a = lZ b ↔ a = b := by rw [← Int64.toInt_inj, lZ_I ha, lZ_I hb]
theorem iZ_0 : (0 : Int32) = iZ 0 := by decide
theorem iZ_lt0 {a : Int} (ha : i_ok a) : iZ a < 0 ↔ a < 0 := by rw [iZ_0, iZ_lt ha (by decide)]
theorem iZ_le0 {a : Int} (ha : i_ok a) : iZ a ≤ 0 ↔ a ≤ 0 := by rw [iZ_0, iZ_le ha (by decide)]
theorem iZ_ge0 {a : Int} (ha : i_ok a) : 0 ≤ iZ a ↔ 0 ≤ a := by rw [iZ_0, iZ_le (by decide) ha]
theorem iZ_gt0 {a : Int} (ha : i_ok a) : 0 < iZ a ↔ 0 < a := by rw [iZ_0, iZ_lt (by decide) ha]
theorem iZ_eq0 {a : Int} (ha : i_ok a) : iZ a = 0 ↔ a = 0 := by rw [iZ_0, iZ_eq ha (by decide)]
theorem iZ_L {a : Int} (h : i_ok a) : (iZ a).toInt64 = lZ a := by
  rw [← Int64.toInt_inj, lZ_I ⟨by have := h.1; omega, by have := h.2; omega⟩]
  rw [Int32.toInt_toInt64, iZ_I h]
theorem iZ_n {i : Int} {j : Nat} (hi : i = (j : Int)) (hj : j < 2147483648) : (iZ i).toNatClampNeg = j := by
  subst hi
  show (iZ j).toInt.toNat = j
  rw [iZ_I ⟨by omega, by omega⟩]
  omega
theorem iZ_in {i : Int} {j n : Nat} (hi : i = (j : Int)) (hj : j < n) (hn : n < 2147483648) : vp_in (iZ i) n := by
  subst hi
  rw [vp_in_iff, iZ_I ⟨by omega, by omega⟩]
  omega
theorem iZ_nat (n : Nat) : Int32.ofNat n = iZ (n : Int) := by
  show Int32.ofNat n = Int32.ofInt (n : Int)
  first | rfl | simp
theorem iZ_nn {i : Int} (h0 : 0 ≤ i) (h1 : i < 2147483648) : ¬ iZ i < 0 := by
  rw [iZ_lt0 ⟨by omega, h1⟩]
  omega
end
section
/-! THE WALK OVER THE GHOST HEAP: rows -/
def G (D : va_G) (s0 : State) (p : Program) (l : Launch) (e : Env) (R : Room) (s : State) (m : MethodId) (args : Array Value) (below : List Frame) (meth : Method) (c : Code) (h : gH) (k n : Nat) (Q : State → Prop) (g : JFrame) : Prop :=
  ∀ (H : Heap) (locs : List Loc) (cells slots : Nat), g_M D s0 h H → (∀ q ∈ locs, s0.heap.size ≤ q.base) → cells ≤ k → slots ≤ n → W p l e R s m args below meth c H locs cells slots Q g
section GR
variable {D : va_G} {s0 : State} {p : Program} {l : Launch} {e : Env} {R : Room} {s : State} {m : MethodId} {args : Array Value} {below : List Frame} {meth : Method} {c : Code} {h : gH} {k n : Nat} {Q : State → Prop}
variable {own : String} {cc : ByteArray} {nL : Nat} {ret : Option FieldType} {pc : Nat} {ls : Array Slot} {rest : List Value} {a : Nat}
/-- one instruction that leaves the heap -/
theorem g_1 {g g' : JFrame} (st : ∀ {H : Heap} {locs : List Loc} {cells slots : Nat}, W p l e R s m args below meth c H locs cells slots Q g' → W p l e R s m args below meth c H locs cells slots Q g)
    (kk : G D s0 p l e R s m args below meth c h k n Q g') : G D s0 p l e R s m args below meth c h k n Q g :=
  fun H locs cells slots hM hl h1 h2 => st (kk H locs cells slots hM hl h1 h2)
theorem g_2 {g g1 g2 : JFrame} {P1 P2 : Prop} (st : ∀ {H : Heap} {locs : List Loc} {cells slots : Nat}, (P1 → W p l e R s m args below meth c H locs cells slots Q g1) → (P2 → W p l e R s m args below meth c H locs cells slots Q g2) → W p l e R s m args below meth c H locs cells slots Q g)
    (k1 : P1 → G D s0 p l e R s m args below meth c h k n Q g1) (k2 : P2 → G D s0 p l e R s m args below meth c h k n Q g2) : G D s0 p l e R s m args below meth c h k n Q g :=
  fun H locs cells slots hM hl h1 h2 => st (fun q => k1 q H locs cells slots hM hl h1 h2) (fun q => k2 q H locs cells slots hM hl h1 h2)
theorem g_s {g : JFrame} {A : Array Slot → Prop} {f : Array Slot → JFrame} (st : ∀ {H : Heap} {locs : List Loc} {cells slots : Nat}, (∀ z : Array Slot, A z → W p l e R s m args below meth c H locs cells slots Q (f z)) → W p l e R s m args below meth c H locs cells slots Q g)
    (kk : ∀ z : Array Slot, A z → G D s0 p l e R s m args below meth c h k n Q (f z)) : G D s0 p l e R s m args below meth c h k n Q g :=
  fun H locs cells slots hM hl h1 h2 => st (fun z hz => kk z hz H locs cells slots hM hl h1 h2)
theorem g_widen {k' n' : Nat} {g : JFrame} (hk : k ≤ k') (hn : n ≤ n') (kk : G D s0 p l e R s m args below meth c h k' n' Q g) : G D s0 p l e R s m args below meth c h k n Q g :=
  fun H locs cells slots hM hl h1 h2 => kk H locs cells slots hM hl (Nat.le_trans h1 hk) (Nat.le_trans h2 hn)
/-- reading a field -/
theorem g_get (X : gX D s0 own cc nL ret p s m meth c) {ref : String} {q : vw_C} {ci index : Nat} (hc : vwCl[ci]? = some q) {t : Nat × Nat} {fs : List Value} (ha : h a = some (t, .inr (ci, fs))) (j : Nat) (hj : j < q.2.2) {nm d : String} (hnd : (q.2.1 j).2.1 = nm ∧ (q.2.1 j).2.2.1 = d)
    (hlink : (Cond.fieldLink own index ref nm d) ∈ lw_tbl) (hsame : (q.2.1 j).1 = ref ∨ Cond.sameField ref (q.2.1 j).1 nm d ∈ lw_tbl) {v : Value} (hv : fs[j]? = some v) (hdg : decode cc pc = .ok (.getfield index, 3))
    (kk : G D s0 p l e R s m args below meth c h k n Q (F0 m (pc + 3) ls (v :: rest))) : G D s0 p l e R s m args below meth c h k n Q (F0 m pc ls (.ref a :: rest)) := by
  obtain ⟨rfl, rfl⟩ := hnd
  refine fun H locs cells slots hM hl h1 h2 => va_get X.1 X.2.1 (X.lay hc) (fun _ h => h) X.2.2.2.2.2.1 X.K (g_P hM ha) 0 rfl hc j hj (X.w hlink rfl) (fun x hx => ?_) hv hdg (kk H locs cells slots hM hl h1 h2)
  rcases hsame with e | e
  · rw [← e]; exact hx
  · exact u_same (args := args) (X.w e rfl) x hx
theorem g_getN (X : gX D s0 own cc nL ret p s m meth c) {host : String} {q : vw_C} {ci index : Nat} (hc : vwCl[ci]? = some q) {t : Nat × Nat} {fs : List Value} (ha : h a = some (t, .inr (ci, fs))) (j : Nat) (hj : j < q.2.2) {nm d : String} (hnd : (q.2.1 j).2.1 = nm ∧ (q.2.1 j).2.2.1 = d)
    (hlink : (Cond.fieldLinkNest own index (q.2.1 j).1 nm d host) ∈ lw_tbl) {v : Value} (hv : fs[j]? = some v) (hdg : decode cc pc = .ok (.getfield index, 3))
    (kk : G D s0 p l e R s m args below meth c h k n Q (F0 m (pc + 3) ls (v :: rest))) : G D s0 p l e R s m args below meth c h k n Q (F0 m pc ls (.ref a :: rest)) := by
  obtain ⟨rfl, rfl⟩ := hnd
  exact fun H locs cells slots hM hl h1 h2 => va_getN X.1 X.2.1 (X.lay hc) (fun _ h => h) X.2.2.2.2.2.1 X.K (g_P hM ha) 0 rfl hc j hj (X.w hlink rfl) (fun _ h => h) hv hdg (kk H locs cells slots hM hl h1 h2)
theorem g_lc {locs : List Loc} {i : Nat} (hl : ∀ q ∈ locs, s0.heap.size ≤ q.base) (ha : s0.heap.size ≤ a) : ∀ q ∈ locs ++ [(⟨a, i⟩ : Loc)], s0.heap.size ≤ q.base := by
  intro q hq
  rcases List.mem_append.mp hq with h1 | h1
  · exact hl q h1
  · rw [List.mem_singleton.mp h1]
    exact ha
/-- writing a field that isn't final -/
theorem g_put (X : gX D s0 own cc nL ret p s m meth c) {ref : String} {q : vw_C} {ci index : Nat} (hc : vwCl[ci]? = some q) {t : Nat × Nat} {fs : List Value} (ha : h a = some (t, .inr (ci, fs))) (ht : t.1 ≠ 0) (j : Nat) (hj : j < q.2.2) {nm d : String} (hnd : (q.2.1 j).2.1 = nm ∧ (q.2.1 j).2.2.1 = d)
    (hlink : (Cond.fieldLink own index ref nm d) ∈ lw_tbl) (hsame : (q.2.1 j).1 = ref ∨ Cond.sameField ref (q.2.1 j).1 nm d ∈ lw_tbl) (hfin : (q.2.1 j).2.2.2 = false) {v : Value} (hn : narrow (g_ty ci j) v = v) (hfit : fits (g_ty ci j) v = true) (hlen : j < fs.length) (hdg : decode cc pc = .ok (.putfield index, 3))
    (kk : G D s0 p l e R s m args below meth c (g_up h a (t, .inr (ci, fs.set j v))) k n Q (F0 m (pc + 3) ls rest)) : G D s0 p l e R s m args below meth c h k n Q (F0 m pc ls (v :: .ref a :: rest)) := by
  obtain ⟨rfl, rfl⟩ := hnd
  intro H locs cells slots hM hl h1 h2
  have hts := X.lay (args := args) hc
  have hap := va_apart (own := own) hts (fun _ h => h) (g_ty ci) (g_ty_ok ci q hc) (g_nm ci q hc) X.K hc
  obtain ⟨⟨r, hr1, cell, q1, q2, q3, q4⟩, hN⟩ := hM.1 a _ ha
  have hr : r = q := Option.some.inj (hr1.symm.trans hc)
  subst hr
  obtain ⟨hS, hfc, kC, hkC, hkind⟩ := X.K.1 ci _ hc
  obtain ⟨cf, kf, fi, f, hi, hsl⟩ := hS j hj
  have hlay := hts _ (u_in_lay hj)
  unfold u_lay at hlay
  rw [if_neg (by rw [hfin]; decide)] at hlay
  have hst := (u_facts hfc hkC (u_lays hts (fun _ h => h) hj) hi).1
  have h6 := u_store hfc hkC hkind hlay hi (g_ty_ok ci r hc j hj) hn hfit
  have hi' : s.fieldFound? ref (r.2.1 j).2.1 (r.2.1 j).2.2.1 = some (cf, kf, fi, f) := by
    rcases hsame with e | e
    · rw [← e]; exact hi
    · exact u_same (args := args) (X.w e rfl) _ hi
  refine W.putK X.1 X.2.1 (f := f) ⟨X.2.2.2.2.2.1, X.w hlink rfl, ⟨_, _, _, hi'⟩, hst⟩ (by rw [q2]; exact h6) q1 q3 (by rw [hsl]; exact k2_hasslot (q4 j hj)) rfl rfl hdg fun H' e1 e2 e3 => ?_
  rw [hsl] at e1 ⊢
  exact kk H' _ cells slots (hM.set ha ht ⟨_, hc, t_OB.to (V := updV (vp_V fs) j v) ⟨_, e1, q2, q3, t_set q4 hap hj v⟩ (fun i _ => vp_updV_set hlen v i)⟩ e2 e3) (g_lc hl (hN ht)) h1 h2
/-- .. of a nest mate -/
theorem g_putN (X : gX D s0 own cc nL ret p s m meth c) {host : String} {q : vw_C} {ci index : Nat} (hc : vwCl[ci]? = some q) {t : Nat × Nat} {fs : List Value} (ha : h a = some (t, .inr (ci, fs))) (ht : t.1 ≠ 0) (j : Nat) (hj : j < q.2.2) {nm d : String} (hnd : (q.2.1 j).2.1 = nm ∧ (q.2.1 j).2.2.1 = d)
    (hlink : (Cond.fieldLinkNest own index (q.2.1 j).1 nm d host) ∈ lw_tbl) (hfin : (q.2.1 j).2.2.2 = false) {v : Value} (hn : narrow (g_ty ci j) v = v) (hfit : fits (g_ty ci j) v = true) (hlen : j < fs.length) (hdg : decode cc pc = .ok (.putfield index, 3))
    (kk : G D s0 p l e R s m args below meth c (g_up h a (t, .inr (ci, fs.set j v))) k n Q (F0 m (pc + 3) ls rest)) : G D s0 p l e R s m args below meth c h k n Q (F0 m pc ls (v :: .ref a :: rest)) := by
  obtain ⟨rfl, rfl⟩ := hnd
  intro H locs cells slots hM hl h1 h2
  have hts := X.lay (args := args) hc
  have hap := va_apart (own := own) hts (fun _ h => h) (g_ty ci) (g_ty_ok ci q hc) (g_nm ci q hc) X.K hc
  obtain ⟨⟨r, hr1, cell, q1, q2, q3, q4⟩, hN⟩ := hM.1 a _ ha
  have hr : r = q := Option.some.inj (hr1.symm.trans hc)
  subst hr
  obtain ⟨hS, hfc, kC, hkC, hkind⟩ := X.K.1 ci _ hc
  obtain ⟨cf, kf, fi, f, hi, hsl⟩ := hS j hj
  have hlay := hts _ (u_in_lay hj)
  unfold u_lay at hlay
  rw [if_neg (by rw [hfin]; decide)] at hlay
  have hst := (u_facts hfc hkC (u_lays hts (fun _ h => h) hj) hi).1
  have h6 := u_store hfc hkC hkind hlay hi (g_ty_ok ci r hc j hj) hn hfit
  refine va_WputK X.1 X.2.1 (f := f) X.2.2.2.2.2.1 (X.w hlink rfl) hi hst (by rw [q2]; exact h6) q1 q3 (by rw [hsl]; exact k2_hasslot (q4 j hj)) rfl rfl hdg fun H' e1 e2 e3 => ?_
  rw [hsl] at e1 ⊢
  exact kk H' _ cells slots (hM.set ha ht ⟨_, hc, t_OB.to (V := updV (vp_V fs) j v) ⟨_, e1, q2, q3, t_set q4 hap hj v⟩ (fun i _ => vp_updV_set hlen v i)⟩ e2 e3) (g_lc hl (hN ht)) h1 h2
/-- a final field, in its class's constructor -/
theorem g_putF (X : gX D s0 own cc nL ret p s m meth c) (hin2 : meth.name = "<init>") {q : vw_C} {ci index : Nat} (hc : vwCl[ci]? = some q) {t : Nat × Nat} {fs : List Value} (ha : h a = some (t, .inr (ci, fs))) (ht : t.1 ≠ 0) (j : Nat) (hj : j < q.2.2) {nm d : String} (hnd : (q.2.1 j).2.1 = nm ∧ (q.2.1 j).2.2.1 = d)
    (hdecl : (q.2.1 j).1 = own) (hlink : (Cond.fieldLink own index own nm d) ∈ lw_tbl) (hfin : (q.2.1 j).2.2.2 = true) {v : Value} (hn : narrow (g_ty ci j) v = v) (hfit : fits (g_ty ci j) v = true) (hlen : j < fs.length) (hdg : decode cc pc = .ok (.putfield index, 3))
    (kk : G D s0 p l e R s m args below meth c (g_up h a (t, .inr (ci, fs.set j v))) k n Q (F0 m (pc + 3) ls rest)) : G D s0 p l e R s m args below meth c h k n Q (F0 m pc ls (v :: .ref a :: rest)) := by
  obtain ⟨rfl, rfl⟩ := hnd
  intro H locs cells slots hM hl h1 h2
  have hts := X.lay (args := args) hc
  have hap := va_apart (own := own) hts (fun _ h => h) (g_ty ci) (g_ty_ok ci q hc) (g_nm ci q hc) X.K hc
  obtain ⟨⟨r, hr1, cell, q1, q2, q3, q4⟩, hN⟩ := hM.1 a _ ha
  have hr : r = q := Option.some.inj (hr1.symm.trans hc)
  subst hr
  obtain ⟨hS, hfc, kC, hkC, hkind⟩ := X.K.1 ci _ hc
  obtain ⟨cf, kf, fi, f, hi, hsl⟩ := hS j hj
  have hlay := hts _ (u_in_lay hj)
  unfold u_lay at hlay
  rw [if_pos hfin] at hlay
  have hst := (u_facts hfc hkC (u_lays hts (fun _ h => h) hj) hi).1
  have hcf : m.cls = cf := by
    obtain ⟨_, _, c', _, _, _, -, -, hf', -, -, -, hown2, -⟩ := Cond.laysFinal_spec hlay
    have e1 : c' = cf := by have := hi.symm.trans hf'; simp at this; exact this.1.symm
    rw [hdecl] at hown2
    rw [← e1]; exact Option.some.inj (X.2.2.2.2.2.1.symm.trans hown2)
  have h6 := u_fits hfc hkC hkind (Or.inr hlay) hi (g_ty_ok ci r hc j hj) hn hfit
  refine W.putFinK X.1 X.2.1 X.2.2.2.2.2.1 (X.w hlink rfl) (by rw [← hdecl]; exact hi) hst hcf hin2 (by rw [q2]; exact h6) q1 q3 (by rw [hsl]; exact k2_hasslot (q4 j hj)) rfl rfl hdg fun H' e1 e2 e3 => ?_
  rw [hsl] at e1 ⊢
  exact kk H' _ cells slots (hM.set ha ht ⟨_, hc, t_OB.to (V := updV (vp_V fs) j v) ⟨_, e1, q2, q3, t_set q4 hap hj v⟩ (fun i _ => vp_updV_set hlen v i)⟩ e2 e3) (g_lc hl (hN ht)) h1 h2
end GR
end
section
/-! arrays, new cells, calls, ends -/
abbrev gI (D : va_G) (n : Nat) (f : Nat → Int) : va_E := .inl (D.1 100, n, .inl (fun j => iZ (f j)))
abbrev gL (D : va_G) (n : Nat) (f : Nat → Int) : va_E := .inl (D.1 101, n, .inr (.inl (fun j => lZ (f j))))
abbrev gO (D : va_G) (n : Nat) (f : Nat → Option Nat) : va_E := .inl (D.1 102, n, .inr (.inr (.inr (.inr f))))
section GR2
variable {D : va_G} {s0 : State} {p : Program} {l : Launch} {e : Env} {R : Room} {s : State} {m : MethodId} {args : Array Value} {below : List Frame} {meth : Method} {c : Code} {h : gH} {k n : Nat} {Q : State → Prop}
variable {own : String} {cc : ByteArray} {nL : Nat} {ret : Option FieldType} {pc : Nat} {ls : Array Slot} {rest : List Value} {a : Nat}
theorem g_ild (X : gX D s0 own cc nL ret p s m meth c) {t : Nat × Nat} {N : Nat} {f : Nat → Int} (ha : h a = some (t, gI D N f)) {i : Int} (j : Nat) (hi : i = (j : Int)) (hj : j < N) (hN : N < 2147483648) (hdg : decode cc pc = .ok (.iaload, 1))
    (kk : G D s0 p l e R s m args below meth c h k n Q (F0 m (pc + 1) ls (.int (iZ (f j)) :: rest))) : G D s0 p l e R s m args below meth c h k n Q (F0 m pc ls (.int (iZ i) :: .ref a :: rest)) := by
  intro H locs cells slots hM hl h1 h2
  refine va_iald X.1 X.2.1 X.K (g_P hM ha) 0 0 rfl rfl (iZ_in hi hj hN) hdg ?_
  rw [iZ_n hi (by omega)]
  exact kk H locs cells slots hM hl h1 h2
theorem g_lld (X : gX D s0 own cc nL ret p s m meth c) {t : Nat × Nat} {N : Nat} {f : Nat → Int} (ha : h a = some (t, gL D N f)) {i : Int} (j : Nat) (hi : i = (j : Int)) (hj : j < N) (hN : N < 2147483648) (hdg : decode cc pc = .ok (.laload, 1))
    (kk : G D s0 p l e R s m args below meth c h k n Q (F0 m (pc + 1) ls (.long (lZ (f j)) :: rest))) : G D s0 p l e R s m args below meth c h k n Q (F0 m pc ls (.int (iZ i) :: .ref a :: rest)) := by
  intro H locs cells slots hM hl h1 h2
  refine va_lald X.1 X.2.1 X.K (g_P hM ha) 0 1 rfl rfl (iZ_in hi hj hN) hdg ?_
  rw [iZ_n hi (by omega)]
  exact kk H locs cells slots hM hl h1 h2
theorem g_ald (X : gX D s0 own cc nL ret p s m meth c) {t : Nat × Nat} {N : Nat} {f : Nat → Option Nat} (ha : h a = some (t, gO D N f)) {i : Int} (j : Nat) (hi : i = (j : Int)) (hj : j < N) (hN : N < 2147483648) (hdg : decode cc pc = .ok (.aaload, 1))
    (kk : G D s0 p l e R s m args below meth c h k n Q (F0 m (pc + 1) ls (va_rf (f j) :: rest))) : G D s0 p l e R s m args below meth c h k n Q (F0 m pc ls (.int (iZ i) :: .ref a :: rest)) := by
  intro H locs cells slots hM hl h1 h2
  refine va_aldq (C := "java/lang/Object") X.1 X.2.1 X.K (g_P hM ha) 0 2 rfl rfl (iZ_in hi hj hN) hdg ?_
  rw [iZ_n hi (by omega)]
  exact kk H locs cells slots hM hl h1 h2
theorem g_aleni (X : gX D s0 own cc nL ret p s m meth c) {t : Nat × Nat} {N : Nat} {f : Nat → Int} (ha : h a = some (t, gI D N f)) (hdg : decode cc pc = .ok (.arraylength, 1))
    (kk : G D s0 p l e R s m args below meth c h k n Q (F0 m (pc + 1) ls (.int (iZ N) :: rest))) : G D s0 p l e R s m args below meth c h k n Q (F0 m pc ls (.ref a :: rest)) :=
  fun H locs cells slots hM hl h1 h2 => va_alen X.1 X.2.1 X.K (g_P hM ha) 0 0 rfl (ty := .int) rfl (iZ_nat N) hdg (kk H locs cells slots hM hl h1 h2)
theorem g_aleno (X : gX D s0 own cc nL ret p s m meth c) {t : Nat × Nat} {N : Nat} {f : Nat → Option Nat} (ha : h a = some (t, gO D N f)) (hdg : decode cc pc = .ok (.arraylength, 1))
    (kk : G D s0 p l e R s m args below meth c h k n Q (F0 m (pc + 1) ls (.int (iZ N) :: rest))) : G D s0 p l e R s m args below meth c h k n Q (F0 m pc ls (.ref a :: rest)) :=
  fun H locs cells slots hM hl h1 h2 => va_alen X.1 X.2.1 X.K (g_P hM ha) 0 2 rfl (ty := .object "java/lang/Object") rfl (iZ_nat N) hdg (kk H locs cells slots hM hl h1 h2)
theorem g_ist (X : gX D s0 own cc nL ret p s m meth c) {t : Nat × Nat} {N : Nat} {f : Nat → Int} (ha : h a = some (t, gI D N f)) (ht : t.1 ≠ 0) {i x : Int} (j : Nat) (hi : i = (j : Int)) (hj : j < N) (hN : N < 2147483648) (hdg : decode cc pc = .ok (.iastore, 1))
    (kk : G D s0 p l e R s m args below meth c (g_up h a (t, gI D N (va_up f j x))) k n Q (F0 m (pc + 1) ls rest)) : G D s0 p l e R s m args below meth c h k n Q (F0 m pc ls (.int (iZ x) :: .int (iZ i) :: .ref a :: rest)) := by
  intro H locs cells slots hM hl h1 h2
  have hc1 := (hM.1 a _ ha).1
  refine W.iast X.1 X.2.1 hc1 ((X.K.2 0 _ rfl).1 N (fun j => .int (iZ (f j)))) (fun q => by cases q) (by show ¬ (_ ∨ (arrV _ _ _).slots.size ≤ _); rw [arrV_size]; exact iZ_in hi hj hN) rfl rfl hdg fun H1 e1 z oq => ?_
  refine kk H1 _ cells slots (hM.set ha ht ?_ z oq) (g_lc hl ((hM.1 a _ ha).2 ht)) h1 h2
  show H1[a]? = some (vp_cell _ _)
  rw [e1, vp_cell_i, vp_cell_i, arrV_store, iZ_n hi (by omega)]
  congr 2
  funext q
  by_cases hq : q = j
  · subst hq
    simp [updV, va_up]
  · simp [updV, va_up, hq]
theorem g_lst (X : gX D s0 own cc nL ret p s m meth c) {t : Nat × Nat} {N : Nat} {f : Nat → Int} (ha : h a = some (t, gL D N f)) (ht : t.1 ≠ 0) {i x : Int} (j : Nat) (hi : i = (j : Int)) (hj : j < N) (hN : N < 2147483648) (hdg : decode cc pc = .ok (.lastore, 1))
    (kk : G D s0 p l e R s m args below meth c (g_up h a (t, gL D N (va_up f j x))) k n Q (F0 m (pc + 1) ls rest)) : G D s0 p l e R s m args below meth c h k n Q (F0 m pc ls (.long (lZ x) :: .int (iZ i) :: .ref a :: rest)) := by
  intro H locs cells slots hM hl h1 h2
  have hc1 := (hM.1 a _ ha).1
  refine W.last X.1 X.2.1 hc1 ((X.K.2 1 _ rfl).1 N (fun j => .long (lZ (f j)))) (fun q => by cases q) (by show ¬ (_ ∨ (arrV _ _ _).slots.size ≤ _); rw [arrV_size]; exact iZ_in hi hj hN) rfl rfl hdg fun H1 e1 z oq => ?_
  refine kk H1 _ cells slots (hM.set ha ht ?_ z oq) (g_lc hl ((hM.1 a _ ha).2 ht)) h1 h2
  show H1[a]? = some (vp_cell _ _)
  rw [e1, vp_cell_l, vp_cell_l, arrV_store, iZ_n hi (by omega)]
  congr 2
  funext q
  by_cases hq : q = j
  · subst hq
    simp [updV, va_up]
  · simp [updV, va_up, hq]
/-- a null into an array of references -/
theorem g_astN (X : gX D s0 own cc nL ret p s m meth c) {t : Nat × Nat} {N : Nat} {f : Nat → Option Nat} (ha : h a = some (t, gO D N f)) (ht : t.1 ≠ 0) {i : Int} (j : Nat) (hi : i = (j : Int)) (hj : j < N) (hN : N < 2147483648) (hdg : decode cc pc = .ok (.aastore, 1))
    (kk : G D s0 p l e R s m args below meth c (g_up h a (t, gO D N (va_up f j none))) k n Q (F0 m (pc + 1) ls rest)) : G D s0 p l e R s m args below meth c h k n Q (F0 m pc ls (.null :: .int (iZ i) :: .ref a :: rest)) := by
  intro H locs cells slots hM hl h1 h2
  have hc1 := (hM.1 a _ ha).1
  refine va_WaastN (C := "java/lang/Object") X.1 X.2.1 hc1 ((X.K.2 2 _ rfl).1 N (fun j => va_rf (f j))) (fun q => by cases q) (by show ¬ (_ ∨ (arrV _ _ _).slots.size ≤ _); rw [arrV_size]; exact iZ_in hi hj hN) rfl rfl hdg fun H1 e1 z oq => ?_
  refine kk H1 _ cells slots (hM.set ha ht ?_ z oq) (g_lc hl ((hM.1 a _ ha).2 ht)) h1 h2
  show H1[a]? = some (vp_cell _ _)
  rw [e1, vp_cell_q, vp_cell_q, arrV_store, iZ_n hi (by omega)]
  congr 2
  funext q
  by_cases hq : q = j
  · subst hq
    simp [updV, va_up, va_rf]
  · simp [updV, va_up, hq]
/-- an object of ours into an array of references -/
theorem g_ast (X : gX D s0 own cc nL ret p s m meth c) {t : Nat × Nat} {N : Nat} {f : Nat → Option Nat} (ha : h a = some (t, gO D N f)) (ht : t.1 ≠ 0) {b ci : Nat} {tb : Nat × Nat} {fs : List Value} {q : vw_C} (hbb : h b = some (tb, .inr (ci, fs))) (hc : vwCl[ci]? = some q) (hcast : Cond.castable q.1 "java/lang/Object" ∈ lw_tbl) {i : Int} (j : Nat) (hi : i = (j : Int)) (hj : j < N) (hN : N < 2147483648) (hdg : decode cc pc = .ok (.aastore, 1))
    (kk : G D s0 p l e R s m args below meth c (g_up h a (t, gO D N (va_up f j (some b)))) k n Q (F0 m (pc + 1) ls rest)) : G D s0 p l e R s m args below meth c h k n Q (F0 m pc ls (.ref b :: .int (iZ i) :: .ref a :: rest)) := by
  intro H locs cells slots hM hl h1 h2
  have hc1 := (hM.1 a _ ha).1
  obtain ⟨cellV, g1, g3, g4⟩ := va_recv X.K (g_P hM hbb) hc (q0 := 0) rfl
  obtain ⟨kC, hkC, -⟩ := Vm.findClass_spec g4
  obtain ⟨c0, t0, f1, f2, f3⟩ := Cond.castable_spec (X.w (args := args) hcast rfl)
  obtain ⟨kA, comp, k1, k2, k3, -⟩ := (X.K.2 2 _ rfl).2
  obtain ⟨kE, hkE, -⟩ := Vm.findClass_spec k3
  cases g4.symm.trans f1
  cases k3.symm.trans f2
  have hin := iZ_in hi hj hN
  refine W.aast X.1 X.2.1 hc1 (fun q h => by cases h) (fun h => by cases h) k1 k2 rfl hkE ⟨fun q => hin (Or.inl q), by show _ < (arrV _ _ _).slots.size; rw [arrV_size]; exact Nat.not_le.mp fun q => hin (Or.inr q)⟩ g1 (fun q h => by rw [h] at g3; cases g3) hkC f3 rfl rfl hdg fun H1 e1 z oq => ?_
  refine kk H1 _ cells slots (hM.set ha ht ?_ z oq) (g_lc hl ((hM.1 a _ ha).2 ht)) h1 h2
  show H1[a]? = some (vp_cell _ _)
  rw [e1, vp_cell_q, vp_cell_q, arrV_store, iZ_n hi (by omega)]
  congr 2
  funext q
  by_cases hq : q = j
  · subst hq
    simp [updV, va_up, va_rf]
  · simp [updV, va_up, hq]
/-- a new object of ours, with the tag that we give it -/
theorem g_new (X : gX D s0 own cc nL ret p s m meth c) {C : String} {T : u_T} {N ci index : Nat} (hc : vwCl[ci]? = some (C, T, N)) (hcl : Cond.classLink own index C ∈ lw_tbl) (hinst : Cond.instantiable C N ∈ lw_tbl) (hini : Cond.initialized C ∈ lw_tbl) {fs : List Value} (hfs : ∀ j, j < N → defaultValue (g_ty ci j) = vp_V fs j) (tg : Nat → Nat × Nat)
    (hcells : k + 1 ≤ R.cells) (hslots : n + N ≤ R.slots) (hdg : decode cc pc = .ok (.new index, 3))
    (kk : ∀ a : Nat, h a = none → G D s0 p l e R s m args below meth c (g_up h a (tg a, .inr (ci, fs))) (k + 1) (n + N) Q (F0 m (pc + 3) ls (.ref a :: rest))) : G D s0 p l e R s m args below meth c h k n Q (F0 m pc ls rest) := by
  intro H locs cells slots hM hl h1 h2
  have hKn := X.K.1 ci _ hc
  refine W.newcK X.1 X.2.1 X.2.2.2.2.2.1 (X.w hcl rfl) (X.w hinst rfl) (X.w hini rfl) rfl hdg (by omega) (by omega) hKn.2.1 rfl fun H1 kC hkC e1 z1 o1 => ?_
  exact kk H.size (hM.fresh (Nat.le_refl _)) H1 locs (cells + 1) (slots + N) (hM.push ⟨_, hc, (u_born (g_ty ci) (X.lay (args := args) hc) (fun _ h => h) hKn hkC e1 (g_ty_ok ci _ hc)).to hfs⟩ z1 o1) hl (by omega) (by omega)
theorem g_newi (X : gX D s0 own cc nL ret p s m meth c) {i : Int} (N : Nat) (hi : i = (N : Int)) (hN : N ≤ 100000000) (tg : Nat → Nat × Nat) (hcells : k + 1 ≤ R.cells) (hslots : n + N ≤ R.slots) (hdg : decode cc pc = .ok (.newarray .int, 2))
    (kk : ∀ a : Nat, h a = none → G D s0 p l e R s m args below meth c (g_up h a (tg a, gI D N (fun _ => 0))) (k + 1) (n + N) Q (F0 m (pc + 2) ls (.ref a :: rest))) : G D s0 p l e R s m args below meth c h k n Q (F0 m pc ls (.int (iZ i) :: rest)) := by
  intro H locs cells slots hM hl h1 h2
  refine va_newaK X.1 X.2.1 (atype := .int) (X.w tw_217 rfl) rfl hdg rfl (by rw [hi]; exact iZ_nn (by omega) (by omega)) (iZ_n hi (by omega)) (by show N * 4 ≤ _; omega) (by omega) (by omega) rfl fun H1 cA e1 z1 o1 hAr hNm => ?_
  have hcA : cA = D.1 100 := Option.some.inj (hNm.symm.trans (X.K.2 0 _ rfl).2)
  subst hcA
  exact kk H.size (hM.fresh (Nat.le_refl _)) H1 locs (cells + 1) (slots + N) (hM.push (show H1[H.size]? = some (vp_cell _ _) by rw [vp_cell_i]; exact e1) z1 o1) hl (by omega) (by omega)
theorem g_newl (X : gX D s0 own cc nL ret p s m meth c) {i : Int} (N : Nat) (hi : i = (N : Int)) (hN : N ≤ 60000000) (tg : Nat → Nat × Nat) (hcells : k + 1 ≤ R.cells) (hslots : n + N ≤ R.slots) (hdg : decode cc pc = .ok (.newarray .long, 2))
    (kk : ∀ a : Nat, h a = none → G D s0 p l e R s m args below meth c (g_up h a (tg a, gL D N (fun _ => 0))) (k + 1) (n + N) Q (F0 m (pc + 2) ls (.ref a :: rest))) : G D s0 p l e R s m args below meth c h k n Q (F0 m pc ls (.int (iZ i) :: rest)) := by
  intro H locs cells slots hM hl h1 h2
  refine va_newaK X.1 X.2.1 (atype := .long) (X.w tw_218 rfl) rfl hdg rfl (by rw [hi]; exact iZ_nn (by omega) (by omega)) (iZ_n hi (by omega)) (by show N * 8 ≤ _; omega) (by omega) (by omega) rfl fun H1 cA e1 z1 o1 hAr hNm => ?_
  have hcA : cA = D.1 101 := Option.some.inj (hNm.symm.trans (X.K.2 1 _ rfl).2)
  subst hcA
  exact kk H.size (hM.fresh (Nat.le_refl _)) H1 locs (cells + 1) (slots + N) (hM.push (show H1[H.size]? = some (vp_cell _ _) by rw [vp_cell_l]; exact e1) z1 o1) hl (by omega) (by omega)
theorem g_newo (X : gX D s0 own cc nL ret p s m meth c) {index : Nat} (hcl : Cond.classLink own index "java/lang/Object" ∈ lw_tbl) {i : Int} (N : Nat) (hi : i = (N : Int)) (hN : N ≤ 100000000) (tg : Nat → Nat × Nat) (hcells : k + 1 ≤ R.cells) (hslots : n + N ≤ R.slots) (hdg : decode cc pc = .ok (.anewarray index, 3))
    (kk : ∀ a : Nat, h a = none → G D s0 p l e R s m args below meth c (g_up h a (tg a, gO D N (fun _ => none))) (k + 1) (n + N) Q (F0 m (pc + 3) ls (.ref a :: rest))) : G D s0 p l e R s m args below meth c h k n Q (F0 m pc ls (.int (iZ i) :: rest)) := by
  intro H locs cells slots hM hl h1 h2
  have hnn : (iZ i).toNatClampNeg = N := iZ_n hi (by omega)
  refine W.anew X.1 X.2.1 X.2.2.2.2.2.1 (X.w hcl rfl) (X.w tw_264 rfl) rfl hdg rfl (by rw [hi]; exact iZ_nn (by omega) (by omega)) (by rw [hnn]; omega) (by omega) (by rw [hnn]; omega) fun cA kA comp f1 f2 f3 f4 => ?_
  obtain ⟨kA', comp', k1, k2, k3, k4⟩ := (X.K.2 2 _ rfl).2
  have hcA : cA = D.1 102 := Option.some.inj (f1.symm.trans k4)
  subst hcA
  rw [hnn]
  generalize hH1 : H.push ({ cls := D.1 102, slots := Array.replicate N .null, vm := .none } : Cell) = H1
  have z1 : H1.size = H.size + 1 := by rw [← hH1, Array.size_push]
  have e1 : H1[H.size]? = some (arrV (D.1 102) N (fun _ => .null)) := by rw [← hH1, Array.getElem?_push_size, ← arrV_new]
  have o1 : ∀ q : Nat, q < H.size → H1[q]? = H[q]? := fun q hq => by rw [← hH1, Array.getElem?_push, if_neg (Nat.ne_of_lt hq)]
  exact kk H.size (hM.fresh (Nat.le_refl _)) H1 locs (cells + 1) (slots + N) (hM.push (show H1[H.size]? = some (vp_cell _ _) by rw [vp_cell_q]; exact e1) z1 o1) hl (by omega) (by omega)
end GR2
end
section
/-! contracts over the ghost heap, calls, ends -/
def gQ (D : va_G) (s0 : State) (Po : Option Value → gH → Prop) : Array Value → State → Outcome → State → Prop := fun _ _ o t => ∃ (v : Option Value) (h' : gH), o = .returned v ∧ Po v h' ∧ g_M D s0 h' t.heap
def gMet (D : va_G) (s0 : State) (l : Launch) (y : MethodName) (bytes : ByteArray) (maxL : Nat) (ret : Option FieldType) (rm : Room) (av : List Value) (h : gH) (Po : Option Value → gH → Prop) : Prop :=
  Met l y [.code y bytes maxL ret] rm (va_Pc av (fun U => g_M D s0 h U.heap ∧ s0.WarmedH U.vm)) (gQ D s0 Po) rm.cells rm.slots (fun q => s0.heap.size ≤ q)
theorem gMet.mono {D : va_G} {s0 : State} {l : Launch} {y : MethodName} {bytes : ByteArray} {maxL : Nat} {ret : Option FieldType} {rm : Room} {av : List Value} {h : gH} {Po Po' : Option Value → gH → Prop} (hM : gMet D s0 l y bytes maxL ret rm av h Po) (hp : ∀ v h', Po v h' → Po' v h') : gMet D s0 l y bytes maxL ret rm av h Po' := by
  intro p e ha hc hk s m args below hf happ hP hK
  obtain ⟨k, o, h1, h2, h3, ⟨v, h', e1, e2, e3⟩, h5⟩ := hM p e ha hc hk s m args below hf happ hP hK
  exact ⟨k, o, h1, h2, h3, ⟨v, h', e1, hp _ _ e2, e3⟩, h5⟩
theorem g_blind {D : va_G} {s0 : State} {av : List Value} {h : gH} : FrameBlind (va_Pc av (fun U => g_M D s0 h U.heap ∧ s0.WarmedH U.vm)) := fun _ _ _ _ q => q
theorem g_enter {D : va_G} {s0 : State} {l : Launch} {y : MethodName} {bytes : ByteArray} {maxL : Nat} {ret : Option FieldType} {rm : Room} {av : List Value} {h : gH} {Po : Option Value → gH → Prop} (B0 : gB D s0) (hy : plainFor y = true) (hlen : (lg_sl av).length ≤ maxL)
    (body : ∀ (p : Program) (e : Env) (s : State) (m : MethodId) (below : List Frame) (meth : Method) (c : Code) (ls : Array Slot), gX D s0 y.cls bytes maxL ret p s m meth c → meth.name = y.name → lv_has ls maxL (lv_args 0 av) →
      G D s0 p l e rm s m av.toArray below meth c h 0 0 (MQ below (gQ D s0 Po) av.toArray s rm.cells rm.slots (fun q => s0.heap.size ≤ q)) (F0 m 0 ls [])) : gMet D s0 l y bytes maxL ret rm av h Po := by
  refine va_MetF (cc := bytes) (maxL := maxL) (ret := ret) hy rfl ?_
  intro p e s m args below meth c s₁ B hml hv
  obtain ⟨rfl, hM, hW⟩ := hv
  have hl := lv_entry av hlen
  rw [lg_entry_eq]
  exact body p e s m below meth c _ ⟨B.exec, B.bytes, hml, B.returns, B.notSynchronized, findClass_of_methodNamed B.named, hW, B0⟩ (name_of_methodNamed B.named B.method).1 hl s.heap [] 0 0 hM (fun q hq => by cases hq) (Nat.le_refl 0) (Nat.le_refl 0)
section GC
variable {D : va_G} {s0 : State} {p : Program} {l : Launch} {e : Env} {R : Room} {s : State} {m : MethodId} {args : Array Value} {below : List Frame} {meth : Method} {c : Code} {h : gH} {k n : Nat} {Q : State → Prop}
variable {own : String} {cc : ByteArray} {nL : Nat} {ret : Option FieldType} {pc : Nat} {ls : Array Slot} {rest st0 : List Value} {a : Nat} {Po : Option Value → gH → Prop} {mc ms : Nat}
theorem g_iret (X : gX D s0 own cc nL (some .int) p s m meth c) {v : Int32} (hp : Po (some (.int v)) h) (hk : k ≤ mc) (hn : n ≤ ms) (hdg : decode cc pc = .ok (.ireturn, 1)) : G D s0 p l e R s m args below meth c h k n (MQ below (gQ D s0 Po) args s mc ms (fun q => s0.heap.size ≤ q)) (F0 m pc ls [.int v]) :=
  fun H locs cells slots hM hl h1 h2 => W.widen (k := mc) (n := ms) (Nat.le_trans h1 hk) (Nat.le_trans h2 hn) (W.iret X.1 X.2.1 X.2.2.2.1 (fun t ht hW => ⟨_, h, rfl, hp, by rw [ht]; exact hM⟩) hl hdg X.2.2.2.2.1)
theorem g_zret (X : gX D s0 own cc nL (some .boolean) p s m meth c) {v : Int32} (hz : narrow .boolean (.int v) = .int v) (hp : Po (some (.int v)) h) (hk : k ≤ mc) (hn : n ≤ ms) (hdg : decode cc pc = .ok (.ireturn, 1)) : G D s0 p l e R s m args below meth c h k n (MQ below (gQ D s0 Po) args s mc ms (fun q => s0.heap.size ≤ q)) (F0 m pc ls [.int v]) :=
  fun H locs cells slots hM hl h1 h2 => W.widen (k := mc) (n := ms) (Nat.le_trans h1 hk) (Nat.le_trans h2 hn) (W.zret X.1 X.2.1 X.2.2.2.1 hz (fun t ht hW => ⟨_, h, rfl, hp, by rw [ht]; exact hM⟩) hl hdg X.2.2.2.2.1)
theorem g_lret (X : gX D s0 own cc nL (some .long) p s m meth c) {v : Int64} (hp : Po (some (.long v)) h) (hk : k ≤ mc) (hn : n ≤ ms) (hdg : decode cc pc = .ok (.lreturn, 1)) : G D s0 p l e R s m args below meth c h k n (MQ below (gQ D s0 Po) args s mc ms (fun q => s0.heap.size ≤ q)) (F0 m pc ls [.long v]) :=
  fun H locs cells slots hM hl h1 h2 => W.widen (k := mc) (n := ms) (Nat.le_trans h1 hk) (Nat.le_trans h2 hn) (W.lret X.1 X.2.1 X.2.2.2.1 (fun t ht hW => ⟨_, h, rfl, hp, by rw [ht]; exact hM⟩) hl hdg X.2.2.2.2.1)
theorem g_vret (X : gX D s0 own cc nL none p s m meth c) (hp : Po none h) (hk : k ≤ mc) (hn : n ≤ ms) (hdg : decode cc pc = .ok (.return_, 1)) : G D s0 p l e R s m args below meth c h k n (MQ below (gQ D s0 Po) args s mc ms (fun q => s0.heap.size ≤ q)) (F0 m pc ls []) :=
  fun H locs cells slots hM hl h1 h2 => W.widen (k := mc) (n := ms) (Nat.le_trans h1 hk) (Nat.le_trans h2 hn) (W.vret X.1 X.2.1 X.2.2.2.1 (fun t ht hW => ⟨_, h, rfl, hp, by rw [ht]; exact hM⟩) hl hdg X.2.2.2.2.1)
theorem g_aret {rt : FieldType} (X : gX D s0 own cc nL (some rt) p s m meth c) (hrt : (∃ n, rt = .object n) ∨ ∃ t, rt = .array t) {r : Option Nat} (hp : Po (some (va_rf r)) h) (hk : k ≤ mc) (hn : n ≤ ms) (hdg : decode cc pc = .ok (.areturn, 1)) : G D s0 p l e R s m args below meth c h k n (MQ below (gQ D s0 Po) args s mc ms (fun q => s0.heap.size ≤ q)) (F0 m pc ls [va_rf r]) :=
  fun H locs cells slots hM hl h1 h2 => W.widen (k := mc) (n := ms) (Nat.le_trans h1 hk) (Nat.le_trans h2 hn) (W.aret X.1 X.2.1 X.2.2.2.1 hrt (va_rf_or r) (fun t ht hW => ⟨_, h, rfl, hp, by rw [ht]; exact hM⟩) hl hdg X.2.2.2.2.1)
/-- behind a call -/
theorem g_back {A : Array Value} {rm : Room} (hr : ∀ (H : Heap) (locs : List Loc) (cells slots : Nat), g_M D s0 h H → cells ≤ k → slots ≤ n → va_Run p l e R s m args below meth c H locs cells slots rm.cells rm.slots (F0 m pc ls st0) rest (gQ D s0 Po A) (fun q => s0.heap.size ≤ q))
    (kk : ∀ (v : Option Value) (h' : gH), Po v h' → G D s0 p l e R s m args below meth c h' (k + rm.cells) (n + rm.slots) Q (F0 m (pc + 3) ls (v.toList ++ rest))) : G D s0 p l e R s m args below meth c h k n Q (F0 m pc ls st0) := by
  intro H locs cells slots hM hl h1 h2 T hT X
  obtain ⟨v, st₀, t, T', L, h0, X', hL, e1, e2, ⟨v', h', hv, hp, hM'⟩, st⟩ := hr H locs cells slots hM h1 h2 T hT X
  cases hv
  obtain ⟨t2, a1, b1⟩ := kk _ h' hp t.heap (locs ++ L) (cells + rm.cells) (slots + rm.slots) hM' (fun q hq => by
    rcases List.mem_append.mp hq with h | h
    · exact hl q h
    · exact hL q h) (Nat.add_le_add_right h1 _) (Nat.add_le_add_right h2 _) T' e1 X'
  exact ⟨t2, st t2 a1, b1⟩
/-- what a call asks of the words and of the room -/
abbrev g_cw (R : Room) (y : MethodName) (bytes : ByteArray) (maxL : Nat) (ry : Option FieldType) (rm : Room) (na : Nat) : Prop :=
  (Cond.code y bytes maxL ry ∈ lw_tbl ∧ Cond.initialized y.cls ∈ lw_tbl) ∧ (y.cls ≠ "java/lang/invoke/MethodHandle" ∧ y.cls ≠ "java/lang/invoke/VarHandle" ∧ (parseMethodDescriptor y.desc).map (fun d => d.parameters.length) = some na) ∧ rm.frames + 1 ≤ R.frames ∧ 8 + (maxL + 11) + rm.locals ≤ R.locals
theorem g_cwB (X : gX D s0 own cc nL ret p s m meth c) {y : MethodName} {bytes : ByteArray} {maxL na index : Nat} {ry : Option FieldType} {rm : Room} (w : g_cw R y bytes maxL ry rm na) (hlink : Cond.methodLink own index y ∈ lw_tbl) : CallB R s args own index y bytes maxL ry [.code y bytes maxL ry] rm rm.cells rm.slots na := by
  obtain ⟨⟨w1, w2⟩, ⟨d1, d2, d3⟩, r1, r2⟩ := w
  refine ⟨rfl, rfl, r1, r2, fun w hw a' U hW => ?_, List.mem_cons_self, X.w w1 rfl, X.w w2 rfl, ⟨d1, d2⟩, fun sig hs => ?_, X.w hlink rfl⟩
  · rw [List.mem_singleton.mp hw]
    exact g_warm rfl hW (X.w (args := args) w1 rfl)
  · rw [hs] at d3
    exact (Option.some.inj d3).symm
theorem g_cwN (X : gX D s0 own cc nL ret p s m meth c) {y : MethodName} {host : String} {bytes : ByteArray} {maxL na index : Nat} {ry : Option FieldType} {rm : Room} (w : g_cw R y bytes maxL ry rm na) (hlink : Cond.methodLinkNest own index y host ∈ lw_tbl) : va_CN R s args own index y host bytes maxL ry [.code y bytes maxL ry] rm rm.cells rm.slots na := by
  obtain ⟨⟨w1, w2⟩, ⟨d1, d2, d3⟩, r1, r2⟩ := w
  refine ⟨⟨rfl, rfl, r1, r2, fun w hw a' U hW => ?_, List.mem_cons_self⟩, X.w w1 rfl, X.w w2 rfl, ⟨d1, d2⟩, fun sig hs => ?_, X.w hlink rfl⟩
  · rw [List.mem_singleton.mp hw]
    exact g_warm rfl hW (X.w (args := args) w1 rfl)
  · rw [hs] at d3
    exact (Option.some.inj d3).symm
theorem g_rm {st : List Value} (hr : (st.map fun v => v.category).sum ≤ 8) : 2 * (F0 m pc ls st0).monitorRoom + (st.map fun v => v.category).sum ≤ 8 := by
  show 2 * 0 + _ ≤ 8
  omega
theorem g_callS (X : gX D s0 own cc nL ret p s m meth c) {y : MethodName} {bytes : ByteArray} {maxL index na : Nat} {ry : Option FieldType} {rm : Room} {As : List Value} (hM : gMet D s0 l y bytes maxL ry rm As h Po) (hst : st0 = As.reverse ++ rest) (w : g_cw R y bytes maxL ry rm na) (hlink : Cond.methodLink own index y ∈ lw_tbl) (hstat : Cond.static y ∈ lw_tbl)
    (hn : As.length = na) (hsz : ls.size = nL) (hr : (rest.map fun v => v.category).sum ≤ 8) (hf : k + rm.cells ≤ R.cells ∧ n + rm.slots ≤ R.slots) (hdg : decode cc pc = .ok (.invokestatic index, 3))
    (kk : ∀ (v : Option Value) (h' : gH), Po v h' → G D s0 p l e R s m args below meth c h' (k + rm.cells) (n + rm.slots) Q (F0 m (pc + 3) ls (v.toList ++ rest))) : G D s0 p l e R s m args below meth c h k n Q (F0 m pc ls st0) :=
  g_back (A := As.toArray) (fun H locs cells slots hG h1 h2 => va_runS (Ts := []) ⟨X.1, X.2.1, X.2.2.1, X.2.2.2.2.2.1, fun _ h => by cases h⟩ hM ⟨g_cwB X w hlink, X.w hstat rfl⟩ ⟨g_blind, fun U hU hW => ⟨rfl, by rw [hU]; exact hG, State.WarmedH.trans X.2.2.2.2.2.2.1 hW⟩⟩ rfl hn hsz hst (g_rm hr) hdg ⟨by omega, by omega⟩) kk
theorem g_callSN (X : gX D s0 own cc nL ret p s m meth c) {y : MethodName} {host : String} {bytes : ByteArray} {maxL index na : Nat} {ry : Option FieldType} {rm : Room} {As : List Value} (hM : gMet D s0 l y bytes maxL ry rm As h Po) (hst : st0 = As.reverse ++ rest) (w : g_cw R y bytes maxL ry rm na) (hlink : Cond.methodLinkNest own index y host ∈ lw_tbl) (hstat : Cond.static y ∈ lw_tbl)
    (hn : As.length = na) (hsz : ls.size = nL) (hr : (rest.map fun v => v.category).sum ≤ 8) (hf : k + rm.cells ≤ R.cells ∧ n + rm.slots ≤ R.slots) (hdg : decode cc pc = .ok (.invokestatic index, 3))
    (kk : ∀ (v : Option Value) (h' : gH), Po v h' → G D s0 p l e R s m args below meth c h' (k + rm.cells) (n + rm.slots) Q (F0 m (pc + 3) ls (v.toList ++ rest))) : G D s0 p l e R s m args below meth c h k n Q (F0 m pc ls st0) :=
  g_back (A := As.toArray) (fun H locs cells slots hG h1 h2 => va_runSN (Ts := []) ⟨X.1, X.2.1, X.2.2.1, X.2.2.2.2.2.1, fun _ h => by cases h⟩ hM ⟨g_cwN X w hlink, X.w hstat rfl, trivial⟩ ⟨g_blind, fun U hU hW => ⟨rfl, by rw [hU]; exact hG, State.WarmedH.trans X.2.2.2.2.2.2.1 hW⟩⟩ rfl hn hsz hst (g_rm hr) hdg ⟨by omega, by omega⟩) kk
theorem g_callV (X : gX D s0 own cc nL ret p s m meth c) {y : MethodName} {bytes : ByteArray} {maxL index na b ci : Nat} {ry : Option FieldType} {rm : Room} {As : List Value} {t : Nat × Nat} {fs : List Value} {q : vw_C} (hM : gMet D s0 l y bytes maxL ry rm (.ref b :: As) h Po) (hst : st0 = As.reverse ++ .ref b :: rest) (hbb : h b = some (t, .inr (ci, fs))) (hc : vwCl[ci]? = some q) (w : g_cw R y bytes maxL ry rm na) (hlink : Cond.methodLink own index y ∈ lw_tbl) (hinst : Cond.instanceMethod y ∈ lw_tbl) (hsel : Cond.selects q.1 y y ∈ lw_tbl)
    (hn : As.length = na) (hsz : ls.size = nL) (hr : (rest.map fun v => v.category).sum ≤ 8) (hf : k + rm.cells ≤ R.cells ∧ n + rm.slots ≤ R.slots) (hdg : decode cc pc = .ok (.invokevirtual index, 3))
    (kk : ∀ (v : Option Value) (h' : gH), Po v h' → G D s0 p l e R s m args below meth c h' (k + rm.cells) (n + rm.slots) Q (F0 m (pc + 3) ls (v.toList ++ rest))) : G D s0 p l e R s m args below meth c h k n Q (F0 m pc ls st0) :=
  g_back (A := (Value.ref b :: As).toArray) (fun H locs cells slots hG h1 h2 => va_runV (Ts := []) (C := q.1) ⟨X.1, X.2.1, X.2.2.1, X.2.2.2.2.2.1, fun _ h => by cases h⟩ hM ⟨g_cwB X w hlink, X.w hinst rfl, X.w hsel rfl⟩ ⟨g_blind, va_recv X.K (g_P hG hbb) hc (q0 := 0) rfl, fun U hU hW => ⟨rfl, by rw [hU]; exact hG, State.WarmedH.trans X.2.2.2.2.2.2.1 hW⟩⟩ rfl hn hsz hst (g_rm hr) hdg ⟨by omega, by omega⟩) kk
theorem g_callVN (X : gX D s0 own cc nL ret p s m meth c) {y : MethodName} {host : String} {bytes : ByteArray} {maxL index na b ci : Nat} {ry : Option FieldType} {rm : Room} {As : List Value} {t : Nat × Nat} {fs : List Value} {q : vw_C} (hM : gMet D s0 l y bytes maxL ry rm (.ref b :: As) h Po) (hst : st0 = As.reverse ++ .ref b :: rest) (hbb : h b = some (t, .inr (ci, fs))) (hc : vwCl[ci]? = some q) (w : g_cw R y bytes maxL ry rm na) (hlink : Cond.methodLinkNest own index y host ∈ lw_tbl) (hinst : Cond.instanceMethod y ∈ lw_tbl) (hsel : Cond.selects q.1 y y ∈ lw_tbl)
    (hn : As.length = na) (hsz : ls.size = nL) (hr : (rest.map fun v => v.category).sum ≤ 8) (hf : k + rm.cells ≤ R.cells ∧ n + rm.slots ≤ R.slots) (hdg : decode cc pc = .ok (.invokevirtual index, 3))
    (kk : ∀ (v : Option Value) (h' : gH), Po v h' → G D s0 p l e R s m args below meth c h' (k + rm.cells) (n + rm.slots) Q (F0 m (pc + 3) ls (v.toList ++ rest))) : G D s0 p l e R s m args below meth c h k n Q (F0 m pc ls st0) :=
  g_back (A := (Value.ref b :: As).toArray) (fun H locs cells slots hG h1 h2 => va_runVN (Ts := []) (C := q.1) ⟨X.1, X.2.1, X.2.2.1, X.2.2.2.2.2.1, fun _ h => by cases h⟩ hM ⟨g_cwN X w hlink, X.w hinst rfl, X.w hsel rfl⟩ ⟨g_blind, va_recv X.K (g_P hG hbb) hc (q0 := 0) rfl, fun U hU hW => ⟨rfl, by rw [hU]; exact hG, State.WarmedH.trans X.2.2.2.2.2.2.1 hW⟩⟩ rfl hn hsz hst (g_rm hr) hdg ⟨by omega, by omega⟩) kk
theorem g_callI (X : gX D s0 own cc nL ret p s m meth c) {y : MethodName} {bytes : ByteArray} {maxL index na b : Nat} {rm : Room} {As : List Value} (hM : gMet D s0 l y bytes maxL none rm (.ref b :: As) h Po) (hst : st0 = As.reverse ++ .ref b :: rest) (hy1 : y.name = "<init>") (w : g_cw R y bytes maxL none rm na) (hlink : Cond.methodLink own index y ∈ lw_tbl) (hinst : Cond.instanceMethod y ∈ lw_tbl)
    (hn : As.length = na) (hsz : ls.size = nL) (hr : (rest.map fun v => v.category).sum ≤ 8) (hf : k + rm.cells ≤ R.cells ∧ n + rm.slots ≤ R.slots) (hdg : decode cc pc = .ok (.invokespecial index, 3))
    (kk : ∀ (v : Option Value) (h' : gH), Po v h' → G D s0 p l e R s m args below meth c h' (k + rm.cells) (n + rm.slots) Q (F0 m (pc + 3) ls (v.toList ++ rest))) : G D s0 p l e R s m args below meth c h k n Q (F0 m pc ls st0) :=
  g_back (A := (Value.ref b :: As).toArray) (fun H locs cells slots hG h1 h2 => va_runI (Ts := []) ⟨X.1, X.2.1, X.2.2.1, X.2.2.2.2.2.1, fun _ h => by cases h⟩ hM ⟨g_cwB X w hlink, hy1, X.w hinst rfl⟩ ⟨g_blind, fun U hU hW => ⟨rfl, by rw [hU]; exact hG, State.WarmedH.trans X.2.2.2.2.2.2.1 hW⟩⟩ rfl hn hsz hst (g_rm hr) hdg ⟨by omega, by omega⟩) kk
theorem g_callIN (X : gX D s0 own cc nL ret p s m meth c) {y : MethodName} {host : String} {bytes : ByteArray} {maxL index na b : Nat} {rm : Room} {As : List Value} (hM : gMet D s0 l y bytes maxL none rm (.ref b :: As) h Po) (hst : st0 = As.reverse ++ .ref b :: rest) (hy1 : y.name = "<init>") (w : g_cw R y bytes maxL none rm na) (hlink : Cond.methodLinkNest own index y host ∈ lw_tbl) (hinst : Cond.instanceMethod y ∈ lw_tbl)
    (hn : As.length = na) (hsz : ls.size = nL) (hr : (rest.map fun v => v.category).sum ≤ 8) (hf : k + rm.cells ≤ R.cells ∧ n + rm.slots ≤ R.slots) (hdg : decode cc pc = .ok (.invokespecial index, 3))
    (kk : ∀ (v : Option Value) (h' : gH), Po v h' → G D s0 p l e R s m args below meth c h' (k + rm.cells) (n + rm.slots) Q (F0 m (pc + 3) ls (v.toList ++ rest))) : G D s0 p l e R s m args below meth c h k n Q (F0 m pc ls st0) :=
  g_back (A := (Value.ref b :: As).toArray) (fun H locs cells slots hG h1 h2 => va_runIN (Ts := []) ⟨X.1, X.2.1, X.2.2.1, X.2.2.2.2.2.1, fun _ h => by cases h⟩ hM ⟨g_cwN X w hlink, hy1, X.w hinst rfl⟩ ⟨g_blind, fun U hU hW => ⟨rfl, by rw [hU]; exact hG, State.WarmedH.trans X.2.2.2.2.2.2.1 hW⟩⟩ rfl hn hsz hst (g_rm hr) hdg ⟨by omega, by omega⟩) kk
/-- the first call of a constructor -/
theorem g_obj (X : gX D s0 own cc nL ret p s m meth c) {index : Nat} (hlink : Cond.methodLink own index objectInit ∈ lw_tbl) (hsz : ls.size = nL) (hdg : decode cc pc = .ok (.invokespecial index, 3)) (hfr : 1 ≤ R.frames) (hlo : (rest.map fun v => v.category).sum + 12 ≤ R.locals)
    (kk : G D s0 p l e R s m args below meth c h k n Q (F0 m (pc + 3) ls rest)) : G D s0 p l e R s m args below meth c h k n Q (F0 m pc ls (.ref a :: rest)) :=
  fun H locs cells slots hM hl h1 h2 => W.objInit X.1 X.2.1 X.2.2.2.2.2.1 (X.w hlink rfl) (X.w tw_27 rfl) (X.w tw_28 rfl) rfl (by rw [X.2.2.1]; exact hsz) rfl hdg hfr (by show 2 * 0 + _ + _ ≤ _; omega) (kk H locs cells slots hM hl h1 h2)
end GC
end
section
/-! instructions in normal form: ints iZ z, longs lZ z -/
section GN
variable {D : va_G} {s0 : State} {p : Program} {l : Launch} {e : Env} {R : Room} {s : State} {m : MethodId} {args : Array Value} {below : List Frame} {meth : Method} {c : Code} {h : gH} {k n : Nat} {Q : State → Prop}
variable {own : String} {cc : ByteArray} {nL : Nat} {ret : Option FieldType} {pc : Nat} {ls : Array Slot} {rest : List Value}
theorem g_h {h' : gH} {g : JFrame} (e1 : h = h') (kk : G D s0 p l e R s m args below meth c h' k n Q g) : G D s0 p l e R s m args below meth c h k n Q g := by
  subst e1
  exact kk
theorem g_ti {x y : Int32} (e1 : x = y) (kk : G D s0 p l e R s m args below meth c h k n Q (F0 m pc ls (.int y :: rest))) : G D s0 p l e R s m args below meth c h k n Q (F0 m pc ls (.int x :: rest)) := by
  subst e1
  exact kk
theorem g_tl {x y : Int64} (e1 : x = y) (kk : G D s0 p l e R s m args below meth c h k n Q (F0 m pc ls (.long y :: rest))) : G D s0 p l e R s m args below meth c h k n Q (F0 m pc ls (.long x :: rest)) := by
  subst e1
  exact kk
theorem g_tv {x y : Value} (e1 : x = y) (kk : G D s0 p l e R s m args below meth c h k n Q (F0 m pc ls (y :: rest))) : G D s0 p l e R s m args below meth c h k n Q (F0 m pc ls (x :: rest)) := by
  subst e1
  exact kk
theorem g_st {st st2 : List Value} (e1 : st = st2) (kk : G D s0 p l e R s m args below meth c h k n Q (F0 m pc ls st2)) : G D s0 p l e R s m args below meth c h k n Q (F0 m pc ls st) := by
  subst e1
  exact kk
theorem g_iadd (X : gX D s0 own cc nL ret p s m meth c) {a b : Int} (hdg : decode cc pc = .ok (.iadd, 1)) (kk : G D s0 p l e R s m args below meth c h k n Q (F0 m (pc + 1) ls (.int (iZ (a + b)) :: rest))) : G D s0 p l e R s m args below meth c h k n Q (F0 m pc ls (.int (iZ b) :: .int (iZ a) :: rest)) :=
  g_1 (fun w => lv_iadd X.1 X.2.1 hdg w) (g_ti (iZ_add a b) kk)
theorem g_isub (X : gX D s0 own cc nL ret p s m meth c) {a b : Int} (hdg : decode cc pc = .ok (.isub, 1)) (kk : G D s0 p l e R s m args below meth c h k n Q (F0 m (pc + 1) ls (.int (iZ (a - b)) :: rest))) : G D s0 p l e R s m args below meth c h k n Q (F0 m pc ls (.int (iZ b) :: .int (iZ a) :: rest)) :=
  g_1 (fun w => lv_isub X.1 X.2.1 hdg w) (g_ti (iZ_sub a b) kk)
theorem g_imul (X : gX D s0 own cc nL ret p s m meth c) {a b : Int} (hdg : decode cc pc = .ok (.imul, 1)) (kk : G D s0 p l e R s m args below meth c h k n Q (F0 m (pc + 1) ls (.int (iZ (a * b)) :: rest))) : G D s0 p l e R s m args below meth c h k n Q (F0 m pc ls (.int (iZ b) :: .int (iZ a) :: rest)) :=
  g_1 (fun w => lv_imul X.1 X.2.1 hdg w) (g_ti (iZ_mul a b) kk)
theorem g_ladd (X : gX D s0 own cc nL ret p s m meth c) {a b : Int} (hdg : decode cc pc = .ok (.ladd, 1)) (kk : G D s0 p l e R s m args below meth c h k n Q (F0 m (pc + 1) ls (.long (lZ (a + b)) :: rest))) : G D s0 p l e R s m args below meth c h k n Q (F0 m pc ls (.long (lZ b) :: .long (lZ a) :: rest)) :=
  g_1 (fun w => lv_ladd X.1 X.2.1 hdg w) (g_tl (lZ_add a b) kk)
theorem g_lsub (X : gX D s0 own cc nL ret p s m meth c) {a b : Int} (hdg : decode cc pc = .ok (.lsub, 1)) (kk : G D s0 p l e R s m args below meth c h k n Q (F0 m (pc + 1) ls (.long (lZ (a - b)) :: rest))) : G D s0 p l e R s m args below meth c h k n Q (F0 m pc ls (.long (lZ b) :: .long (lZ a) :: rest)) :=
  g_1 (fun w => lv_lsub X.1 X.2.1 hdg w) (g_tl (lZ_sub a b) kk)
theorem g_lmul (X : gX D s0 own cc nL ret p s m meth c) {a b : Int} (hdg : decode cc pc = .ok (.lmul, 1)) (kk : G D s0 p l e R s m args below meth c h k n Q (F0 m (pc + 1) ls (.long (lZ (a * b)) :: rest))) : G D s0 p l e R s m args below meth c h k n Q (F0 m pc ls (.long (lZ b) :: .long (lZ a) :: rest)) :=
  g_1 (fun w => lv_lmul X.1 X.2.1 hdg w) (g_tl (lZ_mul a b) kk)
theorem g_i2l (X : gX D s0 own cc nL ret p s m meth c) {a : Int} (ha : i_ok a) (hdg : decode cc pc = .ok (.i2l, 1)) (kk : G D s0 p l e R s m args below meth c h k n Q (F0 m (pc + 1) ls (.long (lZ a) :: rest))) : G D s0 p l e R s m args below meth c h k n Q (F0 m pc ls (.int (iZ a) :: rest)) :=
  g_1 (fun w => lv_i2l X.1 X.2.1 hdg (iZ_L ha) w) kk
def cmpZ (a b : Int) : Int := if b < a then 1 else if a = b then 0 else -1
theorem g_lcmp (X : gX D s0 own cc nL ret p s m meth c) {a b : Int} (ha : l_ok a) (hb : l_ok b) (hdg : decode cc pc = .ok (.lcmp, 1)) (kk : G D s0 p l e R s m args below meth c h k n Q (F0 m (pc + 1) ls (.int (iZ (cmpZ a b)) :: rest))) : G D s0 p l e R s m args below meth c h k n Q (F0 m pc ls (.long (lZ b) :: .long (lZ a) :: rest)) := by
  refine g_1 (fun w => W.lcmp X.1 X.2.1 hdg w) (g_ti ?_ kk)
  unfold lg_cmp cmpZ
  simp only [lZ_lt hb ha, lZ_eq ha hb]
  split
  · rfl
  · split <;> rfl
theorem cmpZ_ok (a b : Int) : i_ok (cmpZ a b) := by
  unfold cmpZ
  split
  · exact ⟨by omega, by omega⟩
  · split <;> exact ⟨by omega, by omega⟩
theorem g_icmp_eq (X : gX D s0 own cc nL ret p s m meth c) {a b : Int} {off : Int} {tgt : Nat} (ha : i_ok a) (hb : i_ok b) (hdg : decode cc pc = .ok (.if_icmp .eq off, 3)) (ht : (pc : Int) + off = (tgt : Int)) (kt : a = b → G D s0 p l e R s m args below meth c h k n Q (F0 m tgt ls rest)) (kf : a ≠ b → G D s0 p l e R s m args below meth c h k n Q (F0 m (pc + 3) ls rest)) : G D s0 p l e R s m args below meth c h k n Q (F0 m pc ls (.int (iZ b) :: .int (iZ a) :: rest)) :=
  g_2 (fun k1 k2 => lv_icmp_eq X.1 X.2.1 hdg ht k1 k2) (fun q => kt (by simp only [iZ_eq ha hb, iZ_lt ha hb, iZ_le ha hb, iZ_lt hb ha, iZ_le hb ha] at q; omega)) (fun q => kf (by simp only [iZ_eq ha hb, iZ_lt ha hb, iZ_le ha hb, iZ_lt hb ha, iZ_le hb ha] at q; omega))
theorem g_if_eq (X : gX D s0 own cc nL ret p s m meth c) {a : Int} {off : Int} {tgt : Nat} (ha : i_ok a) (hdg : decode cc pc = .ok (.ifCond .eq off, 3)) (ht : (pc : Int) + off = (tgt : Int)) (kt : a = 0 → G D s0 p l e R s m args below meth c h k n Q (F0 m tgt ls rest)) (kf : a ≠ 0 → G D s0 p l e R s m args below meth c h k n Q (F0 m (pc + 3) ls rest)) : G D s0 p l e R s m args below meth c h k n Q (F0 m pc ls (.int (iZ a) :: rest)) :=
  g_2 (fun k1 k2 => lv_if_eq X.1 X.2.1 hdg ht k1 k2) (fun q => kt (by simp only [iZ_eq0 ha, iZ_lt0 ha, iZ_le0 ha, iZ_gt0 ha, iZ_ge0 ha] at q; omega)) (fun q => kf (by simp only [iZ_eq0 ha, iZ_lt0 ha, iZ_le0 ha, iZ_gt0 ha, iZ_ge0 ha] at q; omega))
theorem g_icmp_ne (X : gX D s0 own cc nL ret p s m meth c) {a b : Int} {off : Int} {tgt : Nat} (ha : i_ok a) (hb : i_ok b) (hdg : decode cc pc = .ok (.if_icmp .ne off, 3)) (ht : (pc : Int) + off = (tgt : Int)) (kt : a ≠ b → G D s0 p l e R s m args below meth c h k n Q (F0 m tgt ls rest)) (kf : a = b → G D s0 p l e R s m args below meth c h k n Q (F0 m (pc + 3) ls rest)) : G D s0 p l e R s m args below meth c h k n Q (F0 m pc ls (.int (iZ b) :: .int (iZ a) :: rest)) :=
  g_2 (fun k1 k2 => lv_icmp_ne X.1 X.2.1 hdg ht k1 k2) (fun q => kt (by simp only [iZ_eq ha hb, iZ_lt ha hb, iZ_le ha hb, iZ_lt hb ha, iZ_le hb ha] at q; omega)) (fun q => kf (by simp only [iZ_eq ha hb, iZ_lt ha hb, iZ_le ha hb, iZ_lt hb ha, iZ_le hb ha] at q; omega))
theorem g_if_ne (X : gX D s0 own cc nL ret p s m meth c) {a : Int} {off : Int} {tgt : Nat} (ha : i_ok a) (hdg : decode cc pc = .ok (.ifCond .ne off, 3)) (ht : (pc : Int) + off = (tgt : Int)) (kt : a ≠ 0 → G D s0 p l e R s m args below meth c h k n Q (F0 m tgt ls rest)) (kf : a = 0 → G D s0 p l e R s m args below meth c h k n Q (F0 m (pc + 3) ls rest)) : G D s0 p l e R s m args below meth c h k n Q (F0 m pc ls (.int (iZ a) :: rest)) :=
  g_2 (fun k1 k2 => lv_if_ne X.1 X.2.1 hdg ht k1 k2) (fun q => kt (by simp only [iZ_eq0 ha, iZ_lt0 ha, iZ_le0 ha, iZ_gt0 ha, iZ_ge0 ha] at q; omega)) (fun q => kf (by simp only [iZ_eq0 ha, iZ_lt0 ha, iZ_le0 ha, iZ_gt0 ha, iZ_ge0 ha] at q; omega))
theorem g_icmp_lt (X : gX D s0 own cc nL ret p s m meth c) {a b : Int} {off : Int} {tgt : Nat} (ha : i_ok a) (hb : i_ok b) (hdg : decode cc pc = .ok (.if_icmp .lt off, 3)) (ht : (pc : Int) + off = (tgt : Int)) (kt : a < b → G D s0 p l e R s m args below meth c h k n Q (F0 m tgt ls rest)) (kf : b ≤ a → G D s0 p l e R s m args below meth c h k n Q (F0 m (pc + 3) ls rest)) : G D s0 p l e R s m args below meth c h k n Q (F0 m pc ls (.int (iZ b) :: .int (iZ a) :: rest)) :=
  g_2 (fun k1 k2 => lv_icmp_lt X.1 X.2.1 hdg ht k1 k2) (fun q => kt (by simp only [iZ_eq ha hb, iZ_lt ha hb, iZ_le ha hb, iZ_lt hb ha, iZ_le hb ha] at q; omega)) (fun q => kf (by simp only [iZ_eq ha hb, iZ_lt ha hb, iZ_le ha hb, iZ_lt hb ha, iZ_le hb ha] at q; omega))
theorem g_if_lt (X : gX D s0 own cc nL ret p s m meth c) {a : Int} {off : Int} {tgt : Nat} (ha : i_ok a) (hdg : decode cc pc = .ok (.ifCond .lt off, 3)) (ht : (pc : Int) + off = (tgt : Int)) (kt : a < 0 → G D s0 p l e R s m args below meth c h k n Q (F0 m tgt ls rest)) (kf : 0 ≤ a → G D s0 p l e R s m args below meth c h k n Q (F0 m (pc + 3) ls rest)) : G D s0 p l e R s m args below meth c h k n Q (F0 m pc ls (.int (iZ a) :: rest)) :=
  g_2 (fun k1 k2 => lv_if_lt X.1 X.2.1 hdg ht k1 k2) (fun q => kt (by simp only [iZ_eq0 ha, iZ_lt0 ha, iZ_le0 ha, iZ_gt0 ha, iZ_ge0 ha] at q; omega)) (fun q => kf (by simp only [iZ_eq0 ha, iZ_lt0 ha, iZ_le0 ha, iZ_gt0 ha, iZ_ge0 ha] at q; omega))
theorem g_icmp_ge (X : gX D s0 own cc nL ret p s m meth c) {a b : Int} {off : Int} {tgt : Nat} (ha : i_ok a) (hb : i_ok b) (hdg : decode cc pc = .ok (.if_icmp .ge off, 3)) (ht : (pc : Int) + off = (tgt : Int)) (kt : b ≤ a → G D s0 p l e R s m args below meth c h k n Q (F0 m tgt ls rest)) (kf : a < b → G D s0 p l e R s m args below meth c h k n Q (F0 m (pc + 3) ls rest)) : G D s0 p l e R s m args below meth c h k n Q (F0 m pc ls (.int (iZ b) :: .int (iZ a) :: rest)) :=
  g_2 (fun k1 k2 => lv_icmp_ge X.1 X.2.1 hdg ht k1 k2) (fun q => kt (by simp only [iZ_eq ha hb, iZ_lt ha hb, iZ_le ha hb, iZ_lt hb ha, iZ_le hb ha] at q; omega)) (fun q => kf (by simp only [iZ_eq ha hb, iZ_lt ha hb, iZ_le ha hb, iZ_lt hb ha, iZ_le hb ha] at q; omega))
theorem g_if_ge (X : gX D s0 own cc nL ret p s m meth c) {a : Int} {off : Int} {tgt : Nat} (ha : i_ok a) (hdg : decode cc pc = .ok (.ifCond .ge off, 3)) (ht : (pc : Int) + off = (tgt : Int)) (kt : 0 ≤ a → G D s0 p l e R s m args below meth c h k n Q (F0 m tgt ls rest)) (kf : a < 0 → G D s0 p l e R s m args below meth c h k n Q (F0 m (pc + 3) ls rest)) : G D s0 p l e R s m args below meth c h k n Q (F0 m pc ls (.int (iZ a) :: rest)) :=
  g_2 (fun k1 k2 => lv_if_ge X.1 X.2.1 hdg ht k1 k2) (fun q => kt (by simp only [iZ_eq0 ha, iZ_lt0 ha, iZ_le0 ha, iZ_gt0 ha, iZ_ge0 ha] at q; omega)) (fun q => kf (by simp only [iZ_eq0 ha, iZ_lt0 ha, iZ_le0 ha, iZ_gt0 ha, iZ_ge0 ha] at q; omega))
theorem g_icmp_gt (X : gX D s0 own cc nL ret p s m meth c) {a b : Int} {off : Int} {tgt : Nat} (ha : i_ok a) (hb : i_ok b) (hdg : decode cc pc = .ok (.if_icmp .gt off, 3)) (ht : (pc : Int) + off = (tgt : Int)) (kt : b < a → G D s0 p l e R s m args below meth c h k n Q (F0 m tgt ls rest)) (kf : a ≤ b → G D s0 p l e R s m args below meth c h k n Q (F0 m (pc + 3) ls rest)) : G D s0 p l e R s m args below meth c h k n Q (F0 m pc ls (.int (iZ b) :: .int (iZ a) :: rest)) :=
  g_2 (fun k1 k2 => lv_icmp_gt X.1 X.2.1 hdg ht k1 k2) (fun q => kt (by simp only [iZ_eq ha hb, iZ_lt ha hb, iZ_le ha hb, iZ_lt hb ha, iZ_le hb ha] at q; omega)) (fun q => kf (by simp only [iZ_eq ha hb, iZ_lt ha hb, iZ_le ha hb, iZ_lt hb ha, iZ_le hb ha] at q; omega))
theorem g_if_gt (X : gX D s0 own cc nL ret p s m meth c) {a : Int} {off : Int} {tgt : Nat} (ha : i_ok a) (hdg : decode cc pc = .ok (.ifCond .gt off, 3)) (ht : (pc : Int) + off = (tgt : Int)) (kt : 0 < a → G D s0 p l e R s m args below meth c h k n Q (F0 m tgt ls rest)) (kf : a ≤ 0 → G D s0 p l e R s m args below meth c h k n Q (F0 m (pc + 3) ls rest)) : G D s0 p l e R s m args below meth c h k n Q (F0 m pc ls (.int (iZ a) :: rest)) :=
  g_2 (fun k1 k2 => lv_if_gt X.1 X.2.1 hdg ht k1 k2) (fun q => kt (by simp only [iZ_eq0 ha, iZ_lt0 ha, iZ_le0 ha, iZ_gt0 ha, iZ_ge0 ha] at q; omega)) (fun q => kf (by simp only [iZ_eq0 ha, iZ_lt0 ha, iZ_le0 ha, iZ_gt0 ha, iZ_ge0 ha] at q; omega))
theorem g_icmp_le (X : gX D s0 own cc nL ret p s m meth c) {a b : Int} {off : Int} {tgt : Nat} (ha : i_ok a) (hb : i_ok b) (hdg : decode cc pc = .ok (.if_icmp .le off, 3)) (ht : (pc : Int) + off = (tgt : Int)) (kt : a ≤ b → G D s0 p l e R s m args below meth c h k n Q (F0 m tgt ls rest)) (kf : b < a → G D s0 p l e R s m args below meth c h k n Q (F0 m (pc + 3) ls rest)) : G D s0 p l e R s m args below meth c h k n Q (F0 m pc ls (.int (iZ b) :: .int (iZ a) :: rest)) :=
  g_2 (fun k1 k2 => lv_icmp_le X.1 X.2.1 hdg ht k1 k2) (fun q => kt (by simp only [iZ_eq ha hb, iZ_lt ha hb, iZ_le ha hb, iZ_lt hb ha, iZ_le hb ha] at q; omega)) (fun q => kf (by simp only [iZ_eq ha hb, iZ_lt ha hb, iZ_le ha hb, iZ_lt hb ha, iZ_le hb ha] at q; omega))
theorem g_if_le (X : gX D s0 own cc nL ret p s m meth c) {a : Int} {off : Int} {tgt : Nat} (ha : i_ok a) (hdg : decode cc pc = .ok (.ifCond .le off, 3)) (ht : (pc : Int) + off = (tgt : Int)) (kt : a ≤ 0 → G D s0 p l e R s m args below meth c h k n Q (F0 m tgt ls rest)) (kf : 0 < a → G D s0 p l e R s m args below meth c h k n Q (F0 m (pc + 3) ls rest)) : G D s0 p l e R s m args below meth c h k n Q (F0 m pc ls (.int (iZ a) :: rest)) :=
  g_2 (fun k1 k2 => lv_if_le X.1 X.2.1 hdg ht k1 k2) (fun q => kt (by simp only [iZ_eq0 ha, iZ_lt0 ha, iZ_le0 ha, iZ_gt0 ha, iZ_ge0 ha] at q; omega)) (fun q => kf (by simp only [iZ_eq0 ha, iZ_lt0 ha, iZ_le0 ha, iZ_gt0 ha, iZ_ge0 ha] at q; omega))
theorem g_goto (X : gX D s0 own cc nL ret p s m meth c) {off : Int} {tgt : Nat} (hdg : decode cc pc = .ok (.goto off, 3)) (ht : (pc : Int) + off = (tgt : Int)) (kk : G D s0 p l e R s m args below meth c h k n Q (F0 m tgt ls rest)) : G D s0 p l e R s m args below meth c h k n Q (F0 m pc ls rest) := g_1 (fun w => lv_goto X.1 X.2.1 hdg ht w) kk
theorem g_ei {a b : Int} (e : a = b) : (some (Value.int (iZ a)) : Option Value) = some (.int (iZ b)) := by rw [e]
theorem g_el {a b : Int} (e : a = b) : (some (Value.long (lZ a)) : Option Value) = some (.long (lZ b)) := by rw [e]
end GN
end
section
set_option maxHeartbeats 4000000 in
set_option maxRecDepth 100000 in
/-- Long.compare -/
theorem c_LG_compare {D : va_G} {s0 : State} {l : Launch} {h : gH} (B0 : gB D s0) {x y : Int} (hx : l_ok x) (hy : l_ok y) : gMet D s0 l y_LG_compare b_LG_compare 4 (some .int) ({ frames := 0, cells := 0, slots := 0, locals := 0 } : Room) [.long (lZ (x)), .long (lZ (y))] h (fun v h' => some (.int (iZ (cmpZ x y))) = v ∧ h = h') := by
  refine g_enter B0 (plainFor_of_name (by decide)) (Nat.le_of_ble_eq_true rfl) (fun p e s m below meth c ls X hnm hl => ?_)
  have hl : lv_has ls 4 [(0, .long (lZ (x))), (2, .long (lZ (y)))] := hl
  refine g_1 (fun w => lv_lload_n X.1 X.2.1 d_LG_compare_0 rfl (lv_at hl 0 rfl) w) ?_
  refine g_1 (fun w => lv_lload_n X.1 X.2.1 d_LG_compare_1 rfl (lv_at hl 1 rfl) w) ?_
  refine g_lcmp X (by assumption) (by assumption) d_LG_compare_2 ?_
  refine g_if_ge (tgt := 10) X (cmpZ_ok _ _) d_LG_compare_3 (by decide) (fun c3 => ?_) (fun c3 => ?_)
  · refine g_1 (fun w => lv_lload_n X.1 X.2.1 d_LG_compare_10 rfl (lv_at hl 0 rfl) w) ?_
    refine g_1 (fun w => lv_lload_n X.1 X.2.1 d_LG_compare_11 rfl (lv_at hl 1 rfl) w) ?_
    refine g_lcmp X (by assumption) (by assumption) d_LG_compare_12 ?_
    refine g_if_ne (tgt := 20) X (cmpZ_ok _ _) d_LG_compare_13 (by decide) (fun c13 => ?_) (fun c13 => ?_)
    · refine g_1 (fun w => lv_iconst (v := iZ 1) X.1 X.2.1 d_LG_compare_20 rfl w) ?_
      exact g_iret X (⟨g_ei (by unfold cmpZ at *; split at * <;> (try split) <;> omega), rfl⟩) (by decide) (by decide) d_LG_compare_21
    · refine g_1 (fun w => lv_iconst (v := iZ 0) X.1 X.2.1 d_LG_compare_16 rfl w) ?_
      refine g_goto (tgt := 21) X d_LG_compare_17 (by decide) ?_
      exact g_iret X (⟨g_ei (by unfold cmpZ at *; split at * <;> (try split) <;> omega), rfl⟩) (by decide) (by decide) d_LG_compare_21
  · refine g_1 (fun w => lv_iconst (v := iZ (-1)) X.1 X.2.1 d_LG_compare_6 rfl w) ?_
    refine g_goto (tgt := 21) X d_LG_compare_7 (by decide) ?_
    exact g_iret X (⟨g_ei (by unfold cmpZ at *; split at * <;> (try split) <;> omega), rfl⟩) (by decide) (by decide) d_LG_compare_21

set_option maxHeartbeats 4000000 in
set_option maxRecDepth 100000 in
/-- Math.max -/
theorem c_MA_max {D : va_G} {s0 : State} {l : Launch} {h : gH} (B0 : gB D s0) {x y : Int} (hx : i_ok x) (hy : i_ok y) : gMet D s0 l y_MA_max b_MA_max 2 (some .int) ({ frames := 0, cells := 0, slots := 0, locals := 0 } : Room) [.int (iZ (x)), .int (iZ (y))] h (fun v h' => some (.int (iZ (max x y))) = v ∧ h = h') := by
  refine g_enter B0 (by decide +kernel) (Nat.le_of_ble_eq_true rfl) (fun p e s m below meth c ls X hnm hl => ?_)
  have hl : lv_has ls 2 [(0, .int (iZ (x))), (1, .int (iZ (y)))] := hl
  refine g_1 (fun w => lv_iload_n X.1 X.2.1 d_MA_max_0 rfl (lv_at hl 0 rfl) w) ?_
  refine g_1 (fun w => lv_iload_n X.1 X.2.1 d_MA_max_1 rfl (lv_at hl 1 rfl) w) ?_
  refine g_icmp_lt (tgt := 9) X (by assumption) (by assumption) d_MA_max_2 (by decide) (fun c2 => ?_) (fun c2 => ?_)
  · refine g_1 (fun w => lv_iload_n X.1 X.2.1 d_MA_max_9 rfl (lv_at hl 1 rfl) w) ?_
    exact g_iret X (⟨g_ei (by omega), rfl⟩) (by decide) (by decide) d_MA_max_10
  · refine g_1 (fun w => lv_iload_n X.1 X.2.1 d_MA_max_5 rfl (lv_at hl 0 rfl) w) ?_
    refine g_goto (tgt := 10) X d_MA_max_6 (by decide) ?_
    exact g_iret X (⟨g_ei (by omega), rfl⟩) (by decide) (by decide) d_MA_max_10

set_option maxHeartbeats 4000000 in
set_option maxRecDepth 100000 in
/-- Math.min -/
theorem c_MA_min {D : va_G} {s0 : State} {l : Launch} {h : gH} (B0 : gB D s0) {x y : Int} (hx : i_ok x) (hy : i_ok y) : gMet D s0 l y_MA_min b_MA_min 2 (some .int) ({ frames := 0, cells := 0, slots := 0, locals := 0 } : Room) [.int (iZ (x)), .int (iZ (y))] h (fun v h' => some (.int (iZ (min x y))) = v ∧ h = h') := by
  refine g_enter B0 (by decide +kernel) (Nat.le_of_ble_eq_true rfl) (fun p e s m below meth c ls X hnm hl => ?_)
  have hl : lv_has ls 2 [(0, .int (iZ (x))), (1, .int (iZ (y)))] := hl
  refine g_1 (fun w => lv_iload_n X.1 X.2.1 d_MA_min_0 rfl (lv_at hl 0 rfl) w) ?_
  refine g_1 (fun w => lv_iload_n X.1 X.2.1 d_MA_min_1 rfl (lv_at hl 1 rfl) w) ?_
  refine g_icmp_gt (tgt := 9) X (by assumption) (by assumption) d_MA_min_2 (by decide) (fun c2 => ?_) (fun c2 => ?_)
  · refine g_1 (fun w => lv_iload_n X.1 X.2.1 d_MA_min_9 rfl (lv_at hl 1 rfl) w) ?_
    exact g_iret X (⟨g_ei (by omega), rfl⟩) (by decide) (by decide) d_MA_min_10
  · refine g_1 (fun w => lv_iload_n X.1 X.2.1 d_MA_min_5 rfl (lv_at hl 0 rfl) w) ?_
    refine g_goto (tgt := 10) X d_MA_min_6 (by decide) ?_
    exact g_iret X (⟨g_ei (by omega), rfl⟩) (by decide) (by decide) d_MA_min_10

set_option maxHeartbeats 4000000 in
set_option maxRecDepth 100000 in
/-- compareSlopes -/
theorem c_LB_compareSlopes {D : va_G} {s0 : State} {l : Launch} {h : gH} (B0 : gB D s0) {g1 n1 g2 n2 : Int} (h1 : i_ok n1) (h2 : i_ok n2) (h3 : l_ok (g1 * n2)) (h4 : l_ok (g2 * n1)) : gMet D s0 l y_LB_compareSlopes b_LB_compareSlopes 6 (some .int) ({ frames := 1, cells := 0, slots := 0, locals := 23 } : Room) [.long (lZ (g1)), .int (iZ (n1)), .long (lZ (g2)), .int (iZ (n2))] h (fun v h' => some (.int (iZ (cmpZ (g1 * n2) (g2 * n1)))) = v ∧ h = h') := by
  refine g_enter B0 (plainFor_of_name (by decide)) (Nat.le_of_ble_eq_true rfl) (fun p e s m below meth c ls X hnm hl => ?_)
  have hl : lv_has ls 6 [(0, .long (lZ (g1))), (2, .int (iZ (n1))), (3, .long (lZ (g2))), (5, .int (iZ (n2)))] := hl
  refine g_1 (fun w => lv_lload_n X.1 X.2.1 d_LB_compareSlopes_0 rfl (lv_at hl 0 rfl) w) ?_
  refine g_1 (fun w => lv_iload X.1 X.2.1 d_LB_compareSlopes_1 (lv_at hl 3 rfl) w) ?_
  refine g_i2l X (by assumption) d_LB_compareSlopes_3 ?_
  refine g_lmul X d_LB_compareSlopes_4 ?_
  refine g_1 (fun w => lv_lload_n X.1 X.2.1 d_LB_compareSlopes_5 rfl (lv_at hl 2 rfl) w) ?_
  refine g_1 (fun w => lv_iload_n X.1 X.2.1 d_LB_compareSlopes_6 rfl (lv_at hl 1 rfl) w) ?_
  refine g_i2l X (by assumption) d_LB_compareSlopes_7 ?_
  refine g_lmul X d_LB_compareSlopes_8 ?_
  refine g_callS (na := 2) X (c_LG_compare B0 (by assumption) (by assumption)) rfl ⟨⟨tw_337, tw_18⟩, ⟨by decide, by decide, by decide +kernel⟩, by decide, by decide⟩ tw_335 tw_336 rfl hl.1 (by decide) ⟨by decide, by decide⟩ d_LB_compareSlopes_9 (fun v h' hp => ?_)
  obtain ⟨rfl, rfl⟩ := hp
  refine g_widen (k' := 0) (n' := 0) (by decide) (by decide) ?_
  show G D s0 p l e _ s m _ below meth c h _ _ _ (F0 m 12 ls [.int (iZ (cmpZ (g1 * n2) (g2 * n1)))])
  exact g_iret X (⟨rfl, rfl⟩) (by decide) (by decide) d_LB_compareSlopes_12
end
section
/-! WHAT A BLOCK IS: B, G: bytes and gains up to a pass; C: corners; P, S, T, L: passes, steps, steps taken, last cut -/
abbrev Blk : Type := (Nat → Int) × (Nat → Int) × (Nat → Nat) × Nat × Nat × Nat × Nat
abbrev bB (b : Blk) : Nat → Int := b.1
abbrev bG (b : Blk) : Nat → Int := b.2.1
abbrev bC (b : Blk) : Nat → Nat := b.2.2.1
abbrev bP (b : Blk) : Nat := b.2.2.2.1
abbrev bS (b : Blk) : Nat := b.2.2.2.2.1
abbrev bT (b : Blk) : Nat := b.2.2.2.2.2.1
abbrev bL (b : Blk) : Nat := b.2.2.2.2.2.2
def isBk (D : va_G) (h : gH) (a : Nat) (b : Blk) : Prop := ∃ p1 p2 p3 : Nat, h a = some ((1, 0), .inr (1, [.ref p1, .ref p2, .ref p3, .int (iZ (bP b)), .int (iZ (bS b)), .int (iZ (bT b)), .int (iZ (bL b))])) ∧ h p1 = some ((11, a), gI D 121 (bB b)) ∧ h p2 = some ((12, a), gL D 121 (bG b)) ∧ h p3 = some ((13, a), gI D 121 (fun j => ((bC b j : Nat) : Int)))
/-- its numbers are small -/
def okB (b : Blk) : Prop := bP b ≤ 120 ∧ bS b ≤ bP b ∧ bT b ≤ bS b ∧ bL b ≤ bP b ∧ (∀ j, bC b j ≤ 120) ∧ (∀ j, 0 ≤ bB b j ∧ bB b j ≤ 65535) ∧ (∀ j, -32985348833280 ≤ bG b j ∧ bG b j ≤ 32985348833280) ∧ (∀ i j, i ≤ j → j ≤ bP b → bB b i ≤ bB b j)
theorem mul_ok {g n : Int} (h1 : -65970697666560 ≤ g) (h2 : g ≤ 65970697666560) (h3 : 0 ≤ n) (h4 : n ≤ 65535) : l_ok (g * n) := by
  have a1 : g * n ≤ 65970697666560 * 65535 := by
    have b1 : g * n ≤ 65970697666560 * n := Int.mul_le_mul_of_nonneg_right h2 h3
    omega
  have a2 : -(65970697666560 * 65535) ≤ g * n := by
    have b1 : -65970697666560 * n ≤ g * n := Int.mul_le_mul_of_nonneg_right h1 h3
    omega
  exact ⟨by omega, by omega⟩
/-- all cells stay but those that P names -/
def kp (P : Nat → Nat × Nat → Prop) (h h' : gH) : Prop := ∀ (q : Nat) (x : gE), h q = some x → ¬ P q x.1 → h' q = some x
theorem kp_rf {P : Nat → Nat × Nat → Prop} {h : gH} : kp P h h := fun _ _ h _ => h
theorem kp_tr {P : Nat → Nat × Nat → Prop} {h1 h2 h3 : gH} (a : kp P h1 h2) (b : kp P h2 h3) : kp P h1 h3 := fun q x hq hn => b q x (a q x hq hn) hn
theorem kp_mo {P P' : Nat → Nat × Nat → Prop} {h1 h2 : gH} (a : kp P h1 h2) (hp : ∀ q t, P q t → P' q t) : kp P' h1 h2 := fun q x hq hn => a q x hq (fun z => hn (hp q _ z))
theorem kp_up {P : Nat → Nat × Nat → Prop} {h0 h h1 : gH} {a : Nat} {x y : gE} (hk : kp P h0 h) (e : h1 = g_up h a x) (ha : h a = some y) (hp : P a y.1) : kp P h0 h1 := by
  intro q z hq hn
  have h2 := hk q z hq hn
  by_cases hqa : q = a
  · subst hqa
    cases ha.symm.trans h2
    exact absurd hp hn
  · rw [e, g_un hqa]
    exact h2
theorem kp_new {P : Nat → Nat × Nat → Prop} {h0 h h1 : gH} {a : Nat} {x : gE} (hk : kp P h0 h) (e : h1 = g_up h a x) (ha : h a = none) : kp P h0 h1 := by
  intro q z hq hn
  have h2 := hk q z hq hn
  rw [e, g_un (g_nz h2 ha)]
  exact h2
/-- what a block's own methods may change -/
def P_Bk (a : Nat) : Nat → Nat × Nat → Prop := fun q t => q = a ∨ (t.2 = a ∧ 11 ≤ t.1 ∧ t.1 ≤ 13)
/-- a block elsewhere stays -/
theorem isBk.kp {D : va_G} {h h' : gH} {a : Nat} {b : Blk} {P : Nat → Nat × Nat → Prop} (hb : isBk D h a b) (hk : kp P h h') (h1 : ¬ P a (1, 0)) (h2 : ∀ q k, 11 ≤ k → k ≤ 13 → ¬ P q (k, a)) : isBk D h' a b := by
  obtain ⟨p1, p2, p3, fA, fB, fG, fC⟩ := hb
  exact ⟨p1, p2, p3, hk _ _ fA h1, hk _ _ fB (h2 _ _ (by decide) (by decide)), hk _ _ fG (h2 _ _ (by decide) (by decide)), hk _ _ fC (h2 _ _ (by decide) (by decide))⟩
theorem cmpZ_ge {a b : Int} : 0 ≤ cmpZ a b ↔ b ≤ a := by
  unfold cmpZ
  split
  · omega
  · split <;> omega
theorem cmpZ_gt {a b : Int} : 0 < cmpZ a b ↔ b < a := by
  unfold cmpZ
  split
  · omega
  · split <;> omega
theorem cmpZ_eq {a b : Int} : cmpZ a b = 0 ↔ a = b := by
  unfold cmpZ
  split
  · omega
  · split <;> omega
/-- the newest pass is at least as good an end of step s -/
abbrev ovt (b : Blk) (s : Nat) : Prop := 0 < bG b (bP b) - bG b (bC b s) ∧ (bG b (bC b (s + 1)) - bG b (bC b s)) * (bB b (bP b) - bB b (bC b s)) ≤ (bG b (bP b) - bG b (bC b s)) * (bB b (bC b (s + 1)) - bB b (bC b s))
def kept (b : Blk) : Nat → Nat
  | 0 => 0
  | n + 1 => if ovt b n then kept b n else n + 1
theorem kept_le (b : Blk) : ∀ n, kept b n ≤ n
  | 0 => Nat.le_refl 0
  | n + 1 => by
    unfold kept
    split
    · exact Nat.le_succ_of_le (kept_le b n)
    · exact Nat.le_refl _
def renew (b : Blk) : Blk := if bG b (bC b (kept b (bS b))) < bG b (bP b) then (bB b, bG b, va_up (bC b) (kept b (bS b) + 1) (bP b), bP b, kept b (bS b) + 1, bT b, bL b) else (bB b, bG b, bC b, bP b, kept b (bS b), bT b, bL b)
theorem va_up_c (f : Nat → Nat) (k n : Nat) : va_up (fun j => ((f j : Nat) : Int)) k (n : Int) = fun j => ((va_up f k n j : Nat) : Int) := by
  funext j
  by_cases h : j = k <;> simp [va_up, h]
/-- a pass more, its steps not yet renewed -/
abbrev grown (b : Blk) (n g : Int) : Blk := (va_up (bB b) (bP b + 1) (bB b (bP b) + n), va_up (bG b) (bP b + 1) (bG b (bP b) + g), bC b, bP b + 1, bS b, bT b, bL b)
theorem kept_t {b : Blk} {n : Nat} (h : ovt b n) : kept b (n + 1) = kept b n := if_pos h
theorem kept_f {b : Blk} {n : Nat} (h : ¬ ovt b n) : kept b (n + 1) = n + 1 := if_neg h
/-- A LAYER: number of blocks, cuts, bytes, threshold's gain and bytes -/
abbrev Lay : Type := Nat × (Nat → Int) × Int × Int × Int
def isLy (D : va_G) (h : gH) (a : Nat) (y : Lay) : Prop := ∃ p1 : Nat, h a = some ((2, 0), .inr (2, [.ref p1, .int (iZ y.2.2.1), .long (lZ y.2.2.2.1), .int (iZ y.2.2.2.2)])) ∧ h p1 = some ((15, a), gI D y.1 y.2.1)
end
section
set_option maxHeartbeats 4000000 in
set_option maxRecDepth 100000 in
theorem c_BK_allBytes {D : va_G} {s0 : State} {l : Launch} {h : gH} (B0 : gB D s0) {a : Nat} {b : Blk} (hb : isBk D h a b) (ho : okB b) : gMet D s0 l y_BK_allBytes b_BK_allBytes 1 (some .int) ({ frames := 0, cells := 0, slots := 0, locals := 0 } : Room) [.ref a] h (fun v h' => some (.int (iZ (bB b (bP b)))) = v ∧ h = h') := by
  obtain ⟨p1, p2, p3, fA, fB, fG, fC⟩ := id hb
  obtain ⟨k1, k2, k3, k4, k5, k6, k7, k8⟩ := id ho
  refine g_enter B0 (plainFor_of_name (by decide)) (Nat.le_of_ble_eq_true rfl) (fun p e s m below meth c ls X hnm hl => ?_)
  have hl : lv_has ls 1 [(0, .ref a)] := hl
  refine g_1 (fun w => lv_aload_n X.1 X.2.1 d_BK_allBytes_0 rfl (lv_at hl 0 rfl) w) ?_
  refine g_get X (ci := 1) rfl fA 0 (by decide) ⟨rfl, rfl⟩ tw_192 (Or.inl rfl) rfl d_BK_allBytes_1 ?_
  refine g_1 (fun w => lv_aload_n X.1 X.2.1 d_BK_allBytes_4 rfl (lv_at hl 0 rfl) w) ?_
  refine g_get X (ci := 1) rfl fA 3 (by decide) ⟨rfl, rfl⟩ tw_195 (Or.inl rfl) rfl d_BK_allBytes_5 ?_
  refine g_ild X fB (bP b) (rfl) (by omega) (by omega) d_BK_allBytes_8 ?_
  exact g_iret X (⟨rfl, rfl⟩) (by decide) (by decide) d_BK_allBytes_9

set_option maxHeartbeats 4000000 in
set_option maxRecDepth 100000 in
theorem c_BK_hasNext {D : va_G} {s0 : State} {l : Launch} {h : gH} (B0 : gB D s0) {a : Nat} {b : Blk} (hb : isBk D h a b) (ho : okB b) : gMet D s0 l y_BK_hasNext b_BK_hasNext 1 (some .boolean) ({ frames := 0, cells := 0, slots := 0, locals := 0 } : Room) [.ref a] h (fun v h' => some (.int (iZ (if bT b < bS b then 1 else 0))) = v ∧ h = h') := by
  obtain ⟨p1, p2, p3, fA, fB, fG, fC⟩ := id hb
  obtain ⟨k1, k2, k3, k4, k5, k6, k7, k8⟩ := id ho
  refine g_enter B0 (plainFor_of_name (by decide)) (Nat.le_of_ble_eq_true rfl) (fun p e s m below meth c ls X hnm hl => ?_)
  have hl : lv_has ls 1 [(0, .ref a)] := hl
  refine g_1 (fun w => lv_aload_n X.1 X.2.1 d_BK_hasNext_0 rfl (lv_at hl 0 rfl) w) ?_
  refine g_get X (ci := 1) rfl fA 5 (by decide) ⟨rfl, rfl⟩ tw_199 (Or.inl rfl) rfl d_BK_hasNext_1 ?_
  refine g_1 (fun w => lv_aload_n X.1 X.2.1 d_BK_hasNext_4 rfl (lv_at hl 0 rfl) w) ?_
  refine g_get X (ci := 1) rfl fA 4 (by decide) ⟨rfl, rfl⟩ tw_197 (Or.inl rfl) rfl d_BK_hasNext_5 ?_
  refine g_icmp_ge (tgt := 15) X (⟨by omega, by omega⟩) (⟨by omega, by omega⟩) d_BK_hasNext_8 (by decide) (fun c8 => ?_) (fun c8 => ?_)
  · refine g_1 (fun w => lv_iconst (v := iZ 0) X.1 X.2.1 d_BK_hasNext_15 rfl w) ?_
    exact g_zret X rfl (⟨g_ei (by split <;> omega), rfl⟩) (by decide) (by decide) d_BK_hasNext_16
  · refine g_1 (fun w => lv_iconst (v := iZ 1) X.1 X.2.1 d_BK_hasNext_11 rfl w) ?_
    refine g_goto (tgt := 16) X d_BK_hasNext_12 (by decide) ?_
    exact g_zret X rfl (⟨g_ei (by split <;> omega), rfl⟩) (by decide) (by decide) d_BK_hasNext_16

set_option maxHeartbeats 4000000 in
set_option maxRecDepth 100000 in
theorem c_BK_hasStep {D : va_G} {s0 : State} {l : Launch} {h : gH} (B0 : gB D s0) {a : Nat} {b : Blk} (hb : isBk D h a b) (ho : okB b) {i : Int} (hi : i_ok i) : gMet D s0 l y_BK_hasStep b_BK_hasStep 2 (some .boolean) ({ frames := 0, cells := 0, slots := 0, locals := 0 } : Room) [.ref a, .int (iZ (i))] h (fun v h' => some (.int (iZ (if 0 ≤ i ∧ i < bS b then 1 else 0))) = v ∧ h = h') := by
  obtain ⟨p1, p2, p3, fA, fB, fG, fC⟩ := id hb
  obtain ⟨k1, k2, k3, k4, k5, k6, k7, k8⟩ := id ho
  obtain ⟨hi1, hi2⟩ := id hi
  refine g_enter B0 (plainFor_of_name (by decide)) (Nat.le_of_ble_eq_true rfl) (fun p e s m below meth c ls X hnm hl => ?_)
  have hl : lv_has ls 2 [(0, .ref a), (1, .int (iZ (i)))] := hl
  refine g_1 (fun w => lv_iload_n X.1 X.2.1 d_BK_hasStep_0 rfl (lv_at hl 1 rfl) w) ?_
  refine g_if_lt (tgt := 16) X (⟨by omega, by omega⟩) d_BK_hasStep_1 (by decide) (fun c1 => ?_) (fun c1 => ?_)
  · refine g_1 (fun w => lv_iconst (v := iZ 0) X.1 X.2.1 d_BK_hasStep_16 rfl w) ?_
    exact g_zret X rfl (⟨g_ei (by split <;> omega), rfl⟩) (by decide) (by decide) d_BK_hasStep_17
  · refine g_1 (fun w => lv_iload_n X.1 X.2.1 d_BK_hasStep_4 rfl (lv_at hl 1 rfl) w) ?_
    refine g_1 (fun w => lv_aload_n X.1 X.2.1 d_BK_hasStep_5 rfl (lv_at hl 0 rfl) w) ?_
    refine g_get X (ci := 1) rfl fA 4 (by decide) ⟨rfl, rfl⟩ tw_197 (Or.inl rfl) rfl d_BK_hasStep_6 ?_
    refine g_icmp_ge (tgt := 16) X (⟨by omega, by omega⟩) (⟨by omega, by omega⟩) d_BK_hasStep_9 (by decide) (fun c9 => ?_) (fun c9 => ?_)
    · refine g_1 (fun w => lv_iconst (v := iZ 0) X.1 X.2.1 d_BK_hasStep_16 rfl w) ?_
      exact g_zret X rfl (⟨g_ei (by split <;> omega), rfl⟩) (by decide) (by decide) d_BK_hasStep_17
    · refine g_1 (fun w => lv_iconst (v := iZ 1) X.1 X.2.1 d_BK_hasStep_12 rfl w) ?_
      refine g_goto (tgt := 17) X d_BK_hasStep_13 (by decide) ?_
      exact g_zret X rfl (⟨g_ei (by split <;> omega), rfl⟩) (by decide) (by decide) d_BK_hasStep_17

set_option maxHeartbeats 4000000 in
set_option maxRecDepth 100000 in
theorem c_BK_stepEnd {D : va_G} {s0 : State} {l : Launch} {h : gH} (B0 : gB D s0) {a : Nat} {b : Blk} (hb : isBk D h a b) (ho : okB b) (i : Nat) (hi : i < 120) : gMet D s0 l y_BK_stepEnd b_BK_stepEnd 2 (some .int) ({ frames := 0, cells := 0, slots := 0, locals := 0 } : Room) [.ref a, .int (iZ (i))] h (fun v h' => some (.int (iZ (bC b (i + 1)))) = v ∧ h = h') := by
  obtain ⟨p1, p2, p3, fA, fB, fG, fC⟩ := id hb
  obtain ⟨k1, k2, k3, k4, k5, k6, k7, k8⟩ := id ho
  refine g_enter B0 (plainFor_of_name (by decide)) (Nat.le_of_ble_eq_true rfl) (fun p e s m below meth c ls X hnm hl => ?_)
  have hl : lv_has ls 2 [(0, .ref a), (1, .int (iZ (i)))] := hl
  refine g_1 (fun w => lv_aload_n X.1 X.2.1 d_BK_stepEnd_0 rfl (lv_at hl 0 rfl) w) ?_
  refine g_get X (ci := 1) rfl fA 2 (by decide) ⟨rfl, rfl⟩ tw_194 (Or.inl rfl) rfl d_BK_stepEnd_1 ?_
  refine g_1 (fun w => lv_iload_n X.1 X.2.1 d_BK_stepEnd_4 rfl (lv_at hl 1 rfl) w) ?_
  refine g_1 (fun w => lv_iconst (v := iZ 1) X.1 X.2.1 d_BK_stepEnd_5 rfl w) ?_
  refine g_iadd X d_BK_stepEnd_6 ?_
  refine g_ild X fC (i + 1) (by omega) (by omega) (by omega) d_BK_stepEnd_7 ?_
  exact g_iret X (⟨rfl, rfl⟩) (by decide) (by decide) d_BK_stepEnd_8

set_option maxHeartbeats 4000000 in
set_option maxRecDepth 100000 in
theorem c_BK_stepBytes {D : va_G} {s0 : State} {l : Launch} {h : gH} (B0 : gB D s0) {a : Nat} {b : Blk} (hb : isBk D h a b) (ho : okB b) (i : Nat) (hi : i < 120) : gMet D s0 l y_BK_stepBytes b_BK_stepBytes 2 (some .int) ({ frames := 0, cells := 0, slots := 0, locals := 0 } : Room) [.ref a, .int (iZ (i))] h (fun v h' => some (.int (iZ (bB b (bC b (i + 1)) - bB b (bC b i)))) = v ∧ h = h') := by
  obtain ⟨p1, p2, p3, fA, fB, fG, fC⟩ := id hb
  obtain ⟨k1, k2, k3, k4, k5, k6, k7, k8⟩ := id ho
  have q1 := k5 (i + 1)
  have q2 := k5 i
  refine g_enter B0 (plainFor_of_name (by decide)) (Nat.le_of_ble_eq_true rfl) (fun p e s m below meth c ls X hnm hl => ?_)
  have hl : lv_has ls 2 [(0, .ref a), (1, .int (iZ (i)))] := hl
  refine g_1 (fun w => lv_aload_n X.1 X.2.1 d_BK_stepBytes_0 rfl (lv_at hl 0 rfl) w) ?_
  refine g_get X (ci := 1) rfl fA 0 (by decide) ⟨rfl, rfl⟩ tw_192 (Or.inl rfl) rfl d_BK_stepBytes_1 ?_
  refine g_1 (fun w => lv_aload_n X.1 X.2.1 d_BK_stepBytes_4 rfl (lv_at hl 0 rfl) w) ?_
  refine g_get X (ci := 1) rfl fA 2 (by decide) ⟨rfl, rfl⟩ tw_194 (Or.inl rfl) rfl d_BK_stepBytes_5 ?_
  refine g_1 (fun w => lv_iload_n X.1 X.2.1 d_BK_stepBytes_8 rfl (lv_at hl 1 rfl) w) ?_
  refine g_1 (fun w => lv_iconst (v := iZ 1) X.1 X.2.1 d_BK_stepBytes_9 rfl w) ?_
  refine g_iadd X d_BK_stepBytes_10 ?_
  refine g_ild X fC (i + 1) (by omega) (by omega) (by omega) d_BK_stepBytes_11 ?_
  refine g_ild X fB (bC b (i + 1)) (rfl) (by omega) (by omega) d_BK_stepBytes_12 ?_
  refine g_1 (fun w => lv_aload_n X.1 X.2.1 d_BK_stepBytes_13 rfl (lv_at hl 0 rfl) w) ?_
  refine g_get X (ci := 1) rfl fA 0 (by decide) ⟨rfl, rfl⟩ tw_192 (Or.inl rfl) rfl d_BK_stepBytes_14 ?_
  refine g_1 (fun w => lv_aload_n X.1 X.2.1 d_BK_stepBytes_17 rfl (lv_at hl 0 rfl) w) ?_
  refine g_get X (ci := 1) rfl fA 2 (by decide) ⟨rfl, rfl⟩ tw_194 (Or.inl rfl) rfl d_BK_stepBytes_18 ?_
  refine g_1 (fun w => lv_iload_n X.1 X.2.1 d_BK_stepBytes_21 rfl (lv_at hl 1 rfl) w) ?_
  refine g_ild X fC (i) (rfl) (by omega) (by omega) d_BK_stepBytes_22 ?_
  refine g_ild X fB (bC b i) (rfl) (by omega) (by omega) d_BK_stepBytes_23 ?_
  refine g_isub X d_BK_stepBytes_24 ?_
  exact g_iret X (⟨rfl, rfl⟩) (by decide) (by decide) d_BK_stepBytes_25

set_option maxHeartbeats 4000000 in
set_option maxRecDepth 100000 in
theorem c_BK_stepGain {D : va_G} {s0 : State} {l : Launch} {h : gH} (B0 : gB D s0) {a : Nat} {b : Blk} (hb : isBk D h a b) (ho : okB b) (i : Nat) (hi : i < 120) : gMet D s0 l y_BK_stepGain b_BK_stepGain 2 (some .long) ({ frames := 0, cells := 0, slots := 0, locals := 0 } : Room) [.ref a, .int (iZ (i))] h (fun v h' => some (.long (lZ (bG b (bC b (i + 1)) - bG b (bC b i)))) = v ∧ h = h') := by
  obtain ⟨p1, p2, p3, fA, fB, fG, fC⟩ := id hb
  obtain ⟨k1, k2, k3, k4, k5, k6, k7, k8⟩ := id ho
  have q1 := k5 (i + 1)
  have q2 := k5 i
  refine g_enter B0 (plainFor_of_name (by decide)) (Nat.le_of_ble_eq_true rfl) (fun p e s m below meth c ls X hnm hl => ?_)
  have hl : lv_has ls 2 [(0, .ref a), (1, .int (iZ (i)))] := hl
  refine g_1 (fun w => lv_aload_n X.1 X.2.1 d_BK_stepGain_0 rfl (lv_at hl 0 rfl) w) ?_
  refine g_get X (ci := 1) rfl fA 1 (by decide) ⟨rfl, rfl⟩ tw_193 (Or.inl rfl) rfl d_BK_stepGain_1 ?_
  refine g_1 (fun w => lv_aload_n X.1 X.2.1 d_BK_stepGain_4 rfl (lv_at hl 0 rfl) w) ?_
  refine g_get X (ci := 1) rfl fA 2 (by decide) ⟨rfl, rfl⟩ tw_194 (Or.inl rfl) rfl d_BK_stepGain_5 ?_
  refine g_1 (fun w => lv_iload_n X.1 X.2.1 d_BK_stepGain_8 rfl (lv_at hl 1 rfl) w) ?_
  refine g_1 (fun w => lv_iconst (v := iZ 1) X.1 X.2.1 d_BK_stepGain_9 rfl w) ?_
  refine g_iadd X d_BK_stepGain_10 ?_
  refine g_ild X fC (i + 1) (by omega) (by omega) (by omega) d_BK_stepGain_11 ?_
  refine g_lld X fG (bC b (i + 1)) (rfl) (by omega) (by omega) d_BK_stepGain_12 ?_
  refine g_1 (fun w => lv_aload_n X.1 X.2.1 d_BK_stepGain_13 rfl (lv_at hl 0 rfl) w) ?_
  refine g_get X (ci := 1) rfl fA 1 (by decide) ⟨rfl, rfl⟩ tw_193 (Or.inl rfl) rfl d_BK_stepGain_14 ?_
  refine g_1 (fun w => lv_aload_n X.1 X.2.1 d_BK_stepGain_17 rfl (lv_at hl 0 rfl) w) ?_
  refine g_get X (ci := 1) rfl fA 2 (by decide) ⟨rfl, rfl⟩ tw_194 (Or.inl rfl) rfl d_BK_stepGain_18 ?_
  refine g_1 (fun w => lv_iload_n X.1 X.2.1 d_BK_stepGain_21 rfl (lv_at hl 1 rfl) w) ?_
  refine g_ild X fC (i) (rfl) (by omega) (by omega) d_BK_stepGain_22 ?_
  refine g_lld X fG (bC b i) (rfl) (by omega) (by omega) d_BK_stepGain_23 ?_
  refine g_lsub X d_BK_stepGain_24 ?_
  exact g_lret X (⟨rfl, rfl⟩) (by decide) (by decide) d_BK_stepGain_25
end
section
set_option maxHeartbeats 4000000 in
set_option maxRecDepth 100000 in
theorem c_BK_takeNothing {D : va_G} {s0 : State} {l : Launch} {h : gH} (B0 : gB D s0) {a : Nat} {b : Blk} (hb : isBk D h a b) (ho : okB b) : gMet D s0 l y_BK_takeNothing b_BK_takeNothing 1 none ({ frames := 0, cells := 0, slots := 0, locals := 0 } : Room) [.ref a] h (fun v h' => none = v ∧ isBk D h' a (bB b, bG b, bC b, bP b, bS b, 0, 0) ∧ kp (P_Bk a) h h') := by
  obtain ⟨p1, p2, p3, fA, fB, fG, fC⟩ := id hb
  obtain ⟨k1, k2, k3, k4, k5, k6, k7, k8⟩ := id ho
  refine g_enter B0 (plainFor_of_name (by decide)) (Nat.le_of_ble_eq_true rfl) (fun p e s m below meth c ls X hnm hl => ?_)
  have hl : lv_has ls 1 [(0, .ref a)] := hl
  refine g_1 (fun w => lv_aload_n X.1 X.2.1 d_BK_takeNothing_0 rfl (lv_at hl 0 rfl) w) ?_
  refine g_1 (fun w => lv_iconst (v := iZ 0) X.1 X.2.1 d_BK_takeNothing_1 rfl w) ?_
  refine g_put X (ci := 1) rfl fA (Nat.succ_ne_zero _) 6 (by decide) ⟨rfl, rfl⟩ tw_200 (Or.inl rfl) rfl rfl rfl (Nat.le_of_ble_eq_true rfl) d_BK_takeNothing_2 ?_
  obtain ⟨h_1, eh_1⟩ : ∃ z, z = g_up h a ((1, 0), .inr (1, [.ref p1, .ref p2, .ref p3, .int (iZ (bP b)), .int (iZ (bS b)), .int (iZ (bT b)), .int (iZ (0))])) := ⟨_, rfl⟩
  refine g_h (h' := h_1) eh_1.symm ?_
  have f_2 : h_1 a = some ((1, 0), .inr (1, [.ref p1, .ref p2, .ref p3, .int (iZ (bP b)), .int (iZ (bS b)), .int (iZ (bT b)), .int (iZ (0))])) := by rw [eh_1]; exact g_us
  have f_3 : h_1 p1 = some ((11, a), gI D 121 (bB b)) := by rw [eh_1]; exact g_uk fB fA (show (11 : Nat) ≠ 1 by decide)
  have f_4 : h_1 p2 = some ((12, a), gL D 121 (bG b)) := by rw [eh_1]; exact g_uk fG fA (show (12 : Nat) ≠ 1 by decide)
  have f_5 : h_1 p3 = some ((13, a), gI D 121 (fun j => ((bC b j : Nat) : Int))) := by rw [eh_1]; exact g_uk fC fA (show (13 : Nat) ≠ 1 by decide)
  have hk_6 := kp_up (kp_rf (P := P_Bk a) (h := h)) eh_1 fA (Or.inl rfl)
  refine g_1 (fun w => lv_aload_n X.1 X.2.1 d_BK_takeNothing_5 rfl (lv_at hl 0 rfl) w) ?_
  refine g_1 (fun w => lv_iconst (v := iZ 0) X.1 X.2.1 d_BK_takeNothing_6 rfl w) ?_
  refine g_put X (ci := 1) rfl f_2 (Nat.succ_ne_zero _) 5 (by decide) ⟨rfl, rfl⟩ tw_199 (Or.inl rfl) rfl rfl rfl (Nat.le_of_ble_eq_true rfl) d_BK_takeNothing_7 ?_
  obtain ⟨h_7, eh_7⟩ : ∃ z, z = g_up h_1 a ((1, 0), .inr (1, [.ref p1, .ref p2, .ref p3, .int (iZ (bP b)), .int (iZ (bS b)), .int (iZ (0)), .int (iZ (0))])) := ⟨_, rfl⟩
  refine g_h (h' := h_7) eh_7.symm ?_
  have f_8 : h_7 a = some ((1, 0), .inr (1, [.ref p1, .ref p2, .ref p3, .int (iZ (bP b)), .int (iZ (bS b)), .int (iZ (0)), .int (iZ (0))])) := by rw [eh_7]; exact g_us
  have f_9 : h_7 p1 = some ((11, a), gI D 121 (bB b)) := by rw [eh_7]; exact g_uk f_3 f_2 (show (11 : Nat) ≠ 1 by decide)
  have f_10 : h_7 p2 = some ((12, a), gL D 121 (bG b)) := by rw [eh_7]; exact g_uk f_4 f_2 (show (12 : Nat) ≠ 1 by decide)
  have f_11 : h_7 p3 = some ((13, a), gI D 121 (fun j => ((bC b j : Nat) : Int))) := by rw [eh_7]; exact g_uk f_5 f_2 (show (13 : Nat) ≠ 1 by decide)
  have hk_12 := kp_up (hk_6) eh_7 f_2 (Or.inl rfl)
  exact g_vret X (⟨rfl, ⟨p1, p2, p3, f_8, f_9, f_10, f_11⟩, hk_12⟩) (by decide) (by decide) d_BK_takeNothing_10

set_option maxHeartbeats 4000000 in
set_option maxRecDepth 100000 in
theorem c_BK_takeEverything {D : va_G} {s0 : State} {l : Launch} {h : gH} (B0 : gB D s0) {a : Nat} {b : Blk} (hb : isBk D h a b) (ho : okB b) : gMet D s0 l y_BK_takeEverything b_BK_takeEverything 1 none ({ frames := 0, cells := 0, slots := 0, locals := 0 } : Room) [.ref a] h (fun v h' => none = v ∧ isBk D h' a (bB b, bG b, bC b, bP b, bS b, bS b, bP b) ∧ kp (P_Bk a) h h') := by
  obtain ⟨p1, p2, p3, fA, fB, fG, fC⟩ := id hb
  obtain ⟨k1, k2, k3, k4, k5, k6, k7, k8⟩ := id ho
  refine g_enter B0 (plainFor_of_name (by decide)) (Nat.le_of_ble_eq_true rfl) (fun p e s m below meth c ls X hnm hl => ?_)
  have hl : lv_has ls 1 [(0, .ref a)] := hl
  refine g_1 (fun w => lv_aload_n X.1 X.2.1 d_BK_takeEverything_0 rfl (lv_at hl 0 rfl) w) ?_
  refine g_1 (fun w => lv_aload_n X.1 X.2.1 d_BK_takeEverything_1 rfl (lv_at hl 0 rfl) w) ?_
  refine g_get X (ci := 1) rfl fA 3 (by decide) ⟨rfl, rfl⟩ tw_195 (Or.inl rfl) rfl d_BK_takeEverything_2 ?_
  refine g_put X (ci := 1) rfl fA (Nat.succ_ne_zero _) 6 (by decide) ⟨rfl, rfl⟩ tw_200 (Or.inl rfl) rfl rfl rfl (Nat.le_of_ble_eq_true rfl) d_BK_takeEverything_5 ?_
  obtain ⟨h_1, eh_1⟩ : ∃ z, z = g_up h a ((1, 0), .inr (1, [.ref p1, .ref p2, .ref p3, .int (iZ (bP b)), .int (iZ (bS b)), .int (iZ (bT b)), .int (iZ (bP b))])) := ⟨_, rfl⟩
  refine g_h (h' := h_1) eh_1.symm ?_
  have f_2 : h_1 a = some ((1, 0), .inr (1, [.ref p1, .ref p2, .ref p3, .int (iZ (bP b)), .int (iZ (bS b)), .int (iZ (bT b)), .int (iZ (bP b))])) := by rw [eh_1]; exact g_us
  have f_3 : h_1 p1 = some ((11, a), gI D 121 (bB b)) := by rw [eh_1]; exact g_uk fB fA (show (11 : Nat) ≠ 1 by decide)
  have f_4 : h_1 p2 = some ((12, a), gL D 121 (bG b)) := by rw [eh_1]; exact g_uk fG fA (show (12 : Nat) ≠ 1 by decide)
  have f_5 : h_1 p3 = some ((13, a), gI D 121 (fun j => ((bC b j : Nat) : Int))) := by rw [eh_1]; exact g_uk fC fA (show (13 : Nat) ≠ 1 by decide)
  have hk_6 := kp_up (kp_rf (P := P_Bk a) (h := h)) eh_1 fA (Or.inl rfl)
  refine g_1 (fun w => lv_aload_n X.1 X.2.1 d_BK_takeEverything_8 rfl (lv_at hl 0 rfl) w) ?_
  refine g_1 (fun w => lv_aload_n X.1 X.2.1 d_BK_takeEverything_9 rfl (lv_at hl 0 rfl) w) ?_
  refine g_get X (ci := 1) rfl f_2 4 (by decide) ⟨rfl, rfl⟩ tw_197 (Or.inl rfl) rfl d_BK_takeEverything_10 ?_
  refine g_put X (ci := 1) rfl f_2 (Nat.succ_ne_zero _) 5 (by decide) ⟨rfl, rfl⟩ tw_199 (Or.inl rfl) rfl rfl rfl (Nat.le_of_ble_eq_true rfl) d_BK_takeEverything_13 ?_
  obtain ⟨h_7, eh_7⟩ : ∃ z, z = g_up h_1 a ((1, 0), .inr (1, [.ref p1, .ref p2, .ref p3, .int (iZ (bP b)), .int (iZ (bS b)), .int (iZ (bS b)), .int (iZ (bP b))])) := ⟨_, rfl⟩
  refine g_h (h' := h_7) eh_7.symm ?_
  have f_8 : h_7 a = some ((1, 0), .inr (1, [.ref p1, .ref p2, .ref p3, .int (iZ (bP b)), .int (iZ (bS b)), .int (iZ (bS b)), .int (iZ (bP b))])) := by rw [eh_7]; exact g_us
  have f_9 : h_7 p1 = some ((11, a), gI D 121 (bB b)) := by rw [eh_7]; exact g_uk f_3 f_2 (show (11 : Nat) ≠ 1 by decide)
  have f_10 : h_7 p2 = some ((12, a), gL D 121 (bG b)) := by rw [eh_7]; exact g_uk f_4 f_2 (show (12 : Nat) ≠ 1 by decide)
  have f_11 : h_7 p3 = some ((13, a), gI D 121 (fun j => ((bC b j : Nat) : Int))) := by rw [eh_7]; exact g_uk f_5 f_2 (show (13 : Nat) ≠ 1 by decide)
  have hk_12 := kp_up (hk_6) eh_7 f_2 (Or.inl rfl)
  exact g_vret X (⟨rfl, ⟨p1, p2, p3, f_8, f_9, f_10, f_11⟩, hk_12⟩) (by decide) (by decide) d_BK_takeEverything_16

set_option maxHeartbeats 4000000 in
set_option maxRecDepth 100000 in
theorem c_BK_takeNext {D : va_G} {s0 : State} {l : Launch} {h : gH} (B0 : gB D s0) {a : Nat} {b : Blk} (hb : isBk D h a b) (ho : okB b) (hT : bT b < 120) : gMet D s0 l y_BK_takeNext b_BK_takeNext 1 none ({ frames := 1, cells := 0, slots := 0, locals := 21 } : Room) [.ref a] h (fun v h' => none = v ∧ isBk D h' a (bB b, bG b, bC b, bP b, bS b, bT b + 1, bC b (bT b + 1)) ∧ kp (P_Bk a) h h') := by
  obtain ⟨p1, p2, p3, fA, fB, fG, fC⟩ := id hb
  obtain ⟨k1, k2, k3, k4, k5, k6, k7, k8⟩ := id ho
  refine g_enter B0 (plainFor_of_name (by decide)) (Nat.le_of_ble_eq_true rfl) (fun p e s m below meth c ls X hnm hl => ?_)
  have hl : lv_has ls 1 [(0, .ref a)] := hl
  refine g_1 (fun w => lv_aload_n X.1 X.2.1 d_BK_takeNext_0 rfl (lv_at hl 0 rfl) w) ?_
  refine g_1 (fun w => lv_aload_n X.1 X.2.1 d_BK_takeNext_1 rfl (lv_at hl 0 rfl) w) ?_
  refine g_1 (fun w => lv_aload_n X.1 X.2.1 d_BK_takeNext_2 rfl (lv_at hl 0 rfl) w) ?_
  refine g_get X (ci := 1) rfl fA 5 (by decide) ⟨rfl, rfl⟩ tw_199 (Or.inl rfl) rfl d_BK_takeNext_3 ?_
  refine g_callV (na := 1) X (c_BK_stepEnd B0 hb ho (bT b) (by omega)) rfl fA rfl ⟨⟨tw_370, tw_12⟩, ⟨by decide, by decide, by decide +kernel⟩, by decide, by decide⟩ tw_464 tw_369 ts_BK_stepEnd rfl hl.1 (Nat.le_of_ble_eq_true rfl) ⟨by decide, by decide⟩ d_BK_takeNext_6 (fun v h' hp => ?_)
  obtain ⟨rfl, rfl⟩ := hp
  refine g_widen (k' := 0) (n' := 0) (by decide) (by decide) ?_
  show G D s0 p l e _ s m _ below meth c h _ _ _ (F0 m 9 ls [.int (iZ (bC b (bT b + 1))), .ref a])
  refine g_put X (ci := 1) rfl fA (Nat.succ_ne_zero _) 6 (by decide) ⟨rfl, rfl⟩ tw_200 (Or.inl rfl) rfl rfl rfl (Nat.le_of_ble_eq_true rfl) d_BK_takeNext_9 ?_
  obtain ⟨h_1, eh_1⟩ : ∃ z, z = g_up h a ((1, 0), .inr (1, [.ref p1, .ref p2, .ref p3, .int (iZ (bP b)), .int (iZ (bS b)), .int (iZ (bT b)), .int (iZ (bC b (bT b + 1)))])) := ⟨_, rfl⟩
  refine g_h (h' := h_1) eh_1.symm ?_
  have f_2 : h_1 a = some ((1, 0), .inr (1, [.ref p1, .ref p2, .ref p3, .int (iZ (bP b)), .int (iZ (bS b)), .int (iZ (bT b)), .int (iZ (bC b (bT b + 1)))])) := by rw [eh_1]; exact g_us
  have f_3 : h_1 p1 = some ((11, a), gI D 121 (bB b)) := by rw [eh_1]; exact g_uk fB fA (show (11 : Nat) ≠ 1 by decide)
  have f_4 : h_1 p2 = some ((12, a), gL D 121 (bG b)) := by rw [eh_1]; exact g_uk fG fA (show (12 : Nat) ≠ 1 by decide)
  have f_5 : h_1 p3 = some ((13, a), gI D 121 (fun j => ((bC b j : Nat) : Int))) := by rw [eh_1]; exact g_uk fC fA (show (13 : Nat) ≠ 1 by decide)
  have hk_6 := kp_up (kp_rf (P := P_Bk a) (h := h)) eh_1 fA (Or.inl rfl)
  refine g_1 (fun w => lv_aload_n X.1 X.2.1 d_BK_takeNext_12 rfl (lv_at hl 0 rfl) w) ?_
  refine g_1 (fun w => lv_dup X.1 X.2.1 d_BK_takeNext_13 rfl w) ?_
  refine g_get X (ci := 1) rfl f_2 5 (by decide) ⟨rfl, rfl⟩ tw_199 (Or.inl rfl) rfl d_BK_takeNext_14 ?_
  refine g_1 (fun w => lv_iconst (v := iZ 1) X.1 X.2.1 d_BK_takeNext_17 rfl w) ?_
  refine g_iadd X d_BK_takeNext_18 ?_
  refine g_put X (ci := 1) rfl f_2 (Nat.succ_ne_zero _) 5 (by decide) ⟨rfl, rfl⟩ tw_199 (Or.inl rfl) rfl rfl rfl (Nat.le_of_ble_eq_true rfl) d_BK_takeNext_19 ?_
  obtain ⟨h_7, eh_7⟩ : ∃ z, z = g_up h_1 a ((1, 0), .inr (1, [.ref p1, .ref p2, .ref p3, .int (iZ (bP b)), .int (iZ (bS b)), .int (iZ (bT b + 1)), .int (iZ (bC b (bT b + 1)))])) := ⟨_, rfl⟩
  refine g_h (h' := h_7) eh_7.symm ?_
  have f_8 : h_7 a = some ((1, 0), .inr (1, [.ref p1, .ref p2, .ref p3, .int (iZ (bP b)), .int (iZ (bS b)), .int (iZ (bT b + 1)), .int (iZ (bC b (bT b + 1)))])) := by rw [eh_7]; exact g_us
  have f_9 : h_7 p1 = some ((11, a), gI D 121 (bB b)) := by rw [eh_7]; exact g_uk f_3 f_2 (show (11 : Nat) ≠ 1 by decide)
  have f_10 : h_7 p2 = some ((12, a), gL D 121 (bG b)) := by rw [eh_7]; exact g_uk f_4 f_2 (show (12 : Nat) ≠ 1 by decide)
  have f_11 : h_7 p3 = some ((13, a), gI D 121 (fun j => ((bC b j : Nat) : Int))) := by rw [eh_7]; exact g_uk f_5 f_2 (show (13 : Nat) ≠ 1 by decide)
  have hk_12 := kp_up (hk_6) eh_7 f_2 (Or.inl rfl)
  exact g_vret X (⟨rfl, ⟨p1, p2, p3, f_8, f_9, f_10, f_11⟩, hk_12⟩) (by decide) (by decide) d_BK_takeNext_22

set_option maxHeartbeats 4000000 in
set_option maxRecDepth 100000 in
theorem c_BK_nextBytes {D : va_G} {s0 : State} {l : Launch} {h : gH} (B0 : gB D s0) {a : Nat} {b : Blk} (hb : isBk D h a b) (ho : okB b) (hT : bT b < 120) : gMet D s0 l y_BK_nextBytes b_BK_nextBytes 1 (some .int) ({ frames := 1, cells := 0, slots := 0, locals := 21 } : Room) [.ref a] h (fun v h' => some (.int (iZ (bB b (bC b (bT b + 1)) - bB b (bC b (bT b))))) = v ∧ h = h') := by
  obtain ⟨p1, p2, p3, fA, fB, fG, fC⟩ := id hb
  obtain ⟨k1, k2, k3, k4, k5, k6, k7, k8⟩ := id ho
  refine g_enter B0 (plainFor_of_name (by decide)) (Nat.le_of_ble_eq_true rfl) (fun p e s m below meth c ls X hnm hl => ?_)
  have hl : lv_has ls 1 [(0, .ref a)] := hl
  refine g_1 (fun w => lv_aload_n X.1 X.2.1 d_BK_nextBytes_0 rfl (lv_at hl 0 rfl) w) ?_
  refine g_1 (fun w => lv_aload_n X.1 X.2.1 d_BK_nextBytes_1 rfl (lv_at hl 0 rfl) w) ?_
  refine g_get X (ci := 1) rfl fA 5 (by decide) ⟨rfl, rfl⟩ tw_199 (Or.inl rfl) rfl d_BK_nextBytes_2 ?_
  refine g_callV (na := 1) X (c_BK_stepBytes B0 hb ho (bT b) (by omega)) rfl fA rfl ⟨⟨tw_331, tw_12⟩, ⟨by decide, by decide, by decide +kernel⟩, by decide, by decide⟩ tw_328 tw_330 ts_BK_stepBytes rfl hl.1 (Nat.le_of_ble_eq_true rfl) ⟨by decide, by decide⟩ d_BK_nextBytes_5 (fun v h' hp => ?_)
  obtain ⟨rfl, rfl⟩ := hp
  refine g_widen (k' := 0) (n' := 0) (by decide) (by decide) ?_
  show G D s0 p l e _ s m _ below meth c h _ _ _ (F0 m 8 ls [.int (iZ (bB b (bC b (bT b + 1)) - bB b (bC b (bT b))))])
  exact g_iret X (⟨rfl, rfl⟩) (by decide) (by decide) d_BK_nextBytes_8

set_option maxHeartbeats 4000000 in
set_option maxRecDepth 100000 in
theorem c_BK_nextGain {D : va_G} {s0 : State} {l : Launch} {h : gH} (B0 : gB D s0) {a : Nat} {b : Blk} (hb : isBk D h a b) (ho : okB b) (hT : bT b < 120) : gMet D s0 l y_BK_nextGain b_BK_nextGain 1 (some .long) ({ frames := 1, cells := 0, slots := 0, locals := 21 } : Room) [.ref a] h (fun v h' => some (.long (lZ (bG b (bC b (bT b + 1)) - bG b (bC b (bT b))))) = v ∧ h = h') := by
  obtain ⟨p1, p2, p3, fA, fB, fG, fC⟩ := id hb
  obtain ⟨k1, k2, k3, k4, k5, k6, k7, k8⟩ := id ho
  refine g_enter B0 (plainFor_of_name (by decide)) (Nat.le_of_ble_eq_true rfl) (fun p e s m below meth c ls X hnm hl => ?_)
  have hl : lv_has ls 1 [(0, .ref a)] := hl
  refine g_1 (fun w => lv_aload_n X.1 X.2.1 d_BK_nextGain_0 rfl (lv_at hl 0 rfl) w) ?_
  refine g_1 (fun w => lv_aload_n X.1 X.2.1 d_BK_nextGain_1 rfl (lv_at hl 0 rfl) w) ?_
  refine g_get X (ci := 1) rfl fA 5 (by decide) ⟨rfl, rfl⟩ tw_199 (Or.inl rfl) rfl d_BK_nextGain_2 ?_
  refine g_callV (na := 1) X (c_BK_stepGain B0 hb ho (bT b) (by omega)) rfl fA rfl ⟨⟨tw_327, tw_12⟩, ⟨by decide, by decide, by decide +kernel⟩, by decide, by decide⟩ tw_324 tw_326 ts_BK_stepGain rfl hl.1 (Nat.le_of_ble_eq_true rfl) ⟨by decide, by decide⟩ d_BK_nextGain_5 (fun v h' hp => ?_)
  obtain ⟨rfl, rfl⟩ := hp
  refine g_widen (k' := 0) (n' := 0) (by decide) (by decide) ?_
  show G D s0 p l e _ s m _ below meth c h _ _ _ (F0 m 8 ls [.long (lZ (bG b (bC b (bT b + 1)) - bG b (bC b (bT b))))])
  exact g_lret X (⟨rfl, rfl⟩) (by decide) (by decide) d_BK_nextGain_8

set_option maxHeartbeats 4000000 in
set_option maxRecDepth 100000 in
theorem c_BK_nextHasSlope {D : va_G} {s0 : State} {l : Launch} {h : gH} (B0 : gB D s0) {a : Nat} {b : Blk} (hb : isBk D h a b) (ho : okB b) {sg sb : Int} (hg1 : -65970697666560 ≤ sg) (hg2 : sg ≤ 65970697666560) (hb1 : 0 ≤ sb) (hb2 : sb ≤ 65535) (hmo : bT b < bS b → bB b (bC b (bT b)) ≤ bB b (bC b (bT b + 1))) : gMet D s0 l y_BK_nextHasSlope b_BK_nextHasSlope 4 (some .boolean) ({ frames := 2, cells := 0, slots := 0, locals := 48 } : Room) [.ref a, .long (lZ (sg)), .int (iZ (sb))] h (fun v h' => some (.int (iZ (if bT b < bS b ∧ cmpZ ((bG b (bC b (bT b + 1)) - bG b (bC b (bT b))) * sb) (sg * (bB b (bC b (bT b + 1)) - bB b (bC b (bT b)))) = 0 then 1 else 0))) = v ∧ h = h') := by
  obtain ⟨p1, p2, p3, fA, fB, fG, fC⟩ := id hb
  obtain ⟨k1, k2, k3, k4, k5, k6, k7, k8⟩ := id ho
  have q1 := k6 (bC b (bT b + 1))
  have q2 := k6 (bC b (bT b))
  have q3 := k7 (bC b (bT b + 1))
  have q4 := k7 (bC b (bT b))
  have q5 : bT b < bS b → bB b (bC b (bT b)) ≤ bB b (bC b (bT b + 1)) := fun z => hmo z
  refine g_enter B0 (plainFor_of_name (by decide)) (Nat.le_of_ble_eq_true rfl) (fun p e s m below meth c ls X hnm hl => ?_)
  have hl : lv_has ls 4 [(0, .ref a), (1, .long (lZ (sg))), (3, .int (iZ (sb)))] := hl
  refine g_1 (fun w => lv_aload_n X.1 X.2.1 d_BK_nextHasSlope_0 rfl (lv_at hl 0 rfl) w) ?_
  refine g_callV (na := 0) X (c_BK_hasNext B0 hb ho) rfl fA rfl ⟨⟨tw_435, tw_12⟩, ⟨by decide, by decide, by decide +kernel⟩, by decide, by decide⟩ tw_453 tw_434 ts_BK_hasNext rfl hl.1 (Nat.le_of_ble_eq_true rfl) ⟨by decide, by decide⟩ d_BK_nextHasSlope_1 (fun v h' hp => ?_)
  obtain ⟨rfl, rfl⟩ := hp
  refine g_widen (k' := 0) (n' := 0) (by decide) (by decide) ?_
  show G D s0 p l e _ s m _ below meth c h _ _ _ (F0 m 4 ls [.int (iZ (if bT b < bS b then 1 else 0))])
  refine g_if_eq (tgt := 27) X (by first | exact cmpZ_ok _ _ | (split <;> exact ⟨by omega, by omega⟩)) d_BK_nextHasSlope_4 (by decide) (fun c4 => ?_) (fun c4 => ?_)
  · refine g_1 (fun w => lv_iconst (v := iZ 0) X.1 X.2.1 d_BK_nextHasSlope_27 rfl w) ?_
    exact g_zret X rfl (⟨g_ei (by first | (rw [if_pos (by omega)]; done) | (rw [if_neg (by omega)]; done) | (split <;> omega)), rfl⟩) (by decide) (by decide) d_BK_nextHasSlope_28
  · have c4 : bT b < bS b := by
      rcases Nat.lt_or_ge (bT b) (bS b) with z | z
      · exact z
      · rw [if_neg (by omega)] at c4; exact absurd rfl c4
    have q6 := q5 c4
    refine g_1 (fun w => lv_aload_n X.1 X.2.1 d_BK_nextHasSlope_7 rfl (lv_at hl 0 rfl) w) ?_
    refine g_callV (na := 0) X (c_BK_nextGain B0 hb ho (by omega)) rfl fA rfl ⟨⟨tw_439, tw_12⟩, ⟨by decide, by decide, by decide +kernel⟩, by decide, by decide⟩ tw_454 tw_438 ts_BK_nextGain rfl hl.1 (Nat.le_of_ble_eq_true rfl) ⟨by decide, by decide⟩ d_BK_nextHasSlope_8 (fun v h' hp => ?_)
    obtain ⟨rfl, rfl⟩ := hp
    refine g_widen (k' := 0) (n' := 0) (by decide) (by decide) ?_
    show G D s0 p l e _ s m _ below meth c h _ _ _ (F0 m 11 ls [.long (lZ (bG b (bC b (bT b + 1)) - bG b (bC b (bT b))))])
    refine g_1 (fun w => lv_aload_n X.1 X.2.1 d_BK_nextHasSlope_11 rfl (lv_at hl 0 rfl) w) ?_
    refine g_callV (na := 0) X (c_BK_nextBytes B0 hb ho (by omega)) rfl fA rfl ⟨⟨tw_443, tw_12⟩, ⟨by decide, by decide, by decide +kernel⟩, by decide, by decide⟩ tw_455 tw_442 ts_BK_nextBytes rfl hl.1 (Nat.le_of_ble_eq_true rfl) ⟨by decide, by decide⟩ d_BK_nextHasSlope_12 (fun v h' hp => ?_)
    obtain ⟨rfl, rfl⟩ := hp
    refine g_widen (k' := 0) (n' := 0) (by decide) (by decide) ?_
    show G D s0 p l e _ s m _ below meth c h _ _ _ (F0 m 15 ls [.int (iZ (bB b (bC b (bT b + 1)) - bB b (bC b (bT b)))), .long (lZ (bG b (bC b (bT b + 1)) - bG b (bC b (bT b))))])
    refine g_1 (fun w => lv_lload_n X.1 X.2.1 d_BK_nextHasSlope_15 rfl (lv_at hl 1 rfl) w) ?_
    refine g_1 (fun w => lv_iload_n X.1 X.2.1 d_BK_nextHasSlope_16 rfl (lv_at hl 2 rfl) w) ?_
    refine g_callSN (na := 4) X (c_LB_compareSlopes B0 ⟨by omega, by omega⟩ ⟨by omega, by omega⟩ (mul_ok (by omega) (by omega) (by omega) (by omega)) (mul_ok (by omega) (by omega) (by omega) (by omega))) rfl ⟨⟨tw_334, tw_1⟩, ⟨by decide, by decide, by decide +kernel⟩, by decide, by decide⟩ tw_332 tw_333 rfl hl.1 (Nat.le_of_ble_eq_true rfl) ⟨by decide, by decide⟩ d_BK_nextHasSlope_17 (fun v h' hp => ?_)
    obtain ⟨rfl, rfl⟩ := hp
    refine g_widen (k' := 0) (n' := 0) (by decide) (by decide) ?_
    show G D s0 p l e _ s m _ below meth c h _ _ _ (F0 m 20 ls [.int (iZ (cmpZ ((bG b (bC b (bT b + 1)) - bG b (bC b (bT b))) * sb) (sg * (bB b (bC b (bT b + 1)) - bB b (bC b (bT b))))))])
    refine g_if_ne (tgt := 27) X (cmpZ_ok _ _) d_BK_nextHasSlope_20 (by decide) (fun c20 => ?_) (fun c20 => ?_)
    · refine g_1 (fun w => lv_iconst (v := iZ 0) X.1 X.2.1 d_BK_nextHasSlope_27 rfl w) ?_
      exact g_zret X rfl (⟨g_ei (by first | (rw [if_pos (by omega)]; done) | (rw [if_neg (by omega)]; done) | (split <;> omega)), rfl⟩) (by decide) (by decide) d_BK_nextHasSlope_28
    · refine g_1 (fun w => lv_iconst (v := iZ 1) X.1 X.2.1 d_BK_nextHasSlope_23 rfl w) ?_
      refine g_goto (tgt := 28) X d_BK_nextHasSlope_24 (by decide) ?_
      exact g_zret X rfl (⟨g_ei (by first | (rw [if_pos (by omega)]; done) | (rw [if_neg (by omega)]; done) | (split <;> omega)), rfl⟩) (by decide) (by decide) d_BK_nextHasSlope_28
end
section
set_option maxHeartbeats 4000000 in
set_option maxRecDepth 100000 in
theorem c_BK_hasRoomFor {D : va_G} {s0 : State} {l : Launch} {h : gH} (B0 : gB D s0) {a : Nat} {b : Blk} (hb : isBk D h a b) (ho : okB b) {x : Int} (hx : i_ok x) : gMet D s0 l y_BK_hasRoomFor b_BK_hasRoomFor 2 (some .boolean) ({ frames := 0, cells := 0, slots := 0, locals := 0 } : Room) [.ref a, .int (iZ (x))] h (fun v h' => some (.int (iZ (if bP b < 120 ∧ x + bB b (bP b) ≤ 65535 then 1 else 0))) = v ∧ h = h') := by
  obtain ⟨p1, p2, p3, fA, fB, fG, fC⟩ := id hb
  obtain ⟨k1, k2, k3, k4, k5, k6, k7, k8⟩ := id ho
  have q1 := k6 (bP b)
  obtain ⟨hx1, hx2⟩ := id hx
  refine g_enter B0 (plainFor_of_name (by decide)) (Nat.le_of_ble_eq_true rfl) (fun p e s m below meth c ls X hnm hl => ?_)
  have hl : lv_has ls 2 [(0, .ref a), (1, .int (iZ (x)))] := hl
  refine g_1 (fun w => lv_aload_n X.1 X.2.1 d_BK_hasRoomFor_0 rfl (lv_at hl 0 rfl) w) ?_
  refine g_get X (ci := 1) rfl fA 3 (by decide) ⟨rfl, rfl⟩ tw_195 (Or.inl rfl) rfl d_BK_hasRoomFor_1 ?_
  refine g_1 (fun w => lv_bipush (v := iZ 120) X.1 X.2.1 d_BK_hasRoomFor_4 (by decide) w) ?_
  refine g_icmp_ge (tgt := 29) X (⟨by omega, by omega⟩) (⟨by omega, by omega⟩) d_BK_hasRoomFor_6 (by decide) (fun c6 => ?_) (fun c6 => ?_)
  · refine g_1 (fun w => lv_iconst (v := iZ 0) X.1 X.2.1 d_BK_hasRoomFor_29 rfl w) ?_
    exact g_zret X rfl (⟨g_ei (by split <;> omega), rfl⟩) (by decide) (by decide) d_BK_hasRoomFor_30
  · refine g_1 (fun w => lv_iload_n X.1 X.2.1 d_BK_hasRoomFor_9 rfl (lv_at hl 1 rfl) w) ?_
    refine g_1 (fun w => lv_ldc X.1 X.2.1 X.2.2.2.2.2.1 (X.w tw_310 rfl) d_BK_hasRoomFor_10 w) ?_
    refine g_ti (show _ = iZ 65535 by decide) ?_
    refine g_1 (fun w => lv_aload_n X.1 X.2.1 d_BK_hasRoomFor_12 rfl (lv_at hl 0 rfl) w) ?_
    refine g_get X (ci := 1) rfl fA 0 (by decide) ⟨rfl, rfl⟩ tw_192 (Or.inl rfl) rfl d_BK_hasRoomFor_13 ?_
    refine g_1 (fun w => lv_aload_n X.1 X.2.1 d_BK_hasRoomFor_16 rfl (lv_at hl 0 rfl) w) ?_
    refine g_get X (ci := 1) rfl fA 3 (by decide) ⟨rfl, rfl⟩ tw_195 (Or.inl rfl) rfl d_BK_hasRoomFor_17 ?_
    refine g_ild X fB (bP b) (rfl) (by omega) (by omega) d_BK_hasRoomFor_20 ?_
    refine g_isub X d_BK_hasRoomFor_21 ?_
    refine g_icmp_gt (tgt := 29) X (⟨by omega, by omega⟩) (⟨by omega, by omega⟩) d_BK_hasRoomFor_22 (by decide) (fun c22 => ?_) (fun c22 => ?_)
    · refine g_1 (fun w => lv_iconst (v := iZ 0) X.1 X.2.1 d_BK_hasRoomFor_29 rfl w) ?_
      exact g_zret X rfl (⟨g_ei (by split <;> omega), rfl⟩) (by decide) (by decide) d_BK_hasRoomFor_30
    · refine g_1 (fun w => lv_iconst (v := iZ 1) X.1 X.2.1 d_BK_hasRoomFor_25 rfl w) ?_
      refine g_goto (tgt := 30) X d_BK_hasRoomFor_26 (by decide) ?_
      exact g_zret X rfl (⟨g_ei (by split <;> omega), rfl⟩) (by decide) (by decide) d_BK_hasRoomFor_30

set_option maxHeartbeats 4000000 in
set_option maxRecDepth 100000 in
theorem c_BK_newestOvertakes {D : va_G} {s0 : State} {l : Launch} {h : gH} (B0 : gB D s0) {a : Nat} {b : Blk} (hb : isBk D h a b) (ho : okB b) (i : Nat) (hi : i < 120) (hm1 : bB b (bC b i) ≤ bB b (bC b (i + 1))) (hm2 : bB b (bC b i) ≤ bB b (bP b)) : gMet D s0 l y_BK_newestOvertakes b_BK_newestOvertakes 6 (some .boolean) ({ frames := 2, cells := 0, slots := 0, locals := 48 } : Room) [.ref a, .int (iZ (i))] h (fun v h' => some (.int (iZ (if ovt b i then 1 else 0))) = v ∧ h = h') := by
  obtain ⟨p1, p2, p3, fA, fB, fG, fC⟩ := id hb
  obtain ⟨k1, k2, k3, k4, k5, k6, k7, k8⟩ := id ho
  have q0 := k5 i
  have q1 := k6 (bC b (i + 1))
  have q2 := k6 (bC b i)
  have q3 := k7 (bC b (i + 1))
  have q4 := k7 (bC b i)
  have q5 := k6 (bP b)
  have q6 := k7 (bP b)
  refine g_enter B0 (plainFor_of_name (by decide)) (Nat.le_of_ble_eq_true rfl) (fun p e s m below meth c ls X hnm hl => ?_)
  have hl : lv_has ls 6 [(0, .ref a), (1, .int (iZ (i)))] := hl
  refine g_1 (fun w => lv_aload_n X.1 X.2.1 d_BK_newestOvertakes_0 rfl (lv_at hl 0 rfl) w) ?_
  refine g_get X (ci := 1) rfl fA 2 (by decide) ⟨rfl, rfl⟩ tw_194 (Or.inl rfl) rfl d_BK_newestOvertakes_1 ?_
  refine g_1 (fun w => lv_iload_n X.1 X.2.1 d_BK_newestOvertakes_4 rfl (lv_at hl 1 rfl) w) ?_
  refine g_ild X fC (i) (rfl) (by omega) (by omega) d_BK_newestOvertakes_5 ?_
  refine g_s (fun kk => lv_istore_n (lv' := [(2, .int (iZ (bC b i))), (0, .ref a), (1, .int (iZ (i)))]) X.1 X.2.1 d_BK_newestOvertakes_6 rfl hl (by decide) rfl kk) (fun ls hl => ?_)
  refine g_1 (fun w => lv_aload_n X.1 X.2.1 d_BK_newestOvertakes_7 rfl (lv_at hl 1 rfl) w) ?_
  refine g_get X (ci := 1) rfl fA 1 (by decide) ⟨rfl, rfl⟩ tw_193 (Or.inl rfl) rfl d_BK_newestOvertakes_8 ?_
  refine g_1 (fun w => lv_aload_n X.1 X.2.1 d_BK_newestOvertakes_11 rfl (lv_at hl 1 rfl) w) ?_
  refine g_get X (ci := 1) rfl fA 3 (by decide) ⟨rfl, rfl⟩ tw_195 (Or.inl rfl) rfl d_BK_newestOvertakes_12 ?_
  refine g_lld X fG (bP b) (rfl) (by omega) (by omega) d_BK_newestOvertakes_15 ?_
  refine g_1 (fun w => lv_aload_n X.1 X.2.1 d_BK_newestOvertakes_16 rfl (lv_at hl 1 rfl) w) ?_
  refine g_get X (ci := 1) rfl fA 1 (by decide) ⟨rfl, rfl⟩ tw_193 (Or.inl rfl) rfl d_BK_newestOvertakes_17 ?_
  refine g_1 (fun w => lv_iload_n X.1 X.2.1 d_BK_newestOvertakes_20 rfl (lv_at hl 0 rfl) w) ?_
  refine g_lld X fG (bC b i) (rfl) (by omega) (by omega) d_BK_newestOvertakes_21 ?_
  refine g_lsub X d_BK_newestOvertakes_22 ?_
  refine g_s (fun kk => lv_lstore_n (lv' := [(3, .long (lZ ((bG b (bP b)) - (bG b (bC b i))))), (2, .int (iZ (bC b i))), (0, .ref a), (1, .int (iZ (i)))]) X.1 X.2.1 d_BK_newestOvertakes_23 rfl hl (by decide) rfl kk) (fun ls hl => ?_)
  refine g_1 (fun w => lv_aload_n X.1 X.2.1 d_BK_newestOvertakes_24 rfl (lv_at hl 2 rfl) w) ?_
  refine g_get X (ci := 1) rfl fA 0 (by decide) ⟨rfl, rfl⟩ tw_192 (Or.inl rfl) rfl d_BK_newestOvertakes_25 ?_
  refine g_1 (fun w => lv_aload_n X.1 X.2.1 d_BK_newestOvertakes_28 rfl (lv_at hl 2 rfl) w) ?_
  refine g_get X (ci := 1) rfl fA 3 (by decide) ⟨rfl, rfl⟩ tw_195 (Or.inl rfl) rfl d_BK_newestOvertakes_29 ?_
  refine g_ild X fB (bP b) (rfl) (by omega) (by omega) d_BK_newestOvertakes_32 ?_
  refine g_1 (fun w => lv_aload_n X.1 X.2.1 d_BK_newestOvertakes_33 rfl (lv_at hl 2 rfl) w) ?_
  refine g_get X (ci := 1) rfl fA 0 (by decide) ⟨rfl, rfl⟩ tw_192 (Or.inl rfl) rfl d_BK_newestOvertakes_34 ?_
  refine g_1 (fun w => lv_iload_n X.1 X.2.1 d_BK_newestOvertakes_37 rfl (lv_at hl 1 rfl) w) ?_
  refine g_ild X fB (bC b i) (rfl) (by omega) (by omega) d_BK_newestOvertakes_38 ?_
  refine g_isub X d_BK_newestOvertakes_39 ?_
  refine g_s (fun kk => lv_istore (lv' := [(5, .int (iZ ((bB b (bP b)) - (bB b (bC b i))))), (3, .long (lZ ((bG b (bP b)) - (bG b (bC b i))))), (2, .int (iZ (bC b i))), (0, .ref a), (1, .int (iZ (i)))]) X.1 X.2.1 d_BK_newestOvertakes_40 hl (by decide) rfl kk) (fun ls hl => ?_)
  refine g_1 (fun w => lv_lload_n X.1 X.2.1 d_BK_newestOvertakes_42 rfl (lv_at hl 1 rfl) w) ?_
  refine g_1 (fun w => lv_lconst (v := lZ 0) X.1 X.2.1 d_BK_newestOvertakes_43 (by decide) w) ?_
  refine g_lcmp X (by first | exact cmpZ_ok _ _ | exact ⟨by omega, by omega⟩) (by first | exact cmpZ_ok _ _ | exact ⟨by omega, by omega⟩) d_BK_newestOvertakes_44 ?_
  refine g_if_le (tgt := 71) X (cmpZ_ok _ _) d_BK_newestOvertakes_45 (by decide) (fun c45 => ?_) (fun c45 => ?_)
  · refine g_1 (fun w => lv_iconst (v := iZ 0) X.1 X.2.1 d_BK_newestOvertakes_71 rfl w) ?_
    exact g_zret X rfl (⟨g_ei (by rw [if_neg (fun z => by first | exact absurd (cmpZ_ge.mpr z.2) (by omega) | (have := cmpZ_gt.mpr z.1; omega))]), rfl⟩) (by decide) (by decide) d_BK_newestOvertakes_72
  · have c45 := cmpZ_gt.mp c45
    refine g_1 (fun w => lv_lload_n X.1 X.2.1 d_BK_newestOvertakes_48 rfl (lv_at hl 1 rfl) w) ?_
    refine g_1 (fun w => lv_iload X.1 X.2.1 d_BK_newestOvertakes_49 (lv_at hl 0 rfl) w) ?_
    refine g_1 (fun w => lv_aload_n X.1 X.2.1 d_BK_newestOvertakes_51 rfl (lv_at hl 3 rfl) w) ?_
    refine g_1 (fun w => lv_iload_n X.1 X.2.1 d_BK_newestOvertakes_52 rfl (lv_at hl 4 rfl) w) ?_
    refine g_callV (na := 1) X (c_BK_stepGain B0 hb ho i (by omega)) rfl fA rfl ⟨⟨tw_327, tw_12⟩, ⟨by decide, by decide, by decide +kernel⟩, by decide, by decide⟩ tw_324 tw_326 ts_BK_stepGain rfl hl.1 (Nat.le_of_ble_eq_true rfl) ⟨by decide, by decide⟩ d_BK_newestOvertakes_53 (fun v h' hp => ?_)
    obtain ⟨rfl, rfl⟩ := hp
    refine g_widen (k' := 0) (n' := 0) (by decide) (by decide) ?_
    show G D s0 p l e _ s m _ below meth c h _ _ _ (F0 m 56 ls [.long (lZ (bG b (bC b (i + 1)) - bG b (bC b i))), .int (iZ ((bB b (bP b)) - (bB b (bC b i)))), .long (lZ ((bG b (bP b)) - (bG b (bC b i))))])
    refine g_1 (fun w => lv_aload_n X.1 X.2.1 d_BK_newestOvertakes_56 rfl (lv_at hl 3 rfl) w) ?_
    refine g_1 (fun w => lv_iload_n X.1 X.2.1 d_BK_newestOvertakes_57 rfl (lv_at hl 4 rfl) w) ?_
    refine g_callV (na := 1) X (c_BK_stepBytes B0 hb ho i (by omega)) rfl fA rfl ⟨⟨tw_331, tw_12⟩, ⟨by decide, by decide, by decide +kernel⟩, by decide, by decide⟩ tw_328 tw_330 ts_BK_stepBytes rfl hl.1 (Nat.le_of_ble_eq_true rfl) ⟨by decide, by decide⟩ d_BK_newestOvertakes_58 (fun v h' hp => ?_)
    obtain ⟨rfl, rfl⟩ := hp
    refine g_widen (k' := 0) (n' := 0) (by decide) (by decide) ?_
    show G D s0 p l e _ s m _ below meth c h _ _ _ (F0 m 61 ls [.int (iZ (bB b (bC b (i + 1)) - bB b (bC b i))), .long (lZ (bG b (bC b (i + 1)) - bG b (bC b i))), .int (iZ ((bB b (bP b)) - (bB b (bC b i)))), .long (lZ ((bG b (bP b)) - (bG b (bC b i))))])
    refine g_callSN (na := 4) X (c_LB_compareSlopes B0 ⟨by omega, by omega⟩ ⟨by omega, by omega⟩ (mul_ok (by omega) (by omega) (by omega) (by omega)) (mul_ok (by omega) (by omega) (by omega) (by omega))) rfl ⟨⟨tw_334, tw_1⟩, ⟨by decide, by decide, by decide +kernel⟩, by decide, by decide⟩ tw_332 tw_333 rfl hl.1 (Nat.le_of_ble_eq_true rfl) ⟨by decide, by decide⟩ d_BK_newestOvertakes_61 (fun v h' hp => ?_)
    obtain ⟨rfl, rfl⟩ := hp
    refine g_widen (k' := 0) (n' := 0) (by decide) (by decide) ?_
    show G D s0 p l e _ s m _ below meth c h _ _ _ (F0 m 64 ls [.int (iZ (cmpZ ((bG b (bP b) - bG b (bC b i)) * (bB b (bC b (i + 1)) - bB b (bC b i))) ((bG b (bC b (i + 1)) - bG b (bC b i)) * (bB b (bP b) - bB b (bC b i)))))])
    refine g_if_lt (tgt := 71) X (cmpZ_ok _ _) d_BK_newestOvertakes_64 (by decide) (fun c64 => ?_) (fun c64 => ?_)
    · refine g_1 (fun w => lv_iconst (v := iZ 0) X.1 X.2.1 d_BK_newestOvertakes_71 rfl w) ?_
      exact g_zret X rfl (⟨g_ei (by rw [if_neg (fun z => by first | exact absurd (cmpZ_ge.mpr z.2) (by omega) | (have := cmpZ_gt.mpr z.1; omega))]), rfl⟩) (by decide) (by decide) d_BK_newestOvertakes_72
    · have c64 := cmpZ_ge.mp c64
      refine g_1 (fun w => lv_iconst (v := iZ 1) X.1 X.2.1 d_BK_newestOvertakes_67 rfl w) ?_
      refine g_goto (tgt := 72) X d_BK_newestOvertakes_68 (by decide) ?_
      exact g_zret X rfl (⟨g_ei (by rw [if_pos ⟨c45, c64⟩]), rfl⟩) (by decide) (by decide) d_BK_newestOvertakes_72

set_option maxHeartbeats 4000000 in
set_option maxRecDepth 100000 in
theorem c_BK_renewSteps {D : va_G} {s0 : State} {l : Launch} {h : gH} (B0 : gB D s0) {a : Nat} {b : Blk} (hb : isBk D h a b) (ho : okB b) (hS : bS b < bP b) (hm : ∀ i, i < bS b → bB b (bC b i) ≤ bB b (bC b (i + 1)) ∧ bB b (bC b i) ≤ bB b (bP b)) : gMet D s0 l y_BK_renewSteps b_BK_renewSteps 2 none ({ frames := 3, cells := 0, slots := 0, locals := 73 } : Room) [.ref a] h (fun v h' => none = v ∧ isBk D h' a (renew b) ∧ kp (P_Bk a) h h') := by
  obtain ⟨p1, p2, p3, fA, fB, fG, fC⟩ := id hb
  obtain ⟨k1, k2, k3, k4, k5, k6, k7, k8⟩ := id ho
  refine g_enter B0 (plainFor_of_name (by decide)) (Nat.le_of_ble_eq_true rfl) (fun p e s m below meth c ls X hnm hl => ?_)
  have hl : lv_has ls 2 [(0, .ref a)] := hl
  have tail : ∀ (n : Nat) (ls : Array Slot), n ≤ bS b → kept b (bS b) = n → lv_has ls 2 [(1, .int (iZ n)), (0, .ref a)] → G D s0 p l e ({ frames := 3, cells := 0, slots := 0, locals := 73 } : Room) s m ([.ref a] : List Value).toArray below meth c h 0 0 (MQ below (gQ D s0 (fun v h' => none = v ∧ isBk D h' a (renew b) ∧ kp (P_Bk a) h h')) ([.ref a] : List Value).toArray s 0 0 (fun q => s0.heap.size ≤ q)) (F0 m 25 ls []) := by
    intro n ls hn ek hl
    have q5 := k7 (bP b)
    have q6 := k7 (bC b n)
    have q7 := k5 n
    have ek := ek
    refine g_1 (fun w => lv_aload_n X.1 X.2.1 d_BK_renewSteps_25 rfl (lv_at hl 1 rfl) w) ?_
    refine g_get X (ci := 1) rfl fA 1 (by decide) ⟨rfl, rfl⟩ tw_193 (Or.inl rfl) rfl d_BK_renewSteps_26 ?_
    refine g_1 (fun w => lv_aload_n X.1 X.2.1 d_BK_renewSteps_29 rfl (lv_at hl 1 rfl) w) ?_
    refine g_get X (ci := 1) rfl fA 3 (by decide) ⟨rfl, rfl⟩ tw_195 (Or.inl rfl) rfl d_BK_renewSteps_30 ?_
    refine g_lld X fG (bP b) (rfl) (by omega) (by omega) d_BK_renewSteps_33 ?_
    refine g_1 (fun w => lv_aload_n X.1 X.2.1 d_BK_renewSteps_34 rfl (lv_at hl 1 rfl) w) ?_
    refine g_get X (ci := 1) rfl fA 1 (by decide) ⟨rfl, rfl⟩ tw_193 (Or.inl rfl) rfl d_BK_renewSteps_35 ?_
    refine g_1 (fun w => lv_aload_n X.1 X.2.1 d_BK_renewSteps_38 rfl (lv_at hl 1 rfl) w) ?_
    refine g_get X (ci := 1) rfl fA 2 (by decide) ⟨rfl, rfl⟩ tw_194 (Or.inl rfl) rfl d_BK_renewSteps_39 ?_
    refine g_1 (fun w => lv_iload_n X.1 X.2.1 d_BK_renewSteps_42 rfl (lv_at hl 0 rfl) w) ?_
    refine g_ild X fC (n) (rfl) (by omega) (by omega) d_BK_renewSteps_43 ?_
    refine g_lld X fG (bC b n) (rfl) (by omega) (by omega) d_BK_renewSteps_44 ?_
    refine g_lcmp X (by first | exact cmpZ_ok _ _ | (split <;> exact ⟨by omega, by omega⟩) | exact ⟨by omega, by omega⟩) (by first | exact cmpZ_ok _ _ | (split <;> exact ⟨by omega, by omega⟩) | exact ⟨by omega, by omega⟩) d_BK_renewSteps_45 ?_
    refine g_if_le (tgt := 62) X (cmpZ_ok _ _) d_BK_renewSteps_46 (by decide) (fun c46 => ?_) (fun c46 => ?_)
    · have c46 : ¬ 0 < cmpZ (bG b (bP b)) (bG b (bC b n)) := by omega
      rw [cmpZ_gt] at c46
      refine g_1 (fun w => lv_aload_n X.1 X.2.1 d_BK_renewSteps_62 rfl (lv_at hl 1 rfl) w) ?_
      refine g_1 (fun w => lv_iload_n X.1 X.2.1 d_BK_renewSteps_63 rfl (lv_at hl 0 rfl) w) ?_
      refine g_put X (ci := 1) rfl fA (Nat.succ_ne_zero _) 4 (by decide) ⟨rfl, rfl⟩ tw_197 (Or.inl rfl) rfl rfl rfl (Nat.le_of_ble_eq_true rfl) d_BK_renewSteps_64 ?_
      obtain ⟨h_1, eh_1⟩ : ∃ z, z = g_up h a ((1, 0), .inr (1, [.ref p1, .ref p2, .ref p3, .int (iZ (bP b)), .int (iZ (n)), .int (iZ (bT b)), .int (iZ (bL b))])) := ⟨_, rfl⟩
      refine g_h (h' := h_1) eh_1.symm ?_
      have f_2 : h_1 a = some ((1, 0), .inr (1, [.ref p1, .ref p2, .ref p3, .int (iZ (bP b)), .int (iZ (n)), .int (iZ (bT b)), .int (iZ (bL b))])) := by rw [eh_1]; exact g_us
      have f_3 : h_1 p1 = some ((11, a), gI D 121 (bB b)) := by rw [eh_1]; exact g_uk fB fA (show (11 : Nat) ≠ 1 by decide)
      have f_4 : h_1 p2 = some ((12, a), gL D 121 (bG b)) := by rw [eh_1]; exact g_uk fG fA (show (12 : Nat) ≠ 1 by decide)
      have f_5 : h_1 p3 = some ((13, a), gI D 121 (fun j => ((bC b j : Nat) : Int))) := by rw [eh_1]; exact g_uk fC fA (show (13 : Nat) ≠ 1 by decide)
      have hk_6 := kp_up (kp_rf (P := P_Bk a) (h := h)) eh_1 fA (Or.inl rfl)
      exact g_vret X (⟨rfl, by unfold renew; rw [ek, if_neg (by omega)]; exact ⟨p1, p2, p3, f_2, f_3, f_4, f_5⟩, hk_6⟩) (by decide) (by decide) d_BK_renewSteps_67
    · have c46 := cmpZ_gt.mp c46
      refine g_s (fun kk => lv_iinc (v := iZ (n + 1)) (lv' := [(1, .int (iZ (n + 1))), (0, .ref a)]) X.1 X.2.1 d_BK_renewSteps_49 hl (k := 0) rfl (iZ_add _ _) (by decide) rfl kk) (fun ls hl => ?_)
      refine g_1 (fun w => lv_aload_n X.1 X.2.1 d_BK_renewSteps_52 rfl (lv_at hl 1 rfl) w) ?_
      refine g_get X (ci := 1) rfl fA 2 (by decide) ⟨rfl, rfl⟩ tw_194 (Or.inl rfl) rfl d_BK_renewSteps_53 ?_
      refine g_1 (fun w => lv_iload_n X.1 X.2.1 d_BK_renewSteps_56 rfl (lv_at hl 0 rfl) w) ?_
      refine g_1 (fun w => lv_aload_n X.1 X.2.1 d_BK_renewSteps_57 rfl (lv_at hl 1 rfl) w) ?_
      refine g_get X (ci := 1) rfl fA 3 (by decide) ⟨rfl, rfl⟩ tw_195 (Or.inl rfl) rfl d_BK_renewSteps_58 ?_
      refine g_ist X fC (Nat.succ_ne_zero _) (n + 1) (by omega) (by omega) (by omega) d_BK_renewSteps_61 ?_
      obtain ⟨h_7, eh_7⟩ : ∃ z, z = g_up h p3 ((13, a), gI D 121 (va_up (fun j => ((bC b j : Nat) : Int)) (n + 1) (bP b))) := ⟨_, rfl⟩
      refine g_h (h' := h_7) eh_7.symm ?_
      have f_8 : h_7 a = some ((1, 0), .inr (1, [.ref p1, .ref p2, .ref p3, .int (iZ (bP b)), .int (iZ (bS b)), .int (iZ (bT b)), .int (iZ (bL b))])) := by rw [eh_7]; exact g_uk fA fC (show (1 : Nat) ≠ 13 by decide)
      have f_9 : h_7 p1 = some ((11, a), gI D 121 (bB b)) := by rw [eh_7]; exact g_uk fB fC (show (11 : Nat) ≠ 13 by decide)
      have f_10 : h_7 p2 = some ((12, a), gL D 121 (bG b)) := by rw [eh_7]; exact g_uk fG fC (show (12 : Nat) ≠ 13 by decide)
      have f_11 : h_7 p3 = some ((13, a), gI D 121 (va_up (fun j => ((bC b j : Nat) : Int)) (n + 1) (bP b))) := by rw [eh_7]; exact g_us
      have hk_12 := kp_up (kp_rf (P := P_Bk a) (h := h)) eh_7 fC (Or.inr ⟨rfl, Nat.le_of_ble_eq_true rfl, Nat.le_of_ble_eq_true rfl⟩)
      refine g_1 (fun w => lv_aload_n X.1 X.2.1 d_BK_renewSteps_62 rfl (lv_at hl 1 rfl) w) ?_
      refine g_1 (fun w => lv_iload_n X.1 X.2.1 d_BK_renewSteps_63 rfl (lv_at hl 0 rfl) w) ?_
      refine g_put X (ci := 1) rfl f_8 (Nat.succ_ne_zero _) 4 (by decide) ⟨rfl, rfl⟩ tw_197 (Or.inl rfl) rfl rfl rfl (Nat.le_of_ble_eq_true rfl) d_BK_renewSteps_64 ?_
      obtain ⟨h_13, eh_13⟩ : ∃ z, z = g_up h_7 a ((1, 0), .inr (1, [.ref p1, .ref p2, .ref p3, .int (iZ (bP b)), .int (iZ (n + 1)), .int (iZ (bT b)), .int (iZ (bL b))])) := ⟨_, rfl⟩
      refine g_h (h' := h_13) eh_13.symm ?_
      have f_14 : h_13 a = some ((1, 0), .inr (1, [.ref p1, .ref p2, .ref p3, .int (iZ (bP b)), .int (iZ (n + 1)), .int (iZ (bT b)), .int (iZ (bL b))])) := by rw [eh_13]; exact g_us
      have f_15 : h_13 p1 = some ((11, a), gI D 121 (bB b)) := by rw [eh_13]; exact g_uk f_9 f_8 (show (11 : Nat) ≠ 1 by decide)
      have f_16 : h_13 p2 = some ((12, a), gL D 121 (bG b)) := by rw [eh_13]; exact g_uk f_10 f_8 (show (12 : Nat) ≠ 1 by decide)
      have f_17 : h_13 p3 = some ((13, a), gI D 121 (va_up (fun j => ((bC b j : Nat) : Int)) (n + 1) (bP b))) := by rw [eh_13]; exact g_uk f_11 f_8 (show (13 : Nat) ≠ 1 by decide)
      have hk_18 := kp_up (hk_12) eh_13 f_8 (Or.inl rfl)
      exact g_vret X (⟨rfl, by unfold renew; rw [ek, if_pos c46]; exact ⟨p1, p2, p3, f_14, f_15, f_16, by rw [← va_up_c]; exact f_17⟩, hk_18⟩) (by decide) (by decide) d_BK_renewSteps_67
  have loop : ∀ (n : Nat) (ls : Array Slot), n ≤ bS b → kept b n = kept b (bS b) → lv_has ls 2 [(1, .int (iZ n)), (0, .ref a)] → G D s0 p l e ({ frames := 3, cells := 0, slots := 0, locals := 73 } : Room) s m ([.ref a] : List Value).toArray below meth c h 0 0 (MQ below (gQ D s0 (fun v h' => none = v ∧ isBk D h' a (renew b) ∧ kp (P_Bk a) h h')) ([.ref a] : List Value).toArray s 0 0 (fun q => s0.heap.size ≤ q)) (F0 m 5 ls []) := by
    intro n
    induction n with
    | zero =>
      intro ls hn ek hl
      refine g_1 (fun w => lv_iload_n X.1 X.2.1 d_BK_renewSteps_5 rfl (lv_at hl 0 rfl) w) ?_
      refine g_if_le (tgt := 25) X (by first | exact cmpZ_ok _ _ | (split <;> exact ⟨by omega, by omega⟩) | exact ⟨by omega, by omega⟩) d_BK_renewSteps_6 (by decide) (fun c6 => ?_) (fun c6 => ?_)
      · exact tail 0 ls (by omega) (by rw [← ek]; rfl) hl
      · exact absurd c6 (by decide)
    | succ n ih =>
      intro ls hn ek hl
      refine g_1 (fun w => lv_iload_n X.1 X.2.1 d_BK_renewSteps_5 rfl (lv_at hl 0 rfl) w) ?_
      refine g_if_le (tgt := 25) X (by first | exact cmpZ_ok _ _ | (split <;> exact ⟨by omega, by omega⟩) | exact ⟨by omega, by omega⟩) d_BK_renewSteps_6 (by decide) (fun c6 => ?_) (fun c6 => ?_)
      · first | (exfalso; omega) | exact tail (n + 1) ls (by omega) (ek.symm.trans (kept_f (fun z => by rw [if_pos z] at c16; omega))) (lv_sub hl [0, 1] rfl)
      · refine g_1 (fun w => lv_aload_n X.1 X.2.1 d_BK_renewSteps_9 rfl (lv_at hl 1 rfl) w) ?_
        refine g_1 (fun w => lv_iload_n X.1 X.2.1 d_BK_renewSteps_10 rfl (lv_at hl 0 rfl) w) ?_
        refine g_1 (fun w => lv_iconst (v := iZ 1) X.1 X.2.1 d_BK_renewSteps_11 rfl w) ?_
        refine g_isub X d_BK_renewSteps_12 ?_
        refine g_ti (congrArg iZ (show ((((n + 1 : Nat) : Int)) - 1 : Int) = n from by omega)) ?_
        refine g_callV (na := 1) X (c_BK_newestOvertakes B0 hb ho n (by omega) (hm n (by omega)).1 (hm n (by omega)).2) rfl fA rfl ⟨⟨tw_323, tw_12⟩, ⟨by decide, by decide, by decide +kernel⟩, by decide, by decide⟩ tw_320 tw_322 ts_BK_newestOvertakes rfl hl.1 (Nat.le_of_ble_eq_true rfl) ⟨by decide, by decide⟩ d_BK_renewSteps_13 (fun v h' hp => ?_)
        obtain ⟨rfl, rfl⟩ := hp
        refine g_widen (k' := 0) (n' := 0) (by decide) (by decide) ?_
        show G D s0 p l e _ s m _ below meth c h _ _ _ (F0 m 16 ls [.int (iZ (if ovt b n then 1 else 0))])
        refine g_if_eq (tgt := 25) X (by first | exact cmpZ_ok _ _ | (split <;> exact ⟨by omega, by omega⟩) | exact ⟨by omega, by omega⟩) d_BK_renewSteps_16 (by decide) (fun c16 => ?_) (fun c16 => ?_)
        · first | (exfalso; omega) | exact tail (n + 1) ls (by omega) (ek.symm.trans (kept_f (fun z => by rw [if_pos z] at c16; omega))) (lv_sub hl [0, 1] rfl)
        · refine g_s (fun kk => lv_iinc (v := iZ (((n + 1 : Nat) : Int) + (-1))) (lv' := [(1, .int (iZ (((n + 1 : Nat) : Int) + (-1)))), (0, .ref a)]) X.1 X.2.1 d_BK_renewSteps_19 hl (k := 0) rfl (iZ_add _ _) (by decide) rfl kk) (fun ls hl => ?_)
          refine g_goto (tgt := 5) X d_BK_renewSteps_22 (by decide) ?_
          have hl := lv_sub hl [0, 1] rfl
          have hl : lv_has ls 2 [(1, .int (iZ n)), (0, .ref a)] := by rw [show (n : Int) = ((n + 1 : Nat) : Int) + (-1) by omega]; exact hl
          exact ih ls (by omega) ((kept_t (by rcases Classical.em (ovt b n) with z | z; exact z; rw [if_neg z] at c16; omega)).symm.trans ek) hl
  refine g_1 (fun w => lv_aload_n X.1 X.2.1 d_BK_renewSteps_0 rfl (lv_at hl 0 rfl) w) ?_
  refine g_get X (ci := 1) rfl fA 4 (by decide) ⟨rfl, rfl⟩ tw_197 (Or.inl rfl) rfl d_BK_renewSteps_1 ?_
  refine g_s (fun kk => lv_istore_n (lv' := [(1, .int (iZ (bS b))), (0, .ref a)]) X.1 X.2.1 d_BK_renewSteps_4 rfl hl (by decide) rfl kk) (fun ls hl => ?_)
  exact loop (bS b) ls (Nat.le_refl _) rfl (lv_sub hl [0, 1] rfl)
end
section
set_option maxHeartbeats 4000000 in
set_option maxRecDepth 100000 in
theorem c_BK_append {D : va_G} {s0 : State} {l : Launch} {h : gH} (B0 : gB D s0) {a : Nat} {b : Blk} (hb : isBk D h a b) (ho : okB b) {n g : Int} (hP : bP b < 120) (ho2 : okB (grown b n g)) (hm2 : ∀ i, i < bS b → bB (grown b n g) (bC b i) ≤ bB (grown b n g) (bC b (i + 1)) ∧ bB (grown b n g) (bC b i) ≤ bB (grown b n g) (bP b + 1)) : gMet D s0 l y_BK_append b_BK_append 4 none ({ frames := 4, cells := 0, slots := 0, locals := 94 } : Room) [.ref a, .int (iZ (n)), .long (lZ (g))] h (fun v h' => none = v ∧ isBk D h' a (renew (grown b n g)) ∧ kp (P_Bk a) h h') := by
  obtain ⟨p1, p2, p3, fA, fB, fG, fC⟩ := id hb
  obtain ⟨k1, k2, k3, k4, k5, k6, k7, k8⟩ := id ho
  refine g_enter B0 (plainFor_of_name (by decide)) (Nat.le_of_ble_eq_true rfl) (fun p e s m below meth c ls X hnm hl => ?_)
  have hl : lv_has ls 4 [(0, .ref a), (1, .int (iZ (n))), (2, .long (lZ (g)))] := hl
  refine g_1 (fun w => lv_aload_n X.1 X.2.1 d_BK_append_0 rfl (lv_at hl 0 rfl) w) ?_
  refine g_get X (ci := 1) rfl fA 0 (by decide) ⟨rfl, rfl⟩ tw_192 (Or.inl rfl) rfl d_BK_append_1 ?_
  refine g_1 (fun w => lv_aload_n X.1 X.2.1 d_BK_append_4 rfl (lv_at hl 0 rfl) w) ?_
  refine g_get X (ci := 1) rfl fA 3 (by decide) ⟨rfl, rfl⟩ tw_195 (Or.inl rfl) rfl d_BK_append_5 ?_
  refine g_1 (fun w => lv_iconst (v := iZ 1) X.1 X.2.1 d_BK_append_8 rfl w) ?_
  refine g_iadd X d_BK_append_9 ?_
  refine g_1 (fun w => lv_aload_n X.1 X.2.1 d_BK_append_10 rfl (lv_at hl 0 rfl) w) ?_
  refine g_get X (ci := 1) rfl fA 0 (by decide) ⟨rfl, rfl⟩ tw_192 (Or.inl rfl) rfl d_BK_append_11 ?_
  refine g_1 (fun w => lv_aload_n X.1 X.2.1 d_BK_append_14 rfl (lv_at hl 0 rfl) w) ?_
  refine g_get X (ci := 1) rfl fA 3 (by decide) ⟨rfl, rfl⟩ tw_195 (Or.inl rfl) rfl d_BK_append_15 ?_
  refine g_ild X fB (bP b) (rfl) (by omega) (by omega) d_BK_append_18 ?_
  refine g_1 (fun w => lv_iload_n X.1 X.2.1 d_BK_append_19 rfl (lv_at hl 1 rfl) w) ?_
  refine g_iadd X d_BK_append_20 ?_
  refine g_ist X fB (Nat.succ_ne_zero _) (bP b + 1) (by omega) (by omega) (by omega) d_BK_append_21 ?_
  obtain ⟨h_1, eh_1⟩ : ∃ z, z = g_up h p1 ((11, a), gI D 121 (va_up (bB b) (bP b + 1) (bB b (bP b) + n))) := ⟨_, rfl⟩
  refine g_h (h' := h_1) eh_1.symm ?_
  have f_2 : h_1 a = some ((1, 0), .inr (1, [.ref p1, .ref p2, .ref p3, .int (iZ (bP b)), .int (iZ (bS b)), .int (iZ (bT b)), .int (iZ (bL b))])) := by rw [eh_1]; exact g_uk fA fB (show (1 : Nat) ≠ 11 by decide)
  have f_3 : h_1 p1 = some ((11, a), gI D 121 (va_up (bB b) (bP b + 1) (bB b (bP b) + n))) := by rw [eh_1]; exact g_us
  have f_4 : h_1 p2 = some ((12, a), gL D 121 (bG b)) := by rw [eh_1]; exact g_uk fG fB (show (12 : Nat) ≠ 11 by decide)
  have f_5 : h_1 p3 = some ((13, a), gI D 121 (fun j => ((bC b j : Nat) : Int))) := by rw [eh_1]; exact g_uk fC fB (show (13 : Nat) ≠ 11 by decide)
  have hk_6 := kp_up (kp_rf (P := P_Bk a) (h := h)) eh_1 fB (Or.inr ⟨rfl, Nat.le_of_ble_eq_true rfl, Nat.le_of_ble_eq_true rfl⟩)
  refine g_1 (fun w => lv_aload_n X.1 X.2.1 d_BK_append_22 rfl (lv_at hl 0 rfl) w) ?_
  refine g_get X (ci := 1) rfl f_2 1 (by decide) ⟨rfl, rfl⟩ tw_193 (Or.inl rfl) rfl d_BK_append_23 ?_
  refine g_1 (fun w => lv_aload_n X.1 X.2.1 d_BK_append_26 rfl (lv_at hl 0 rfl) w) ?_
  refine g_get X (ci := 1) rfl f_2 3 (by decide) ⟨rfl, rfl⟩ tw_195 (Or.inl rfl) rfl d_BK_append_27 ?_
  refine g_1 (fun w => lv_iconst (v := iZ 1) X.1 X.2.1 d_BK_append_30 rfl w) ?_
  refine g_iadd X d_BK_append_31 ?_
  refine g_1 (fun w => lv_aload_n X.1 X.2.1 d_BK_append_32 rfl (lv_at hl 0 rfl) w) ?_
  refine g_get X (ci := 1) rfl f_2 1 (by decide) ⟨rfl, rfl⟩ tw_193 (Or.inl rfl) rfl d_BK_append_33 ?_
  refine g_1 (fun w => lv_aload_n X.1 X.2.1 d_BK_append_36 rfl (lv_at hl 0 rfl) w) ?_
  refine g_get X (ci := 1) rfl f_2 3 (by decide) ⟨rfl, rfl⟩ tw_195 (Or.inl rfl) rfl d_BK_append_37 ?_
  refine g_lld X f_4 (bP b) (rfl) (by omega) (by omega) d_BK_append_40 ?_
  refine g_1 (fun w => lv_lload_n X.1 X.2.1 d_BK_append_41 rfl (lv_at hl 2 rfl) w) ?_
  refine g_ladd X d_BK_append_42 ?_
  refine g_lst X f_4 (Nat.succ_ne_zero _) (bP b + 1) (by omega) (by omega) (by omega) d_BK_append_43 ?_
  obtain ⟨h_7, eh_7⟩ : ∃ z, z = g_up h_1 p2 ((12, a), gL D 121 (va_up (bG b) (bP b + 1) (bG b (bP b) + g))) := ⟨_, rfl⟩
  refine g_h (h' := h_7) eh_7.symm ?_
  have f_8 : h_7 a = some ((1, 0), .inr (1, [.ref p1, .ref p2, .ref p3, .int (iZ (bP b)), .int (iZ (bS b)), .int (iZ (bT b)), .int (iZ (bL b))])) := by rw [eh_7]; exact g_uk f_2 f_4 (show (1 : Nat) ≠ 12 by decide)
  have f_9 : h_7 p1 = some ((11, a), gI D 121 (va_up (bB b) (bP b + 1) (bB b (bP b) + n))) := by rw [eh_7]; exact g_uk f_3 f_4 (show (11 : Nat) ≠ 12 by decide)
  have f_10 : h_7 p2 = some ((12, a), gL D 121 (va_up (bG b) (bP b + 1) (bG b (bP b) + g))) := by rw [eh_7]; exact g_us
  have f_11 : h_7 p3 = some ((13, a), gI D 121 (fun j => ((bC b j : Nat) : Int))) := by rw [eh_7]; exact g_uk f_5 f_4 (show (13 : Nat) ≠ 12 by decide)
  have hk_12 := kp_up (hk_6) eh_7 f_4 (Or.inr ⟨rfl, Nat.le_of_ble_eq_true rfl, Nat.le_of_ble_eq_true rfl⟩)
  refine g_1 (fun w => lv_aload_n X.1 X.2.1 d_BK_append_44 rfl (lv_at hl 0 rfl) w) ?_
  refine g_1 (fun w => lv_dup X.1 X.2.1 d_BK_append_45 rfl w) ?_
  refine g_get X (ci := 1) rfl f_8 3 (by decide) ⟨rfl, rfl⟩ tw_195 (Or.inl rfl) rfl d_BK_append_46 ?_
  refine g_1 (fun w => lv_iconst (v := iZ 1) X.1 X.2.1 d_BK_append_49 rfl w) ?_
  refine g_iadd X d_BK_append_50 ?_
  refine g_put X (ci := 1) rfl f_8 (Nat.succ_ne_zero _) 3 (by decide) ⟨rfl, rfl⟩ tw_195 (Or.inl rfl) rfl rfl rfl (Nat.le_of_ble_eq_true rfl) d_BK_append_51 ?_
  obtain ⟨h_13, eh_13⟩ : ∃ z, z = g_up h_7 a ((1, 0), .inr (1, [.ref p1, .ref p2, .ref p3, .int (iZ (bP b + 1)), .int (iZ (bS b)), .int (iZ (bT b)), .int (iZ (bL b))])) := ⟨_, rfl⟩
  refine g_h (h' := h_13) eh_13.symm ?_
  have f_14 : h_13 a = some ((1, 0), .inr (1, [.ref p1, .ref p2, .ref p3, .int (iZ (bP b + 1)), .int (iZ (bS b)), .int (iZ (bT b)), .int (iZ (bL b))])) := by rw [eh_13]; exact g_us
  have f_15 : h_13 p1 = some ((11, a), gI D 121 (va_up (bB b) (bP b + 1) (bB b (bP b) + n))) := by rw [eh_13]; exact g_uk f_9 f_8 (show (11 : Nat) ≠ 1 by decide)
  have f_16 : h_13 p2 = some ((12, a), gL D 121 (va_up (bG b) (bP b + 1) (bG b (bP b) + g))) := by rw [eh_13]; exact g_uk f_10 f_8 (show (12 : Nat) ≠ 1 by decide)
  have f_17 : h_13 p3 = some ((13, a), gI D 121 (fun j => ((bC b j : Nat) : Int))) := by rw [eh_13]; exact g_uk f_11 f_8 (show (13 : Nat) ≠ 1 by decide)
  have hk_18 := kp_up (hk_12) eh_13 f_8 (Or.inl rfl)
  refine g_1 (fun w => lv_aload_n X.1 X.2.1 d_BK_append_54 rfl (lv_at hl 0 rfl) w) ?_
  refine g_callV (na := 0) X (c_BK_renewSteps (b := grown b n g) B0 ⟨p1, p2, p3, f_14, f_15, f_16, f_17⟩ ho2 (by show bS b < bP b + 1; omega) hm2) rfl f_14 rfl ⟨⟨tw_319, tw_12⟩, ⟨by decide, by decide, by decide +kernel⟩, by decide, by decide⟩ tw_316 tw_318 ts_BK_renewSteps rfl hl.1 (Nat.le_of_ble_eq_true rfl) ⟨by decide, by decide⟩ d_BK_append_55 (fun v h' hp => ?_)
  obtain ⟨rfl, hb2, hk2⟩ := hp
  have hk3 := kp_tr hk_18 hk2
  refine g_widen (k' := 0) (n' := 0) (by decide) (by decide) ?_
  show G D s0 p l e _ s m _ below meth c h' _ _ _ (F0 m 58 ls [])
  exact g_vret X (⟨rfl, hb2, hk3⟩) (by decide) (by decide) d_BK_append_58

set_option maxHeartbeats 4000000 in
set_option maxRecDepth 100000 in
theorem c_BK_init {D : va_G} {s0 : State} {l : Launch} {h : gH} (B0 : gB D s0) {a : Nat} (fA : h a = some ((1, 0), .inr (1, [.null, .null, .null, .int (iZ 0), .int (iZ 0), .int (iZ 0), .int (iZ 0)]))) : gMet D s0 l y_BK_init b_BK_init 1 none ({ frames := 1, cells := 3, slots := 363, locals := 13 } : Room) [.ref a] h (fun v h' => none = v ∧ isBk D h' a (fun _ => 0, fun _ => 0, fun _ => 0, 0, 0, 0, 0) ∧ kp (fun q t => q = a) h h') := by
  refine g_enter B0 (plainFor_of_name (by decide)) (Nat.le_of_ble_eq_true rfl) (fun p e s m below meth c ls X hnm hl => ?_)
  have hl : lv_has ls 1 [(0, .ref a)] := hl
  refine g_1 (fun w => lv_aload_n X.1 X.2.1 d_BK_init_0 rfl (lv_at hl 0 rfl) w) ?_
  refine g_obj X tw_191 hl.1 d_BK_init_1 (by decide) (by decide) ?_
  refine g_1 (fun w => lv_aload_n X.1 X.2.1 d_BK_init_4 rfl (lv_at hl 0 rfl) w) ?_
  refine g_1 (fun w => lv_bipush (v := iZ 121) X.1 X.2.1 d_BK_init_5 (by decide) w) ?_
  refine g_newi X (121) (rfl) (by omega) (fun z => (11, a)) (by decide) (by decide) d_BK_init_7 (fun na_1 hfna_1 => ?_)
  obtain ⟨h_2, eh_2⟩ : ∃ z, z = g_up h na_1 ((11, a), gI D 121 (fun _ => 0)) := ⟨_, rfl⟩
  refine g_h (h' := h_2) eh_2.symm ?_
  have f_3 : h_2 a = some ((1, 0), .inr (1, [.null, .null, .null, .int (iZ (0)), .int (iZ (0)), .int (iZ (0)), .int (iZ (0))])) := by rw [eh_2]; exact g_uf fA hfna_1
  have f_4 : h_2 na_1 = some ((11, a), gI D 121 (fun _ => 0)) := by rw [eh_2]; exact g_us
  have hk_5 := kp_new (kp_rf (P := (fun q t => q = a)) (h := h)) eh_2 hfna_1
  refine g_putF X hnm (ci := 1) rfl f_3 (Nat.succ_ne_zero _) 0 (by decide) ⟨rfl, rfl⟩ rfl tw_192 rfl rfl rfl (Nat.le_of_ble_eq_true rfl) d_BK_init_9 ?_
  obtain ⟨h_6, eh_6⟩ : ∃ z, z = g_up h_2 a ((1, 0), .inr (1, [.ref na_1, .null, .null, .int (iZ (0)), .int (iZ (0)), .int (iZ (0)), .int (iZ (0))])) := ⟨_, rfl⟩
  refine g_h (h' := h_6) eh_6.symm ?_
  have f_7 : h_6 a = some ((1, 0), .inr (1, [.ref na_1, .null, .null, .int (iZ (0)), .int (iZ (0)), .int (iZ (0)), .int (iZ (0))])) := by rw [eh_6]; exact g_us
  have f_8 : h_6 na_1 = some ((11, a), gI D 121 (fun _ => 0)) := by rw [eh_6]; exact g_uk f_4 f_3 (show (11 : Nat) ≠ 1 by decide)
  have hk_9 := kp_up (hk_5) eh_6 f_3 (rfl)
  refine g_1 (fun w => lv_aload_n X.1 X.2.1 d_BK_init_12 rfl (lv_at hl 0 rfl) w) ?_
  refine g_1 (fun w => lv_bipush (v := iZ 121) X.1 X.2.1 d_BK_init_13 (by decide) w) ?_
  refine g_newl X (121) (rfl) (by omega) (fun z => (12, a)) (by decide) (by decide) d_BK_init_15 (fun na_10 hfna_10 => ?_)
  obtain ⟨h_11, eh_11⟩ : ∃ z, z = g_up h_6 na_10 ((12, a), gL D 121 (fun _ => 0)) := ⟨_, rfl⟩
  refine g_h (h' := h_11) eh_11.symm ?_
  have f_12 : h_11 a = some ((1, 0), .inr (1, [.ref na_1, .null, .null, .int (iZ (0)), .int (iZ (0)), .int (iZ (0)), .int (iZ (0))])) := by rw [eh_11]; exact g_uf f_7 hfna_10
  have f_13 : h_11 na_1 = some ((11, a), gI D 121 (fun _ => 0)) := by rw [eh_11]; exact g_uf f_8 hfna_10
  have f_14 : h_11 na_10 = some ((12, a), gL D 121 (fun _ => 0)) := by rw [eh_11]; exact g_us
  have hk_15 := kp_new (hk_9) eh_11 hfna_10
  refine g_putF X hnm (ci := 1) rfl f_12 (Nat.succ_ne_zero _) 1 (by decide) ⟨rfl, rfl⟩ rfl tw_193 rfl rfl rfl (Nat.le_of_ble_eq_true rfl) d_BK_init_17 ?_
  obtain ⟨h_16, eh_16⟩ : ∃ z, z = g_up h_11 a ((1, 0), .inr (1, [.ref na_1, .ref na_10, .null, .int (iZ (0)), .int (iZ (0)), .int (iZ (0)), .int (iZ (0))])) := ⟨_, rfl⟩
  refine g_h (h' := h_16) eh_16.symm ?_
  have f_17 : h_16 a = some ((1, 0), .inr (1, [.ref na_1, .ref na_10, .null, .int (iZ (0)), .int (iZ (0)), .int (iZ (0)), .int (iZ (0))])) := by rw [eh_16]; exact g_us
  have f_18 : h_16 na_1 = some ((11, a), gI D 121 (fun _ => 0)) := by rw [eh_16]; exact g_uk f_13 f_12 (show (11 : Nat) ≠ 1 by decide)
  have f_19 : h_16 na_10 = some ((12, a), gL D 121 (fun _ => 0)) := by rw [eh_16]; exact g_uk f_14 f_12 (show (12 : Nat) ≠ 1 by decide)
  have hk_20 := kp_up (hk_15) eh_16 f_12 (rfl)
  refine g_1 (fun w => lv_aload_n X.1 X.2.1 d_BK_init_20 rfl (lv_at hl 0 rfl) w) ?_
  refine g_1 (fun w => lv_bipush (v := iZ 121) X.1 X.2.1 d_BK_init_21 (by decide) w) ?_
  refine g_newi X (121) (rfl) (by omega) (fun z => (13, a)) (by decide) (by decide) d_BK_init_23 (fun na_21 hfna_21 => ?_)
  obtain ⟨h_22, eh_22⟩ : ∃ z, z = g_up h_16 na_21 ((13, a), gI D 121 (fun _ => 0)) := ⟨_, rfl⟩
  refine g_h (h' := h_22) eh_22.symm ?_
  have f_23 : h_22 a = some ((1, 0), .inr (1, [.ref na_1, .ref na_10, .null, .int (iZ (0)), .int (iZ (0)), .int (iZ (0)), .int (iZ (0))])) := by rw [eh_22]; exact g_uf f_17 hfna_21
  have f_24 : h_22 na_1 = some ((11, a), gI D 121 (fun _ => 0)) := by rw [eh_22]; exact g_uf f_18 hfna_21
  have f_25 : h_22 na_10 = some ((12, a), gL D 121 (fun _ => 0)) := by rw [eh_22]; exact g_uf f_19 hfna_21
  have f_26 : h_22 na_21 = some ((13, a), gI D 121 (fun _ => 0)) := by rw [eh_22]; exact g_us
  have hk_27 := kp_new (hk_20) eh_22 hfna_21
  refine g_putF X hnm (ci := 1) rfl f_23 (Nat.succ_ne_zero _) 2 (by decide) ⟨rfl, rfl⟩ rfl tw_194 rfl rfl rfl (Nat.le_of_ble_eq_true rfl) d_BK_init_25 ?_
  obtain ⟨h_28, eh_28⟩ : ∃ z, z = g_up h_22 a ((1, 0), .inr (1, [.ref na_1, .ref na_10, .ref na_21, .int (iZ (0)), .int (iZ (0)), .int (iZ (0)), .int (iZ (0))])) := ⟨_, rfl⟩
  refine g_h (h' := h_28) eh_28.symm ?_
  have f_29 : h_28 a = some ((1, 0), .inr (1, [.ref na_1, .ref na_10, .ref na_21, .int (iZ (0)), .int (iZ (0)), .int (iZ (0)), .int (iZ (0))])) := by rw [eh_28]; exact g_us
  have f_30 : h_28 na_1 = some ((11, a), gI D 121 (fun _ => 0)) := by rw [eh_28]; exact g_uk f_24 f_23 (show (11 : Nat) ≠ 1 by decide)
  have f_31 : h_28 na_10 = some ((12, a), gL D 121 (fun _ => 0)) := by rw [eh_28]; exact g_uk f_25 f_23 (show (12 : Nat) ≠ 1 by decide)
  have f_32 : h_28 na_21 = some ((13, a), gI D 121 (fun _ => 0)) := by rw [eh_28]; exact g_uk f_26 f_23 (show (13 : Nat) ≠ 1 by decide)
  have hk_33 := kp_up (hk_27) eh_28 f_23 (rfl)
  exact g_vret X (⟨rfl, ⟨na_1, na_10, na_21, f_29, f_30, f_31, f_32⟩, hk_33⟩) (by decide) (by decide) d_BK_init_28

set_option maxHeartbeats 4000000 in
set_option maxRecDepth 100000 in
theorem c_LY_init {D : va_G} {s0 : State} {l : Launch} {h : gH} (B0 : gB D s0) {a n : Nat} (hn : n ≤ 1024) (fA : h a = some ((2, 0), .inr (2, [.null, .int (iZ 0), .long (lZ 0), .int (iZ 0)]))) : gMet D s0 l y_LY_init b_LY_init 2 none ({ frames := 1, cells := 1, slots := 1024, locals := 13 } : Room) [.ref a, .int (iZ (n))] h (fun v h' => none = v ∧ isLy D h' a (n, fun _ => 0, 0, -1, -1) ∧ kp (fun q t => q = a) h h') := by
  refine g_enter B0 (plainFor_of_name (by decide)) (Nat.le_of_ble_eq_true rfl) (fun p e s m below meth c ls X hnm hl => ?_)
  have hl : lv_has ls 2 [(0, .ref a), (1, .int (iZ (n)))] := hl
  refine g_1 (fun w => lv_aload_n X.1 X.2.1 d_LY_init_0 rfl (lv_at hl 0 rfl) w) ?_
  refine g_obj X tw_394 hl.1 d_LY_init_1 (by decide) (by decide) ?_
  refine g_1 (fun w => lv_aload_n X.1 X.2.1 d_LY_init_4 rfl (lv_at hl 0 rfl) w) ?_
  refine g_1 (fun w => lv_iload_n X.1 X.2.1 d_LY_init_5 rfl (lv_at hl 1 rfl) w) ?_
  refine g_newi X (n) (rfl) (by omega) (fun z => (15, a)) (by decide) (by show 0 + n ≤ 1024; omega) d_LY_init_6 (fun na_1 hfna_1 => ?_)
  obtain ⟨h_2, eh_2⟩ : ∃ z, z = g_up h na_1 ((15, a), gI D n (fun _ => 0)) := ⟨_, rfl⟩
  refine g_h (h' := h_2) eh_2.symm ?_
  have f_3 : h_2 a = some ((2, 0), .inr (2, [.null, .int (iZ (0)), .long (lZ (0)), .int (iZ (0))])) := by rw [eh_2]; exact g_uf fA hfna_1
  have f_4 : h_2 na_1 = some ((15, a), gI D n (fun _ => 0)) := by rw [eh_2]; exact g_us
  have hk_5 := kp_new (kp_rf (P := (fun q t => q = a)) (h := h)) eh_2 hfna_1
  refine g_putF X hnm (ci := 2) rfl f_3 (Nat.succ_ne_zero _) 0 (by decide) ⟨rfl, rfl⟩ rfl tw_396 rfl rfl rfl (Nat.le_of_ble_eq_true rfl) d_LY_init_8 ?_
  obtain ⟨h_6, eh_6⟩ : ∃ z, z = g_up h_2 a ((2, 0), .inr (2, [.ref na_1, .int (iZ (0)), .long (lZ (0)), .int (iZ (0))])) := ⟨_, rfl⟩
  refine g_h (h' := h_6) eh_6.symm ?_
  have f_7 : h_6 a = some ((2, 0), .inr (2, [.ref na_1, .int (iZ (0)), .long (lZ (0)), .int (iZ (0))])) := by rw [eh_6]; exact g_us
  have f_8 : h_6 na_1 = some ((15, a), gI D n (fun _ => 0)) := by rw [eh_6]; exact g_uk f_4 f_3 (show (15 : Nat) ≠ 2 by decide)
  have hk_9 := kp_up (hk_5) eh_6 f_3 (rfl)
  refine g_1 (fun w => lv_aload_n X.1 X.2.1 d_LY_init_11 rfl (lv_at hl 0 rfl) w) ?_
  refine g_1 (fun w => lv_ldc2 X.1 X.2.1 X.2.2.2.2.2.1 (X.w tw_395 rfl) d_LY_init_12 w) ?_
  refine g_tl (show _ = lZ (-1) by decide) ?_
  refine g_put X (ci := 2) rfl f_7 (Nat.succ_ne_zero _) 2 (by decide) ⟨rfl, rfl⟩ tw_399 (Or.inl rfl) rfl rfl rfl (Nat.le_of_ble_eq_true rfl) d_LY_init_15 ?_
  obtain ⟨h_10, eh_10⟩ : ∃ z, z = g_up h_6 a ((2, 0), .inr (2, [.ref na_1, .int (iZ (0)), .long (lZ ((-1))), .int (iZ (0))])) := ⟨_, rfl⟩
  refine g_h (h' := h_10) eh_10.symm ?_
  have f_11 : h_10 a = some ((2, 0), .inr (2, [.ref na_1, .int (iZ (0)), .long (lZ ((-1))), .int (iZ (0))])) := by rw [eh_10]; exact g_us
  have f_12 : h_10 na_1 = some ((15, a), gI D n (fun _ => 0)) := by rw [eh_10]; exact g_uk f_8 f_7 (show (15 : Nat) ≠ 2 by decide)
  have hk_13 := kp_up (hk_9) eh_10 f_7 (rfl)
  refine g_1 (fun w => lv_aload_n X.1 X.2.1 d_LY_init_18 rfl (lv_at hl 0 rfl) w) ?_
  refine g_1 (fun w => lv_iconst (v := iZ (-1)) X.1 X.2.1 d_LY_init_19 rfl w) ?_
  refine g_put X (ci := 2) rfl f_11 (Nat.succ_ne_zero _) 3 (by decide) ⟨rfl, rfl⟩ tw_401 (Or.inl rfl) rfl rfl rfl (Nat.le_of_ble_eq_true rfl) d_LY_init_20 ?_
  obtain ⟨h_14, eh_14⟩ : ∃ z, z = g_up h_10 a ((2, 0), .inr (2, [.ref na_1, .int (iZ (0)), .long (lZ ((-1))), .int (iZ ((-1)))])) := ⟨_, rfl⟩
  refine g_h (h' := h_14) eh_14.symm ?_
  have f_15 : h_14 a = some ((2, 0), .inr (2, [.ref na_1, .int (iZ (0)), .long (lZ ((-1))), .int (iZ ((-1)))])) := by rw [eh_14]; exact g_us
  have f_16 : h_14 na_1 = some ((15, a), gI D n (fun _ => 0)) := by rw [eh_14]; exact g_uk f_12 f_11 (show (15 : Nat) ≠ 2 by decide)
  have hk_17 := kp_up (hk_13) eh_14 f_11 (rfl)
  exact g_vret X (⟨rfl, ⟨na_1, f_15, f_16⟩, hk_17⟩) (by decide) (by show 0 + n ≤ 1024; omega) d_LY_init_23
end
section
/-! rows for the JDK's lists: the static empty array, class objects, casts, copying -/
section GA
variable {D : va_G} {s0 : State} {p : Program} {l : Launch} {e : Env} {R : Room} {s : State} {m : MethodId} {args : Array Value} {below : List Frame} {meth : Method} {c : Code} {h : gH} {k n : Nat} {Q : State → Prop}
variable {own : String} {cc : ByteArray} {nL : Nat} {ret : Option FieldType} {pc : Nat} {ls : Array Slot} {rest : List Value} {a : Nat}
theorem g_gets (X : gX D s0 own cc nL ret p s m meth c) {index : Nat} (hlink : Cond.fieldLink own index "java/util/ArrayList" "DEFAULTCAPACITY_EMPTY_ELEMENTDATA" "[Ljava/lang/Object;" ∈ lw_tbl) (hdg : decode cc pc = .ok (.getstatic index, 3))
    (kk : G D s0 p l e R s m args below meth c h k n Q (F0 m (pc + 3) ls (.ref (D.1 200) :: rest))) : G D s0 p l e R s m args below meth c h k n Q (F0 m pc ls rest) := by
  intro H locs cells slots hM hl h1 h2
  obtain ⟨cf, kf, fi, f, a, cell, z1, z2, z3, z4, z5, z6, z7, z8⟩ := va_Z.moved X.2.2.2.2.2.2.1.alike X.2.2.2.2.2.2.2.2.2.1
  exact W.gets X.1 X.2.1 X.2.2.2.2.2.1 (X.w hlink rfl) z1 z2 z3 z4 (by rw [hM.2.1 a (Nat.not_le.mp z8)]; exact z5) (fun e => by rw [e] at z6; cases z6) z7 rfl hdg (kk H locs cells slots hM hl h1 h2)
theorem g_alens (X : gX D s0 own cc nL ret p s m meth c) (hdg : decode cc pc = .ok (.arraylength, 1))
    (kk : G D s0 p l e R s m args below meth c h k n Q (F0 m (pc + 1) ls (.int (iZ 0) :: rest))) : G D s0 p l e R s m args below meth c h k n Q (F0 m pc ls (.ref (D.1 200) :: rest)) := by
  intro H locs cells slots hM hl h1 h2
  obtain ⟨cell, z1, z2, z3, z4, z5, z6, z7⟩ := va_T.moved X.2.2.2.2.2.2.1.alike X.2.2.2.2.2.2.2.2.2.2.1
  exact W.alen (n := iZ 0) X.1 X.2.1 (by rw [hM.2.1 _ (Nat.not_le.mp z7)]; exact z1) z2 (z5.trans (iZ_nat 0)) rfl rfl hdg (kk H locs cells slots hM hl h1 h2)
theorem g_acmpT (X : gX D s0 own cc nL ret p s m meth c) {off : Int} {tgt : Nat} (hdg : decode cc pc = .ok (.if_acmp .eq off, 3)) (ht : (pc : Int) + off = (tgt : Int)) (kk : G D s0 p l e R s m args below meth c h k n Q (F0 m tgt ls rest)) : G D s0 p l e R s m args below meth c h k n Q (F0 m pc ls (.ref a :: .ref a :: rest)) :=
  g_2 (fun k1 k2 => lv_acmp_eq (rx := some a) (ry := some a) X.1 X.2.1 hdg ht k1 k2) (fun _ => kk) (fun z => absurd rfl z)
theorem g_acmpF (X : gX D s0 own cc nL ret p s m meth c) {off : Int} {tgt : Nat} (hdg : decode cc pc = .ok (.if_acmp .ne off, 3)) (ht : (pc : Int) + off = (tgt : Int)) (kk : G D s0 p l e R s m args below meth c h k n Q (F0 m (pc + 3) ls rest)) : G D s0 p l e R s m args below meth c h k n Q (F0 m pc ls (.ref a :: .ref a :: rest)) :=
  g_2 (fun k1 k2 => lv_acmp_ne (rx := some a) (ry := some a) X.1 X.2.1 hdg ht k1 k2) (fun z => absurd rfl z) (fun _ => kk)
theorem g_ldcM (X : gX D s0 own cc nL ret p s m meth c) {index : Nat} (hlink : Cond.classLink own index "[Ljava/lang/Object;" ∈ lw_tbl) (hdg : decode cc pc = .ok (.ldc index, 2))
    (kk : G D s0 p l e R s m args below meth c h k n Q (F0 m (pc + 2) ls (.ref (D.1 201) :: rest))) : G D s0 p l e R s m args below meth c h k n Q (F0 m pc ls rest) :=
  g_1 (fun w => va_ldcM X.1 X.2.1 X.2.2.2.2.2.1 (X.w hlink rfl) (va_Mi.moved X.2.2.2.2.2.2.1.alike X.2.2.2.2.2.2.2.2.2.2.2.1) hdg w) kk
theorem g_nmO (X : gX D s0 own cc nL ret p s m meth c) : s.vm.findClass "[Ljava/lang/Object;" = some (D.1 102) := va_nmO (X.K.2 2 _ rfl).2 (by decide)
theorem g_getC (X : gX D s0 own cc nL ret p s m meth c) {t : Nat × Nat} {N : Nat} {f : Nat → Option Nat} (ha : h a = some (t, gO D N f)) {index : Nat} (hlink : Cond.methodLink own index ⟨"java/lang/Object", "getClass", "()Ljava/lang/Class;"⟩ ∈ lw_tbl) (hsz : ls.size = nL) (hfr : 1 ≤ R.frames) (hlo : (rest.map fun v => v.category).sum + 14 ≤ R.locals) (hdg : decode cc pc = .ok (.invokevirtual index, 3))
    (kk : G D s0 p l e R s m args below meth c h k n Q (F0 m (pc + 3) ls (.ref (D.1 201) :: rest))) : G D s0 p l e R s m args below meth c h k n Q (F0 m pc ls (.ref a :: rest)) :=
  fun H locs cells slots hM hl h1 h2 => va_getC (C := "[Ljava/lang/Object;") X.1 X.2.1 (by rw [X.2.2.1, hsz]) X.2.2.2.2.2.1 (X.w hlink rfl) (X.w tw_656 rfl) (X.w tw_655 rfl) (X.w tw_249 rfl) (X.w tw_259 rfl) (va_Mi.moved X.2.2.2.2.2.2.1.alike X.2.2.2.2.2.2.2.2.2.2.2.1) ⟨_, (hM.1 a _ ha).1, rfl, g_nmO X⟩ hfr hlo hdg (kk H locs cells slots hM hl h1 h2)
theorem g_cast (X : gX D s0 own cc nL ret p s m meth c) {t : Nat × Nat} {ci index : Nat} {fs : List Value} {q : vw_C} {nm : String} (ha : h a = some (t, .inr (ci, fs))) (hc : vwCl[ci]? = some q) (hlink : Cond.classLink own index nm ∈ lw_tbl) (hcast : Cond.castable q.1 nm ∈ lw_tbl) (hdg : decode cc pc = .ok (.checkcast index, 3))
    (kk : G D s0 p l e R s m args below meth c h k n Q (F0 m (pc + 3) ls (.ref a :: rest))) : G D s0 p l e R s m args below meth c h k n Q (F0 m pc ls (.ref a :: rest)) :=
  fun H locs cells slots hM hl h1 h2 => va_castY X.1 X.2.1 X.2.2.2.2.2.1 (X.w hlink rfl) (va_Nw.of rfl (X.w (args := args) hcast rfl)) (va_recv X.K (g_P hM ha) hc (q0 := 0) rfl) hdg (kk H locs cells slots hM hl h1 h2)
end GA
/-- an object that may lie in a list -/
def g_ob (h : gH) (b : Nat) : Prop := ∃ (t : Nat × Nat) (ci : Nat) (fs : List Value), h b = some (t, .inr (ci, fs)) ∧ (ci = 1 ∨ ci = 2)
theorem g_obAny {D : va_G} {s0 : State} {own : String} {cc : ByteArray} {nL : Nat} {ret : Option FieldType} {p : Program} {s : State} {m : MethodId} {meth : Method} {c : Code} (X : gX D s0 own cc nL ret p s m meth c) {h : gH} {H : Heap} (hM : g_M D s0 h H) {b : Nat} (hb : g_ob h b) : va_Any "java/lang/Object" s H b := by
  obtain ⟨t, ci, fs, hb, hci⟩ := hb
  have key : ∀ q : vw_C, vwCl[ci]? = some q → Cond.castable q.1 "java/lang/Object" ∈ lw_tbl → va_Any "java/lang/Object" s H b := by
    intro q hc hw
    refine va_rAny (q0 := 0) X.K (g_P hM hb) rfl hc (fun comp c0 e1 e2 => ?_)
    obtain ⟨c1, t1, f1, f2, f3⟩ := Cond.castable_spec (X.w (args := #[]) hw rfl)
    cases e2.symm.trans f1
    cases e1.symm.trans f2
    exact f3
  rcases hci with rfl | rfl
  · exact key _ rfl tw_659
  · exact key _ rfl tw_660
section GB
variable {D : va_G} {s0 : State} {p : Program} {l : Launch} {e : Env} {R : Room} {s : State} {m : MethodId} {args : Array Value} {below : List Frame} {meth : Method} {c : Code} {h : gH} {k n : Nat} {Q : State → Prop}
variable {own : String} {cc : ByteArray} {nL : Nat} {ret : Option FieldType} {pc : Nat} {ls : Array Slot} {rest : List Value} {a : Nat}
/-- System.arraycopy from the head of one array of references to the head of another -/
theorem g_copy (X : gX D s0 own cc nL ret p s m meth c) {t0 t1 : Nat × Nat} {a0 n0 n1 N : Nat} {f g : Nat → Option Nat} (ha0 : h a0 = some (t0, gO D n0 f)) (ha1 : h a = some (t1, gO D n1 g)) (ht : t1.1 ≠ 0) {index : Nat} (hlink : Cond.methodLink own index arraycopyName ∈ lw_tbl) {i : Int} (hi : i = (N : Int)) (h4 : N ≤ n0) (h5 : N ≤ n1) (hN : N < 2147483648) (hel : ∀ j, j < N → ∀ y, f j = some y → g_ob h y)
    (hsz : ls.size = nL) (hfr : 1 ≤ R.frames) (hlo : (rest.map fun v => v.category).sum + (nativeFrameWords "java/lang/System" "arraycopy" 5 + 11) ≤ R.locals) (hdg : decode cc pc = .ok (.invokestatic index, 3))
    (kk : G D s0 p l e R s m args below meth c (g_up h a (t1, gO D n1 (fun j => if j < N then f j else g j))) k n Q (F0 m (pc + 3) ls rest)) : G D s0 p l e R s m args below meth c h k n Q (F0 m pc ls (.int (iZ i) :: .int (iZ 0) :: .ref a :: .int (iZ 0) :: .ref a0 :: rest)) := by
  intro H locs cells slots hM hl h1 h2 T hT Y
  have hc0 : H[a0]? = some (vp_cell (D.1 102) (n0, .inr (.inr (.inr (.inr f))))) := (hM.1 a0 _ ha0).1
  have hc1 : H[a]? = some (vp_cell (D.1 102) (n1, .inr (.inr (.inr (.inr g))))) := (hM.1 a _ ha1).1
  obtain ⟨-, k0, hk0, cm0, hkk0⟩ := (X.K.2 2 _ rfl).1 n0 (fun j => va_rf (f j))
  have z0 : (iZ 0).toNatClampNeg = 0 := iZ_n (j := 0) rfl (by omega)
  have zi : (iZ i).toNatClampNeg = N := iZ_n hi hN
  have i0 : (iZ 0).toInt = 0 := iZ_I ⟨by omega, by omega⟩
  have ii : (iZ i).toInt = N := by rw [iZ_I ⟨by omega, by omega⟩, hi]
  obtain ⟨vm', X', step⟩ := Y.arraycopy X.1 X.2.2.2.2.2.1 (X.w hlink rfl) (X.w tw_271 rfl) (X.w tw_270 rfl) (X.w tw_16 rfl) (src := a0) (dst := a) (cs := vp_cell (D.1 102) (n0, .inr (.inr (.inr (.inr f))))) (cd := vp_cell (D.1 102) (n1, .inr (.inr (.inr (.inr g))))) (srcPos := iZ 0) (destPos := iZ 0) (n := iZ i) (by rw [hT]; exact hc0) (by rw [hT]; exact hc1)
    (fun _ h => by cases h) (fun _ h => by cases h) (fun h => by cases h) (fun h => by cases h) hk0 hk0 hkk0 hkk0 rfl (iZ_nn (by omega) (by omega)) (iZ_nn (by omega) (by omega)) (iZ_nn (by omega) (by omega))
    (by rw [i0, ii]; show ¬ _ > ((arrV (D.1 102) n0 (fun j => va_rf (f j))).slots.size : Int); rw [arrV_size]; omega)
    (by rw [i0, ii]; show ¬ _ > ((arrV (D.1 102) n1 (fun j => va_rf (g j))).slots.size : Int); rw [arrV_size]; omega)
    (fun vm₁ hal j hj => by
      rw [zi] at hj
      have e1 : (vp_cell (D.1 102) (n0, .inr (.inr (.inr (.inr f))))).slots.getD ((iZ 0).toNatClampNeg + j) .null = va_rf (f j) := by
        rw [z0, Nat.zero_add]
        show (arrV (D.1 102) n0 (fun j => va_rf (f j))).slots.getD _ _ = _
        rw [Array.getD_eq_getD_getElem?, arrV_read _ _ (by omega)]
        rfl
      rw [e1]
      cases hy : f j with
      | none => exact ⟨rfl, trivial⟩
      | some y =>
        obtain ⟨cellV, g1, g2, ⟨kC, hkC⟩, hasg⟩ := g_obAny X hM (hel j hj y hy)
        obtain ⟨kA, comp, r1, r2, r3, -⟩ := (X.K.2 2 _ rfl).2
        cases hk0.symm.trans r1
        cases hkk0.symm.trans r2
        obtain ⟨kE, hkE, -⟩ := Vm.findClass_spec r3
        obtain ⟨kC', hkC', -⟩ := hal.2.2 _ _ hkC
        obtain ⟨kE', hkE', -⟩ := hal.2.2 _ _ hkE
        refine ⟨rfl, cellV, (show T.heap[y]? = some cellV by rw [hT]; exact g1), (fun q h => by rw [h] at g2; cases g2), ⟨kC', hkC'⟩, ?_, ?_⟩
        · exact ⟨kE', hkE'⟩
        · show vm₁.assignable _ _ = true
          rw [hal.assignable]
          exact hasg _ r3)
    (g := F0 m pc ls (.int (iZ i) :: .int (iZ 0) :: .ref a :: .int (iZ 0) :: .ref a0 :: rest)) rfl (by rw [X.2.2.1]; exact hsz) (rest := rest) rfl (by rw [X.2.1]; exact hdg) hfr (by show 2 * 0 + _ + _ ≤ _; omega)
  have e1 : copied (vp_cell (D.1 102) (n0, .inr (.inr (.inr (.inr f))))) (vp_cell (D.1 102) (n1, .inr (.inr (.inr (.inr g))))) (iZ 0) (iZ 0) (iZ i) = vp_cell (D.1 102) (n1, .inr (.inr (.inr (.inr (fun j => if j < N then f j else g j))))) := by
    have hcp : (fun j => if j < N then f j else g j) = va_cpy f g 0 0 N := by
      funext j
      simp [va_cpy]
    rw [hcp, vp_cell_q, vp_cell_q, vp_cell_q]
    show (arrV (D.1 102) n1 (fun j => va_rf (g j))).storeRun (iZ 0).toNatClampNeg ((arrV (D.1 102) n0 (fun j => va_rf (f j))).stretch (iZ 0).toNatClampNeg (iZ i).toNatClampNeg) = _
    rw [z0, zi]
    exact va_copied (fun z => va_rf z) (D.1 102) (D.1 102) f g (by omega)
  rw [e1] at X' step
  have hlt : a < H.size := (Array.getElem?_eq_some_iff.mp hc1).1
  have hheap : ((T.setVm vm').setCell a (vp_cell (D.1 102) (n1, .inr (.inr (.inr (.inr (fun j => if j < N then f j else g j))))))).heap = H.setIfInBounds a (vp_cell (D.1 102) (n1, .inr (.inr (.inr (.inr (fun j => if j < N then f j else g j)))))) := by rw [← hT]; rfl
  have oq : ∀ q : Nat, q ≠ a → (H.setIfInBounds a (vp_cell (D.1 102) (n1, .inr (.inr (.inr (.inr (fun j => if j < N then f j else g j)))))))[q]? = H[q]? := fun q hq => by simp [Array.getElem?_setIfInBounds, Ne.symm hq]
  obtain ⟨t, b1, b2⟩ := kk _ _ cells slots (hM.set ha1 ht (y := (t1, gO D n1 (fun j => if j < N then f j else g j))) (show (H.setIfInBounds a _)[a]? = some _ by simp [Array.getElem?_setIfInBounds, hlt]) (by simp) oq) (fun q hq => by
      rcases List.mem_append.mp hq with h | h
      · exact hl q h
      · obtain ⟨z, -, hz⟩ := List.mem_map.mp h
        rw [← hz]
        exact (hM.1 a _ ha1).2 ht) h1 h2 _ hheap X'
  exact ⟨t, step t b1, b2⟩
end GB
end
section
theorem g_shr1 {D : va_G} {s0 : State} {p : Program} {l : Launch} {e : Env} {R : Room} {s : State} {m : MethodId} {args : Array Value} {below : List Frame} {meth : Method} {c : Code} {h : gH} {k n : Nat} {Q : State → Prop} {own : String} {cc : ByteArray} {nL : Nat} {ret : Option FieldType} {pc : Nat} {ls : Array Slot} {rest : List Value} (X : gX D s0 own cc nL ret p s m meth c) {i : Int} (j : Nat) (hi : i = (j : Int)) (hj : j < 2147483648) (hdg : decode cc pc = .ok (.ishr, 1))
    (kk : G D s0 p l e R s m args below meth c h k n Q (F0 m (pc + 1) ls (.int (iZ ((j / 2 : Nat) : Int)) :: rest))) : G D s0 p l e R s m args below meth c h k n Q (F0 m pc ls (.int (iZ 1) :: .int (iZ i) :: rest)) := by
  refine g_1 (fun w => lv_ishr X.1 X.2.1 hdg w) (g_ti ?_ kk)
  rw [hi, ← iZ_nat j, ← iZ_nat (j / 2)]
  exact pk_shrN (n := j) hj (iZ 1 &&& 31) 1 (by decide)
/-- A LIST of the JDK's: w says which; L: the objects' addresses -/
def isAL (D : va_G) (h : gH) (a w : Nat) (L : List Nat) : Prop := ∃ (e : Nat) (mc : Int), h a = some ((5, w), .inr (3, [.ref e, .int (iZ L.length), .int (iZ mc)])) ∧ ((e = D.1 200 ∧ L = []) ∨ ∃ (cap : Nat) (f : Nat → Option Nat), h e = some ((14, a), gO D cap f) ∧ 1 ≤ cap ∧ cap ≤ 1600 ∧ L.length ≤ cap ∧ ∀ j, j < L.length → f j = some (L.getD j 0))
/-- what a list's own methods may change -/
def P_AL (a : Nat) : Nat → Nat × Nat → Prop := fun q t => q = a ∨ t = (14, a)
theorem g_ob_new {h h1 : gH} {b a : Nat} {x : gE} (hb : g_ob h b) (e : h1 = g_up h a x) (ha : h a = none) : g_ob h1 b := by
  obtain ⟨t, ci, fs, q, z⟩ := hb
  exact ⟨t, ci, fs, by rw [e, g_un (g_nz q ha)]; exact q, z⟩
end
section
set_option maxHeartbeats 4000000 in
set_option maxRecDepth 100000 in
theorem c_PC_checkIndex {D : va_G} {s0 : State} {l : Launch} {h : gH} (B0 : gB D s0) {i n : Int} (hi : 0 ≤ i) (hn : i < n) (hn2 : n < 2147483648) : gMet D s0 l y_PC_checkIndex b_PC_checkIndex 3 (some .int) ({ frames := 0, cells := 0, slots := 0, locals := 0 } : Room) [.int (iZ (i)), .int (iZ (n)), .null] h (fun v h' => some (.int (iZ i)) = v ∧ h = h') := by
  refine g_enter B0 (plainFor_of_name (by decide)) (Nat.le_of_ble_eq_true rfl) (fun p e s m below meth c ls X hnm hl => ?_)
  have hl : lv_has ls 3 [(0, .int (iZ (i))), (1, .int (iZ (n))), (2, .null)] := hl
  refine g_1 (fun w => lv_iload_n X.1 X.2.1 d_PC_checkIndex_0 rfl (lv_at hl 0 rfl) w) ?_
  refine g_if_lt (tgt := 9) X (⟨by omega, by omega⟩) d_PC_checkIndex_1 (by decide) (fun c1 => ?_) (fun c1 => ?_)
  · exfalso
    omega
  · refine g_1 (fun w => lv_iload_n X.1 X.2.1 d_PC_checkIndex_4 rfl (lv_at hl 0 rfl) w) ?_
    refine g_1 (fun w => lv_iload_n X.1 X.2.1 d_PC_checkIndex_5 rfl (lv_at hl 1 rfl) w) ?_
    refine g_icmp_lt (tgt := 16) X (⟨by omega, by omega⟩) (⟨by omega, by omega⟩) d_PC_checkIndex_6 (by decide) (fun c6 => ?_) (fun c6 => ?_)
    · refine g_1 (fun w => lv_iload_n X.1 X.2.1 d_PC_checkIndex_16 rfl (lv_at hl 0 rfl) w) ?_
      exact g_iret X (⟨rfl, rfl⟩) (by decide) (by decide) d_PC_checkIndex_17
    · exfalso
      omega

set_option maxHeartbeats 4000000 in
set_option maxRecDepth 100000 in
theorem c_OJ_checkIndex {D : va_G} {s0 : State} {l : Launch} {h : gH} (B0 : gB D s0) {i n : Int} (hi : 0 ≤ i) (hn : i < n) (hn2 : n < 2147483648) : gMet D s0 l y_OJ_checkIndex b_OJ_checkIndex 2 (some .int) ({ frames := 1, cells := 0, slots := 0, locals := 22 } : Room) [.int (iZ (i)), .int (iZ (n))] h (fun v h' => some (.int (iZ i)) = v ∧ h = h') := by
  refine g_enter B0 (plainFor_of_name (by decide)) (Nat.le_of_ble_eq_true rfl) (fun p e s m below meth c ls X hnm hl => ?_)
  have hl : lv_has ls 2 [(0, .int (iZ (i))), (1, .int (iZ (n)))] := hl
  refine g_1 (fun w => lv_iload_n X.1 X.2.1 d_OJ_checkIndex_0 rfl (lv_at hl 0 rfl) w) ?_
  refine g_1 (fun w => lv_iload_n X.1 X.2.1 d_OJ_checkIndex_1 rfl (lv_at hl 1 rfl) w) ?_
  refine g_1 (fun w => lv_null X.1 X.2.1 d_OJ_checkIndex_2 w) ?_
  refine g_callS (na := 3) X (c_PC_checkIndex B0 hi hn hn2) rfl ⟨⟨tw_97, tw_7⟩, ⟨by decide, by decide, by decide +kernel⟩, by decide, by decide⟩ tw_95 tw_96 rfl hl.1 (Nat.le_of_ble_eq_true rfl) ⟨by decide, by decide⟩ d_OJ_checkIndex_3 (fun v h' hp => ?_)
  obtain ⟨rfl, rfl⟩ := hp
  refine g_widen (k' := 0) (n' := 0) (by decide) (by decide) ?_
  show G D s0 p l e _ s m _ below meth c h _ _ _ (F0 m 6 ls [.int (iZ (i))])
  exact g_iret X (⟨rfl, rfl⟩) (by decide) (by decide) d_OJ_checkIndex_6

set_option maxHeartbeats 4000000 in
set_option maxRecDepth 100000 in
theorem c_AL_size {D : va_G} {s0 : State} {l : Launch} {h : gH} (B0 : gB D s0) {a w : Nat} {L : List Nat} (ha : isAL D h a w L) : gMet D s0 l y_AL_size b_AL_size 1 (some .int) ({ frames := 0, cells := 0, slots := 0, locals := 0 } : Room) [.ref a] h (fun v h' => some (.int (iZ L.length)) = v ∧ h = h') := by
  obtain ⟨e0, mc, fA, hc⟩ := id ha
  refine g_enter B0 (plainFor_of_name (by decide)) (Nat.le_of_ble_eq_true rfl) (fun p e s m below meth c ls X hnm hl => ?_)
  have hl : lv_has ls 1 [(0, .ref a)] := hl
  refine g_1 (fun w => lv_aload_n X.1 X.2.1 d_AL_size_0 rfl (lv_at hl 0 rfl) w) ?_
  refine g_get X (ci := 3) rfl fA 1 (by decide) ⟨rfl, rfl⟩ tw_44 (Or.inl rfl) rfl d_AL_size_1 ?_
  exact g_iret X (⟨rfl, rfl⟩) (by decide) (by decide) d_AL_size_4

set_option maxHeartbeats 4000000 in
set_option maxRecDepth 100000 in
theorem c_AL_isEmpty {D : va_G} {s0 : State} {l : Launch} {h : gH} (B0 : gB D s0) {a w : Nat} {L : List Nat} (ha : isAL D h a w L) (hL : L.length ≤ 1600) : gMet D s0 l y_AL_isEmpty b_AL_isEmpty 1 (some .boolean) ({ frames := 0, cells := 0, slots := 0, locals := 0 } : Room) [.ref a] h (fun v h' => some (.int (iZ (if L.length = 0 then 1 else 0))) = v ∧ h = h') := by
  obtain ⟨e0, mc, fA, hc⟩ := id ha
  refine g_enter B0 (plainFor_of_name (by decide)) (Nat.le_of_ble_eq_true rfl) (fun p e s m below meth c ls X hnm hl => ?_)
  have hl : lv_has ls 1 [(0, .ref a)] := hl
  refine g_1 (fun w => lv_aload_n X.1 X.2.1 d_AL_isEmpty_0 rfl (lv_at hl 0 rfl) w) ?_
  refine g_get X (ci := 3) rfl fA 1 (by decide) ⟨rfl, rfl⟩ tw_44 (Or.inl rfl) rfl d_AL_isEmpty_1 ?_
  refine g_if_ne (tgt := 11) X (⟨by omega, by omega⟩) d_AL_isEmpty_4 (by decide) (fun c4 => ?_) (fun c4 => ?_)
  · refine g_1 (fun w => lv_iconst (v := iZ 0) X.1 X.2.1 d_AL_isEmpty_11 rfl w) ?_
    exact g_zret X rfl (⟨g_ei (by split <;> omega), rfl⟩) (by decide) (by decide) d_AL_isEmpty_12
  · refine g_1 (fun w => lv_iconst (v := iZ 1) X.1 X.2.1 d_AL_isEmpty_7 rfl w) ?_
    refine g_goto (tgt := 12) X d_AL_isEmpty_8 (by decide) ?_
    exact g_zret X rfl (⟨g_ei (by split <;> omega), rfl⟩) (by decide) (by decide) d_AL_isEmpty_12

set_option maxHeartbeats 4000000 in
set_option maxRecDepth 100000 in
theorem c_AL_elementData {D : va_G} {s0 : State} {l : Launch} {h : gH} (B0 : gB D s0) {a w : Nat} {L : List Nat} (ha : isAL D h a w L) (i : Nat) (hi : i < L.length) : gMet D s0 l y_AL_elementData b_AL_elementData 2 (some (.object "java/lang/Object")) ({ frames := 0, cells := 0, slots := 0, locals := 0 } : Room) [.ref a, .int (iZ (i))] h (fun v h' => some (.ref (L.getD i 0)) = v ∧ h = h') := by
  obtain ⟨e0, mc, fA, hc⟩ := id ha
  rcases hc with ⟨-, rfl⟩ | ⟨cap, f, fE, hc1, hc2, hc3, hc4⟩
  · exact absurd hi (Nat.not_lt_zero _)
  refine g_enter B0 (plainFor_of_name (by decide)) (Nat.le_of_ble_eq_true rfl) (fun p e s m below meth c ls X hnm hl => ?_)
  have hl : lv_has ls 2 [(0, .ref a), (1, .int (iZ (i)))] := hl
  refine g_1 (fun w => lv_aload_n X.1 X.2.1 d_AL_elementData_0 rfl (lv_at hl 0 rfl) w) ?_
  refine g_get X (ci := 3) rfl fA 0 (by decide) ⟨rfl, rfl⟩ tw_43 (Or.inl rfl) rfl d_AL_elementData_1 ?_
  refine g_1 (fun w => lv_iload_n X.1 X.2.1 d_AL_elementData_4 rfl (lv_at hl 1 rfl) w) ?_
  refine g_ald X fE (i) (rfl) (by omega) (by omega) d_AL_elementData_5 ?_
  exact g_aret X (Or.inl ⟨_, rfl⟩) (⟨by rw [hc4 i hi]; rfl, rfl⟩) (by decide) (by decide) d_AL_elementData_6

set_option maxHeartbeats 4000000 in
set_option maxRecDepth 100000 in
theorem c_AL_get {D : va_G} {s0 : State} {l : Launch} {h : gH} (B0 : gB D s0) {a w : Nat} {L : List Nat} (ha : isAL D h a w L) (i : Nat) (hi : i < L.length) : gMet D s0 l y_AL_get b_AL_get 2 (some (.object "java/lang/Object")) ({ frames := 2, cells := 0, slots := 0, locals := 43 } : Room) [.ref a, .int (iZ (i))] h (fun v h' => some (.ref (L.getD i 0)) = v ∧ h = h') := by
  obtain ⟨e0, mc, fA, hc⟩ := id ha
  rcases hc with ⟨-, rfl⟩ | ⟨cap, f, fE, hc1, hc2, hc3, hc4⟩
  · exact absurd hi (Nat.not_lt_zero _)
  refine g_enter B0 (plainFor_of_name (by decide)) (Nat.le_of_ble_eq_true rfl) (fun p e s m below meth c ls X hnm hl => ?_)
  have hl : lv_has ls 2 [(0, .ref a), (1, .int (iZ (i)))] := hl
  refine g_1 (fun w => lv_iload_n X.1 X.2.1 d_AL_get_0 rfl (lv_at hl 1 rfl) w) ?_
  refine g_1 (fun w => lv_aload_n X.1 X.2.1 d_AL_get_1 rfl (lv_at hl 0 rfl) w) ?_
  refine g_get X (ci := 3) rfl fA 1 (by decide) ⟨rfl, rfl⟩ tw_44 (Or.inl rfl) rfl d_AL_get_2 ?_
  refine g_callS (na := 2) X (c_OJ_checkIndex B0 (by omega) (by omega) (by omega)) rfl ⟨⟨tw_94, tw_6⟩, ⟨by decide, by decide, by decide +kernel⟩, by decide, by decide⟩ tw_92 tw_93 rfl hl.1 (Nat.le_of_ble_eq_true rfl) ⟨by decide, by decide⟩ d_AL_get_5 (fun v h' hp => ?_)
  obtain ⟨rfl, rfl⟩ := hp
  refine g_widen (k' := 0) (n' := 0) (by decide) (by decide) ?_
  show G D s0 p l e _ s m _ below meth c h _ _ _ (F0 m 8 ls [.int (iZ (i))])
  refine g_1 (fun w => lv_pop X.1 X.2.1 d_AL_get_8 rfl w) ?_
  refine g_1 (fun w => lv_aload_n X.1 X.2.1 d_AL_get_9 rfl (lv_at hl 0 rfl) w) ?_
  refine g_1 (fun w => lv_iload_n X.1 X.2.1 d_AL_get_10 rfl (lv_at hl 1 rfl) w) ?_
  refine g_callV (na := 1) X (c_AL_elementData B0 ha i hi) rfl fA rfl ⟨⟨tw_101, tw_4⟩, ⟨by decide, by decide, by decide +kernel⟩, by decide, by decide⟩ tw_98 tw_99 tw_100 rfl hl.1 (Nat.le_of_ble_eq_true rfl) ⟨by decide, by decide⟩ d_AL_get_11 (fun v h' hp => ?_)
  obtain ⟨rfl, rfl⟩ := hp
  refine g_widen (k' := 0) (n' := 0) (by decide) (by decide) ?_
  show G D s0 p l e _ s m _ below meth c h _ _ _ (F0 m 14 ls [.ref (L.getD i 0)])
  exact g_aret (r := some (L.getD i 0)) X (Or.inl ⟨_, rfl⟩) (⟨rfl, rfl⟩) (by decide) (by decide) d_AL_get_14

set_option maxHeartbeats 4000000 in
set_option maxRecDepth 100000 in
theorem c_AC_init {D : va_G} {s0 : State} {l : Launch} {h : gH} (B0 : gB D s0) {a : Nat} : gMet D s0 l y_AC_init b_AC_init 1 none ({ frames := 1, cells := 0, slots := 0, locals := 12 } : Room) [.ref a] h (fun v h' => none = v ∧ h = h') := by
  refine g_enter B0 (plainFor_of_name (by decide)) (Nat.le_of_ble_eq_true rfl) (fun p e s m below meth c ls X hnm hl => ?_)
  have hl : lv_has ls 1 [(0, .ref a)] := hl
  refine g_1 (fun w => lv_aload_n X.1 X.2.1 d_AC_init_0 rfl (lv_at hl 0 rfl) w) ?_
  refine g_obj X tw_40 hl.1 d_AC_init_1 (by decide) (by decide) ?_
  exact g_vret X (⟨rfl, rfl⟩) (by decide) (by decide) d_AC_init_4

set_option maxHeartbeats 4000000 in
set_option maxRecDepth 100000 in
theorem c_AB_init {D : va_G} {s0 : State} {l : Launch} {h : gH} (B0 : gB D s0) {a w : Nat} (fA : h a = some ((5, w), .inr (3, [.null, .int (iZ 0), .int (iZ 0)]))) : gMet D s0 l y_AB_init b_AB_init 1 none ({ frames := 2, cells := 0, slots := 0, locals := 32 } : Room) [.ref a] h (fun v h' => none = v ∧ h = h') := by
  refine g_enter B0 (plainFor_of_name (by decide)) (Nat.le_of_ble_eq_true rfl) (fun p e s m below meth c ls X hnm hl => ?_)
  have hl : lv_has ls 1 [(0, .ref a)] := hl
  refine g_1 (fun w => lv_aload_n X.1 X.2.1 d_AB_init_0 rfl (lv_at hl 0 rfl) w) ?_
  refine g_callI (na := 0) X (c_AC_init B0) rfl rfl ⟨⟨tw_39, tw_2⟩, ⟨by decide, by decide, by decide +kernel⟩, by decide, by decide⟩ tw_37 tw_38 rfl hl.1 (Nat.le_of_ble_eq_true rfl) ⟨by decide, by decide⟩ d_AB_init_1 (fun v h' hp => ?_)
  obtain ⟨rfl, rfl⟩ := hp
  refine g_widen (k' := 0) (n' := 0) (by decide) (by decide) ?_
  show G D s0 p l e _ s m _ below meth c h _ _ _ (F0 m 4 ls [])
  refine g_1 (fun w => lv_aload_n X.1 X.2.1 d_AB_init_4 rfl (lv_at hl 0 rfl) w) ?_
  refine g_1 (fun w => lv_iconst (v := iZ 0) X.1 X.2.1 d_AB_init_5 rfl w) ?_
  refine g_put X (ci := 3) rfl fA (Nat.succ_ne_zero _) 2 (by decide) ⟨rfl, rfl⟩ tw_45 (Or.inl rfl) rfl rfl rfl (Nat.le_of_ble_eq_true rfl) d_AB_init_6 ?_
  obtain ⟨h_1, eh_1⟩ : ∃ z, z = g_up h a ((5, w), .inr (3, [.null, .int (iZ (0)), .int (iZ (0))])) := ⟨_, rfl⟩
  refine g_h (h' := h_1) eh_1.symm ?_
  have f_2 : h_1 a = some ((5, w), .inr (3, [.null, .int (iZ (0)), .int (iZ (0))])) := by rw [eh_1]; exact g_us
  exact g_vret X (⟨rfl, by rw [eh_1]; exact (g_id fA).symm⟩) (by decide) (by decide) d_AB_init_9

set_option maxHeartbeats 4000000 in
set_option maxRecDepth 100000 in
theorem c_AL_init {D : va_G} {s0 : State} {l : Launch} {h : gH} (B0 : gB D s0) {a w : Nat} (fA : h a = some ((5, w), .inr (3, [.null, .int (iZ 0), .int (iZ 0)]))) : gMet D s0 l y_AL_init b_AL_init 1 none ({ frames := 3, cells := 0, slots := 0, locals := 52 } : Room) [.ref a] h (fun v h' => none = v ∧ isAL D h' a w [] ∧ kp (fun q t => q = a) h h') := by
  refine g_enter B0 (plainFor_of_name (by decide)) (Nat.le_of_ble_eq_true rfl) (fun p e s m below meth c ls X hnm hl => ?_)
  have hl : lv_has ls 1 [(0, .ref a)] := hl
  refine g_1 (fun w => lv_aload_n X.1 X.2.1 d_AL_init_0 rfl (lv_at hl 0 rfl) w) ?_
  refine g_callI (na := 0) X (c_AB_init B0 fA) rfl rfl ⟨⟨tw_36, tw_3⟩, ⟨by decide, by decide, by decide +kernel⟩, by decide, by decide⟩ tw_34 tw_35 rfl hl.1 (Nat.le_of_ble_eq_true rfl) ⟨by decide, by decide⟩ d_AL_init_1 (fun v h' hp => ?_)
  obtain ⟨rfl, rfl⟩ := hp
  refine g_widen (k' := 0) (n' := 0) (by decide) (by decide) ?_
  show G D s0 p l e _ s m _ below meth c h _ _ _ (F0 m 4 ls [])
  refine g_1 (fun w => lv_aload_n X.1 X.2.1 d_AL_init_4 rfl (lv_at hl 0 rfl) w) ?_
  refine g_gets X tw_41 d_AL_init_5 ?_
  refine g_put X (ci := 3) rfl fA (Nat.succ_ne_zero _) 0 (by decide) ⟨rfl, rfl⟩ tw_43 (Or.inl rfl) rfl rfl rfl (Nat.le_of_ble_eq_true rfl) d_AL_init_8 ?_
  obtain ⟨h_1, eh_1⟩ : ∃ z, z = g_up h a ((5, w), .inr (3, [.ref (D.1 200), .int (iZ (0)), .int (iZ (0))])) := ⟨_, rfl⟩
  refine g_h (h' := h_1) eh_1.symm ?_
  have f_2 : h_1 a = some ((5, w), .inr (3, [.ref (D.1 200), .int (iZ (0)), .int (iZ (0))])) := by rw [eh_1]; exact g_us
  have hk_3 := kp_up (kp_rf (P := (fun q t => q = a)) (h := h)) eh_1 fA (rfl)
  exact g_vret X (⟨rfl, ⟨D.1 200, 0, f_2, Or.inl ⟨rfl, rfl⟩⟩, hk_3⟩) (by decide) (by decide) d_AL_init_11

set_option maxHeartbeats 4000000 in
set_option maxRecDepth 100000 in
theorem c_AS_newLength {D : va_G} {s0 : State} {l : Launch} {h : gH} (B0 : gB D s0) {z x y : Int} (hz : 0 < z) (hz2 : z ≤ 100000) (hx : 0 ≤ x) (hx2 : x ≤ 100000) (hy : 0 ≤ y) (hy2 : y ≤ 100000) : gMet D s0 l y_AS_newLength b_AS_newLength 4 (some .int) ({ frames := 1, cells := 0, slots := 0, locals := 21 } : Room) [.int (iZ (z)), .int (iZ (x)), .int (iZ (y))] h (fun v h' => some (.int (iZ (z + max x y))) = v ∧ h = h') := by
  refine g_enter B0 (plainFor_of_name (by decide)) (Nat.le_of_ble_eq_true rfl) (fun p e s m below meth c ls X hnm hl => ?_)
  have hl : lv_has ls 4 [(0, .int (iZ (z))), (1, .int (iZ (x))), (2, .int (iZ (y)))] := hl
  refine g_1 (fun w => lv_iload_n X.1 X.2.1 d_AS_newLength_0 rfl (lv_at hl 0 rfl) w) ?_
  refine g_1 (fun w => lv_iload_n X.1 X.2.1 d_AS_newLength_1 rfl (lv_at hl 1 rfl) w) ?_
  refine g_1 (fun w => lv_iload_n X.1 X.2.1 d_AS_newLength_2 rfl (lv_at hl 2 rfl) w) ?_
  refine g_callS (na := 2) X (c_MA_max B0 ⟨by omega, by omega⟩ ⟨by omega, by omega⟩) rfl ⟨⟨tw_240, tw_14⟩, ⟨by decide, by decide, by decide +kernel⟩, by decide, by decide⟩ tw_238 tw_239 rfl hl.1 (Nat.le_of_ble_eq_true rfl) ⟨by decide, by decide⟩ d_AS_newLength_3 (fun v h' hp => ?_)
  obtain ⟨rfl, rfl⟩ := hp
  refine g_widen (k' := 0) (n' := 0) (by decide) (by decide) ?_
  show G D s0 p l e _ s m _ below meth c h _ _ _ (F0 m 6 ls [.int (iZ (max x y)), .int (iZ (z))])
  refine g_iadd X d_AS_newLength_6 ?_
  refine g_s (fun kk => lv_istore_n (lv' := [(3, .int (iZ (z + (max x y)))), (0, .int (iZ (z))), (1, .int (iZ (x))), (2, .int (iZ (y)))]) X.1 X.2.1 d_AS_newLength_7 rfl hl (by decide) rfl kk) (fun ls hl => ?_)
  refine g_1 (fun w => lv_iconst (v := iZ 0) X.1 X.2.1 d_AS_newLength_8 rfl w) ?_
  refine g_1 (fun w => lv_iload_n X.1 X.2.1 d_AS_newLength_9 rfl (lv_at hl 0 rfl) w) ?_
  refine g_icmp_ge (tgt := 21) X (⟨by omega, by omega⟩) (⟨by omega, by omega⟩) d_AS_newLength_10 (by decide) (fun c10 => ?_) (fun c10 => ?_)
  · exfalso
    omega
  · refine g_1 (fun w => lv_iload_n X.1 X.2.1 d_AS_newLength_13 rfl (lv_at hl 0 rfl) w) ?_
    refine g_1 (fun w => lv_ldc X.1 X.2.1 X.2.2.2.2.2.1 (X.w tw_241 rfl) d_AS_newLength_14 w) ?_
    refine g_ti (show _ = iZ 2147483639 by decide) ?_
    refine g_icmp_gt (tgt := 21) X (⟨by omega, by omega⟩) (⟨by omega, by omega⟩) d_AS_newLength_16 (by decide) (fun c16 => ?_) (fun c16 => ?_)
    · exfalso
      omega
    · refine g_1 (fun w => lv_iload_n X.1 X.2.1 d_AS_newLength_19 rfl (lv_at hl 0 rfl) w) ?_
      exact g_iret X (⟨rfl, rfl⟩) (by decide) (by decide) d_AS_newLength_20

set_option maxHeartbeats 4000000 in
set_option maxRecDepth 100000 in
theorem c_AR_copyOf3 {D : va_G} {s0 : State} {l : Launch} {h : gH} (B0 : gB D s0) {e0 w cap N : Nat} {f : Nat → Option Nat} (fE : h e0 = some ((14, w), gO D cap f)) (h1 : cap ≤ N) (h2 : N ≤ 1600) (hel : ∀ j, j < cap → ∀ y, f j = some y → g_ob h y) : gMet D s0 l y_AR_copyOf3 b_AR_copyOf3 4 (some (.array (.object "java/lang/Object"))) ({ frames := 1, cells := 1, slots := 1600, locals := 40 } : Room) [.ref e0, .int (iZ (N)), .ref (D.1 201)] h (fun v h' => ∃ na : Nat, h na = none ∧ some (.ref na) = v ∧ g_up h na ((14, w), gO D N (fun j => if j < cap then f j else none)) = h') := by
  refine g_enter B0 (plainFor_of_name (by decide)) (Nat.le_of_ble_eq_true rfl) (fun p e s m below meth c ls X hnm hl => ?_)
  have hl : lv_has ls 4 [(0, .ref e0), (1, .int (iZ (N))), (2, .ref (D.1 201))] := hl
  refine g_1 (fun w => lv_aload_n X.1 X.2.1 d_AR_copyOf3_0 rfl (lv_at hl 2 rfl) w) ?_
  refine g_ldcM X tw_263 d_AR_copyOf3_1 ?_
  refine g_acmpF (tgt := 13) X d_AR_copyOf3_3 (by decide) ?_
  refine g_1 (fun w => lv_iload_n X.1 X.2.1 d_AR_copyOf3_6 rfl (lv_at hl 1 rfl) w) ?_
  refine g_newo X tw_265 (N) (rfl) (by omega) (fun z => (14, w)) (by decide) (by show 0 + N ≤ 1600; omega) d_AR_copyOf3_7 (fun na_1 hfna_1 => ?_)
  obtain ⟨h_2, eh_2⟩ : ∃ z, z = g_up h na_1 ((14, w), gO D N (fun _ => none)) := ⟨_, rfl⟩
  refine g_h (h' := h_2) eh_2.symm ?_
  have f_3 : h_2 e0 = some ((14, w), gO D cap (f)) := by rw [eh_2]; exact g_uf fE hfna_1
  have f_4 : h_2 na_1 = some ((14, w), gO D N (fun _ => none)) := by rw [eh_2]; exact g_us
  refine g_goto (tgt := 24) X d_AR_copyOf3_10 (by decide) ?_
  refine g_s (fun kk => lv_astore_n (lv' := [(3, .ref na_1), (0, .ref e0), (1, .int (iZ (N))), (2, .ref (D.1 201))]) X.1 X.2.1 d_AR_copyOf3_24 rfl hl (by decide) rfl kk) (fun ls hl => ?_)
  refine g_1 (fun w => lv_aload_n X.1 X.2.1 d_AR_copyOf3_25 rfl (lv_at hl 1 rfl) w) ?_
  refine g_1 (fun w => lv_iconst (v := iZ 0) X.1 X.2.1 d_AR_copyOf3_26 rfl w) ?_
  refine g_1 (fun w => lv_aload_n X.1 X.2.1 d_AR_copyOf3_27 rfl (lv_at hl 0 rfl) w) ?_
  refine g_1 (fun w => lv_iconst (v := iZ 0) X.1 X.2.1 d_AR_copyOf3_28 rfl w) ?_
  refine g_1 (fun w => lv_aload_n X.1 X.2.1 d_AR_copyOf3_29 rfl (lv_at hl 1 rfl) w) ?_
  refine g_aleno X f_3 d_AR_copyOf3_30 ?_
  refine g_1 (fun w => lv_iload_n X.1 X.2.1 d_AR_copyOf3_31 rfl (lv_at hl 2 rfl) w) ?_
  refine g_callS (na := 2) X (c_MA_min B0 ⟨by omega, by omega⟩ ⟨by omega, by omega⟩) rfl ⟨⟨tw_268, tw_14⟩, ⟨by decide, by decide, by decide +kernel⟩, by decide, by decide⟩ tw_266 tw_267 rfl hl.1 (Nat.le_of_ble_eq_true rfl) ⟨by decide, by show 0 + N + 0 ≤ 1600; omega⟩ d_AR_copyOf3_32 (fun v h' hp => ?_)
  obtain ⟨rfl, rfl⟩ := hp
  
  show G D s0 p l e _ s m _ below meth c h_2 _ _ _ (F0 m 35 ls [.int (iZ (min (cap : Int) N)), .int (iZ (0)), .ref na_1, .int (iZ (0)), .ref e0])
  refine g_copy X (N := cap) f_3 f_4 (Nat.succ_ne_zero _) tw_269 (by omega) (by omega) (by omega) (by omega) (fun j hj y hy => g_ob_new (hel j hj y hy) eh_2 hfna_1) hl.1 (by decide) (Nat.le_of_ble_eq_true rfl) d_AR_copyOf3_35 ?_
  obtain ⟨h_5, eh_5⟩ : ∃ z, z = g_up h_2 na_1 ((14, w), gO D N (fun j => if j < cap then (f) j else (fun _ => none) j)) := ⟨_, rfl⟩
  refine g_h (h' := h_5) eh_5.symm ?_
  have f_6 : h_5 e0 = some ((14, w), gO D cap (f)) := by rw [eh_5]; exact (g_un (g_nz fE hfna_1)).trans f_3
  have f_7 : h_5 na_1 = some ((14, w), gO D N (fun j => if j < cap then (f) j else (fun _ => none) j)) := by rw [eh_5]; exact g_us
  refine g_1 (fun w => lv_aload_n X.1 X.2.1 d_AR_copyOf3_38 rfl (lv_at hl 0 rfl) w) ?_
  exact g_aret (r := some (na_1)) X (Or.inr ⟨_, rfl⟩) (⟨na_1, hfna_1, rfl, by rw [eh_5, eh_2, g_uu]⟩) (by decide) (by show 0 + N ≤ 1600; omega) d_AR_copyOf3_39
end
section
set_option maxHeartbeats 4000000 in
set_option maxRecDepth 100000 in
theorem c_AR_copyOf2 {D : va_G} {s0 : State} {l : Launch} {h : gH} (B0 : gB D s0) {e0 w cap N : Nat} {f : Nat → Option Nat} (fE : h e0 = some ((14, w), gO D cap f)) (h1 : cap ≤ N) (h2 : N ≤ 1600) (hel : ∀ j, j < cap → ∀ y, f j = some y → g_ob h y) : gMet D s0 l y_AR_copyOf2 b_AR_copyOf2 2 (some (.array (.object "java/lang/Object"))) ({ frames := 2, cells := 1, slots := 1600, locals := 63 } : Room) [.ref e0, .int (iZ (N))] h (fun v h' => ∃ na : Nat, h na = none ∧ some (.ref na) = v ∧ g_up h na ((14, w), gO D N (fun j => if j < cap then f j else none)) = h') := by
  refine g_enter B0 (plainFor_of_name (by decide)) (Nat.le_of_ble_eq_true rfl) (fun p e s m below meth c ls X hnm hl => ?_)
  have hl : lv_has ls 2 [(0, .ref e0), (1, .int (iZ (N)))] := hl
  refine g_1 (fun w => lv_aload_n X.1 X.2.1 d_AR_copyOf2_0 rfl (lv_at hl 0 rfl) w) ?_
  refine g_1 (fun w => lv_iload_n X.1 X.2.1 d_AR_copyOf2_1 rfl (lv_at hl 1 rfl) w) ?_
  refine g_1 (fun w => lv_aload_n X.1 X.2.1 d_AR_copyOf2_2 rfl (lv_at hl 0 rfl) w) ?_
  refine g_getC X fE tw_248 hl.1 (by decide) (Nat.le_of_ble_eq_true rfl) d_AR_copyOf2_3 ?_
  refine g_callS (na := 3) X (c_AR_copyOf3 B0 fE h1 h2 hel) rfl ⟨⟨tw_262, tw_15⟩, ⟨by decide, by decide, by decide +kernel⟩, by decide, by decide⟩ tw_260 tw_261 rfl hl.1 (Nat.le_of_ble_eq_true rfl) ⟨by decide, by decide⟩ d_AR_copyOf2_6 (fun v h' hp => ?_)
  obtain ⟨na, hfna, rfl, eh9⟩ := hp
  refine g_widen (k' := 0 + 1) (n' := 0 + 1600) (by decide) (by decide) ?_
  show G D s0 p l e _ s m _ below meth c h' _ _ _ (F0 m 9 ls [.ref na])
  exact g_aret (r := some (na)) X (Or.inr ⟨_, rfl⟩) (⟨na, hfna, rfl, eh9⟩) (by decide) (by decide) d_AR_copyOf2_9

set_option maxHeartbeats 4000000 in
set_option maxRecDepth 100000 in
theorem c_AL_grow1 {D : va_G} {s0 : State} {l : Launch} {h : gH} (B0 : gB D s0) {a w e0 : Nat} {mc : Int} {L : List Nat} (fA : h a = some ((5, w), .inr (3, [.ref e0, .int (iZ L.length), .int (iZ mc)]))) (hc : (e0 = D.1 200 ∧ L = []) ∨ ∃ f : Nat → Option Nat, h e0 = some ((14, a), gO D L.length f) ∧ 1 ≤ L.length ∧ ∀ j, j < L.length → f j = some (L.getD j 0)) (hL : L.length ≤ 1024) (hel : ∀ b ∈ L, g_ob h b) : gMet D s0 l y_AL_grow1 b_AL_grow1 4 (some (.array (.object "java/lang/Object"))) ({ frames := 3, cells := 1, slots := 1600, locals := 84 } : Room) [.ref a, .int (iZ (L.length + 1))] h (fun v h' => ∃ (na cap : Nat) (f' : Nat → Option Nat), some (.ref na) = v ∧ h' a = some ((5, w), .inr (3, [.ref na, .int (iZ L.length), .int (iZ mc)])) ∧ h' na = some ((14, a), gO D cap f') ∧ L.length < cap ∧ cap ≤ 1600 ∧ (∀ j, j < L.length → f' j = some (L.getD j 0)) ∧ kp (fun q t => q = a) h h') := by
  refine g_enter B0 (plainFor_of_name (by decide)) (Nat.le_of_ble_eq_true rfl) (fun p e s m below meth c ls X hnm hl => ?_)
  have hl : lv_has ls 4 [(0, .ref a), (1, .int (iZ (L.length + 1)))] := hl
  rcases hc with ⟨rfl, rfl⟩ | ⟨f, fE, hc1, hc4⟩
  · have fA : h a = some ((5, w), .inr (3, [.ref (D.1 200), .int (iZ 0), .int (iZ mc)])) := fA
    have hl : lv_has ls 4 [(0, .ref a), (1, .int (iZ (0 + 1)))] := hl
    refine g_1 (fun w => lv_aload_n X.1 X.2.1 d_AL_grow1_0 rfl (lv_at hl 0 rfl) w) ?_
    refine g_get X (ci := 3) rfl fA 0 (by decide) ⟨rfl, rfl⟩ tw_43 (Or.inl rfl) rfl d_AL_grow1_1 ?_
    refine g_alens X d_AL_grow1_4 ?_
    refine g_s (fun kk => lv_istore_n (lv' := [(2, .int (iZ (0))), (0, .ref a), (1, .int (iZ (0 + 1)))]) X.1 X.2.1 d_AL_grow1_5 rfl hl (by decide) rfl kk) (fun ls hl => ?_)
    refine g_1 (fun w => lv_iload_n X.1 X.2.1 d_AL_grow1_6 rfl (lv_at hl 0 rfl) w) ?_
    refine g_if_gt (tgt := 20) X (⟨by omega, by omega⟩) d_AL_grow1_7 (by decide) (fun c7 => ?_) (fun c7 => ?_)
    · exfalso
      omega
    · refine g_1 (fun w => lv_aload_n X.1 X.2.1 d_AL_grow1_10 rfl (lv_at hl 1 rfl) w) ?_
      refine g_get X (ci := 3) rfl fA 0 (by decide) ⟨rfl, rfl⟩ tw_43 (Or.inl rfl) rfl d_AL_grow1_11 ?_
      refine g_gets X tw_41 d_AL_grow1_14 ?_
      refine g_acmpT (tgt := 45) X d_AL_grow1_17 (by decide) ?_
      refine g_1 (fun w => lv_aload_n X.1 X.2.1 d_AL_grow1_45 rfl (lv_at hl 1 rfl) w) ?_
      refine g_1 (fun w => lv_bipush (v := iZ 10) X.1 X.2.1 d_AL_grow1_46 (by decide) w) ?_
      refine g_1 (fun w => lv_iload_n X.1 X.2.1 d_AL_grow1_48 rfl (lv_at hl 2 rfl) w) ?_
      refine g_callS (na := 2) X (c_MA_max B0 ⟨by omega, by omega⟩ ⟨by omega, by omega⟩) rfl ⟨⟨tw_240, tw_14⟩, ⟨by decide, by decide, by decide +kernel⟩, by decide, by decide⟩ tw_272 tw_239 rfl hl.1 (Nat.le_of_ble_eq_true rfl) ⟨by decide, by decide⟩ d_AL_grow1_49 (fun v h' hp => ?_)
      obtain ⟨rfl, rfl⟩ := hp
      refine g_widen (k' := 0) (n' := 0) (by decide) (by decide) ?_
      show G D s0 p l e _ s m _ below meth c h _ _ _ (F0 m 52 ls [.int (iZ (max 10 (0 + 1))), .ref a])
      refine g_ti (congrArg iZ (show (max 10 (0 + 1) : Int) = 10 from by decide)) ?_
      refine g_newo X tw_273 (10) (by omega) (by omega) (fun z => (14, a)) (by decide) (by decide) d_AL_grow1_52 (fun na_1 hfna_1 => ?_)
      obtain ⟨h_2, eh_2⟩ : ∃ z, z = g_up h na_1 ((14, a), gO D 10 (fun _ => none)) := ⟨_, rfl⟩
      refine g_h (h' := h_2) eh_2.symm ?_
      have f_3 : h_2 a = some ((5, w), .inr (3, [.ref (D.1 200), .int (iZ (0)), .int (iZ (mc))])) := by rw [eh_2]; exact g_uf fA hfna_1
      have f_4 : h_2 na_1 = some ((14, a), gO D 10 (fun _ => none)) := by rw [eh_2]; exact g_us
      have hk_5 := kp_new (kp_rf (P := (fun q t => q = a)) (h := h)) eh_2 hfna_1
      refine g_1 (fun w => lv_dup_x1 X.1 X.2.1 d_AL_grow1_55 rfl rfl w) ?_
      refine g_put X (ci := 3) rfl f_3 (Nat.succ_ne_zero _) 0 (by decide) ⟨rfl, rfl⟩ tw_43 (Or.inl rfl) rfl rfl rfl (Nat.le_of_ble_eq_true rfl) d_AL_grow1_56 ?_
      obtain ⟨h_6, eh_6⟩ : ∃ z, z = g_up h_2 a ((5, w), .inr (3, [.ref na_1, .int (iZ (0)), .int (iZ (mc))])) := ⟨_, rfl⟩
      refine g_h (h' := h_6) eh_6.symm ?_
      have f_7 : h_6 a = some ((5, w), .inr (3, [.ref na_1, .int (iZ (0)), .int (iZ (mc))])) := by rw [eh_6]; exact g_us
      have f_8 : h_6 na_1 = some ((14, a), gO D 10 (fun _ => none)) := by rw [eh_6]; exact g_uk f_4 f_3 (show (14 : Nat) ≠ 5 by decide)
      have hk_9 := kp_up (hk_5) eh_6 f_3 (rfl)
      exact g_aret (r := some (na_1)) X (Or.inr ⟨_, rfl⟩) (⟨na_1, 10, _, rfl, f_7, f_8, by decide, by decide, fun j hj => absurd hj (Nat.not_lt_zero _), hk_9⟩) (by decide) (by decide) d_AL_grow1_59
  · obtain ⟨N, hN⟩ : ∃ N : Nat, N = L.length + max 1 (L.length / 2) := ⟨_, rfl⟩
    refine g_1 (fun w => lv_aload_n X.1 X.2.1 d_AL_grow1_0 rfl (lv_at hl 0 rfl) w) ?_
    refine g_get X (ci := 3) rfl fA 0 (by decide) ⟨rfl, rfl⟩ tw_43 (Or.inl rfl) rfl d_AL_grow1_1 ?_
    refine g_aleno X fE d_AL_grow1_4 ?_
    refine g_s (fun kk => lv_istore_n (lv' := [(2, .int (iZ (L.length))), (0, .ref a), (1, .int (iZ (L.length + 1)))]) X.1 X.2.1 d_AL_grow1_5 rfl hl (by decide) rfl kk) (fun ls hl => ?_)
    refine g_1 (fun w => lv_iload_n X.1 X.2.1 d_AL_grow1_6 rfl (lv_at hl 0 rfl) w) ?_
    refine g_if_gt (tgt := 20) X (⟨by omega, by omega⟩) d_AL_grow1_7 (by decide) (fun c7 => ?_) (fun c7 => ?_)
    · refine g_1 (fun w => lv_iload_n X.1 X.2.1 d_AL_grow1_20 rfl (lv_at hl 0 rfl) w) ?_
      refine g_1 (fun w => lv_iload_n X.1 X.2.1 d_AL_grow1_21 rfl (lv_at hl 2 rfl) w) ?_
      refine g_1 (fun w => lv_iload_n X.1 X.2.1 d_AL_grow1_22 rfl (lv_at hl 0 rfl) w) ?_
      refine g_isub X d_AL_grow1_23 ?_
      refine g_1 (fun w => lv_iload_n X.1 X.2.1 d_AL_grow1_24 rfl (lv_at hl 0 rfl) w) ?_
      refine g_1 (fun w => lv_iconst (v := iZ 1) X.1 X.2.1 d_AL_grow1_25 rfl w) ?_
      refine g_shr1 X (L.length) (rfl) (by omega) d_AL_grow1_26 ?_
      refine g_callS (na := 3) X (c_AS_newLength B0 (by omega) (by omega) (by omega) (by omega) (by omega) (by omega)) rfl ⟨⟨tw_237, tw_13⟩, ⟨by decide, by decide, by decide +kernel⟩, by decide, by decide⟩ tw_235 tw_236 rfl hl.1 (Nat.le_of_ble_eq_true rfl) ⟨by decide, by decide⟩ d_AL_grow1_27 (fun v h' hp => ?_)
      obtain ⟨rfl, rfl⟩ := hp
      refine g_widen (k' := 0) (n' := 0) (by decide) (by decide) ?_
      show G D s0 p l e _ s m _ below meth c h _ _ _ (F0 m 30 ls [.int (iZ ((L.length : Int) + max ((L.length + 1) - (L.length : Int)) ((L.length / 2 : Nat) : Int)))])
      refine g_ti (congrArg iZ (show ((L.length : Int) + max ((L.length + 1) - (L.length : Int)) ((L.length / 2 : Nat) : Int) : Int) = N from by omega)) ?_
      refine g_s (fun kk => lv_istore_n (lv' := [(3, .int (iZ (N))), (2, .int (iZ (L.length))), (0, .ref a), (1, .int (iZ (L.length + 1)))]) X.1 X.2.1 d_AL_grow1_30 rfl hl (by decide) rfl kk) (fun ls hl => ?_)
      refine g_1 (fun w => lv_aload_n X.1 X.2.1 d_AL_grow1_31 rfl (lv_at hl 2 rfl) w) ?_
      refine g_1 (fun w => lv_aload_n X.1 X.2.1 d_AL_grow1_32 rfl (lv_at hl 2 rfl) w) ?_
      refine g_get X (ci := 3) rfl fA 0 (by decide) ⟨rfl, rfl⟩ tw_43 (Or.inl rfl) rfl d_AL_grow1_33 ?_
      refine g_1 (fun w => lv_iload_n X.1 X.2.1 d_AL_grow1_36 rfl (lv_at hl 0 rfl) w) ?_
      refine g_callS (na := 2) X (c_AR_copyOf2 (w := a) B0 fE (show L.length ≤ N by omega) (by omega) (fun j hj y hy => hel y (by rw [hc4 j hj] at hy; cases hy; rw [List.getD_eq_getElem?_getD, List.getElem?_eq_getElem hj]; exact List.getElem_mem hj))) rfl ⟨⟨tw_247, tw_15⟩, ⟨by decide, by decide, by decide +kernel⟩, by decide, by decide⟩ tw_245 tw_246 rfl hl.1 (Nat.le_of_ble_eq_true rfl) ⟨by decide, by decide⟩ d_AL_grow1_37 (fun v h' hp => ?_)
      obtain ⟨na, hfna, rfl, eh9⟩ := hp
      have fA2 : h' a = some ((5, w), .inr (3, [.ref e0, .int (iZ L.length), .int (iZ mc)])) := by rw [← eh9]; exact g_uf fA hfna
      have fN : h' na = some ((14, a), gO D N (fun j => if j < L.length then f j else none)) := by rw [← eh9]; exact g_us
      have hk9 := kp_new (kp_rf (P := (fun q t => q = a)) (h := h)) eh9.symm hfna
      refine g_widen (k' := 0 + 1) (n' := 0 + 1600) (by decide) (by decide) ?_
      show G D s0 p l e _ s m _ below meth c h' _ _ _ (F0 m 40 ls [.ref na, .ref a])
      refine g_1 (fun w => lv_dup_x1 X.1 X.2.1 d_AL_grow1_40 rfl rfl w) ?_
      refine g_put X (ci := 3) rfl fA2 (Nat.succ_ne_zero _) 0 (by decide) ⟨rfl, rfl⟩ tw_43 (Or.inl rfl) rfl rfl rfl (Nat.le_of_ble_eq_true rfl) d_AL_grow1_41 ?_
      obtain ⟨h_1, eh_1⟩ : ∃ z, z = g_up h' a ((5, w), .inr (3, [.ref na, .int (iZ (L.length)), .int (iZ (mc))])) := ⟨_, rfl⟩
      refine g_h (h' := h_1) eh_1.symm ?_
      have f_2 : h_1 a = some ((5, w), .inr (3, [.ref na, .int (iZ (L.length)), .int (iZ (mc))])) := by rw [eh_1]; exact g_us
      have f_3 : h_1 na = some ((14, a), gO D N (fun j => if j < L.length then f j else none)) := by rw [eh_1]; exact g_uk fN fA2 (show (14 : Nat) ≠ 5 by decide)
      have hk_4 := kp_up (hk9) eh_1 fA2 (rfl)
      exact g_aret (r := some (na)) X (Or.inr ⟨_, rfl⟩) (⟨na, N, _, rfl, f_2, f_3, by omega, by omega, fun j hj => by rw [if_pos hj]; exact hc4 j hj, hk_4⟩) (by decide) (by decide) d_AL_grow1_44
    · exfalso
      omega

set_option maxHeartbeats 4000000 in
set_option maxRecDepth 100000 in
theorem c_AL_grow0 {D : va_G} {s0 : State} {l : Launch} {h : gH} (B0 : gB D s0) {a w e0 : Nat} {mc : Int} {L : List Nat} (fA : h a = some ((5, w), .inr (3, [.ref e0, .int (iZ L.length), .int (iZ mc)]))) (hc : (e0 = D.1 200 ∧ L = []) ∨ ∃ f : Nat → Option Nat, h e0 = some ((14, a), gO D L.length f) ∧ 1 ≤ L.length ∧ ∀ j, j < L.length → f j = some (L.getD j 0)) (hL : L.length ≤ 1024) (hel : ∀ b ∈ L, g_ob h b) : gMet D s0 l y_AL_grow0 b_AL_grow0 1 (some (.array (.object "java/lang/Object"))) ({ frames := 4, cells := 1, slots := 1600, locals := 107 } : Room) [.ref a] h (fun v h' => ∃ (na cap : Nat) (f' : Nat → Option Nat), some (.ref na) = v ∧ h' a = some ((5, w), .inr (3, [.ref na, .int (iZ L.length), .int (iZ mc)])) ∧ h' na = some ((14, a), gO D cap f') ∧ L.length < cap ∧ cap ≤ 1600 ∧ (∀ j, j < L.length → f' j = some (L.getD j 0)) ∧ kp (fun q t => q = a) h h') := by
  refine g_enter B0 (plainFor_of_name (by decide)) (Nat.le_of_ble_eq_true rfl) (fun p e s m below meth c ls X hnm hl => ?_)
  have hl : lv_has ls 1 [(0, .ref a)] := hl
  refine g_1 (fun w => lv_aload_n X.1 X.2.1 d_AL_grow0_0 rfl (lv_at hl 0 rfl) w) ?_
  refine g_1 (fun w => lv_aload_n X.1 X.2.1 d_AL_grow0_1 rfl (lv_at hl 0 rfl) w) ?_
  refine g_get X (ci := 3) rfl fA 1 (by decide) ⟨rfl, rfl⟩ tw_44 (Or.inl rfl) rfl d_AL_grow0_2 ?_
  refine g_1 (fun w => lv_iconst (v := iZ 1) X.1 X.2.1 d_AL_grow0_5 rfl w) ?_
  refine g_iadd X d_AL_grow0_6 ?_
  refine g_callV (na := 1) X (c_AL_grow1 B0 fA hc hL hel) rfl fA rfl ⟨⟨tw_234, tw_4⟩, ⟨by decide, by decide, by decide +kernel⟩, by decide, by decide⟩ tw_231 tw_233 ts_AL_grow1 rfl hl.1 (Nat.le_of_ble_eq_true rfl) ⟨by decide, by decide⟩ d_AL_grow0_7 (fun v h' hp => ?_)
  obtain ⟨na, cap, f', rfl, hq⟩ := hp
  refine g_widen (k' := 0 + 1) (n' := 0 + 1600) (by decide) (by decide) ?_
  show G D s0 p l e _ s m _ below meth c h' _ _ _ (F0 m 10 ls [.ref na])
  exact g_aret (r := some (na)) X (Or.inr ⟨_, rfl⟩) (⟨na, cap, f', rfl, hq⟩) (by decide) (by decide) d_AL_grow0_10
end
section
theorem g_astO {D : va_G} {s0 : State} {p : Program} {l : Launch} {e : Env} {R : Room} {s : State} {m : MethodId} {args : Array Value} {below : List Frame} {meth : Method} {c : Code} {h : gH} {k n : Nat} {Q : State → Prop} {own : String} {cc : ByteArray} {nL : Nat} {ret : Option FieldType} {pc : Nat} {ls : Array Slot} {rest : List Value} {a : Nat} (X : gX D s0 own cc nL ret p s m meth c) {t : Nat × Nat} {N : Nat} {f : Nat → Option Nat} (ha : h a = some (t, gO D N f)) (ht : t.1 ≠ 0) {b : Nat} (hob : g_ob h b) {i : Int} (j : Nat) (hi : i = (j : Int)) (hj : j < N) (hN : N < 2147483648) (hdg : decode cc pc = .ok (.aastore, 1))
    (kk : G D s0 p l e R s m args below meth c (g_up h a (t, gO D N (va_up f j (some b)))) k n Q (F0 m (pc + 1) ls rest)) : G D s0 p l e R s m args below meth c h k n Q (F0 m pc ls (.ref b :: .int (iZ i) :: .ref a :: rest)) := by
  obtain ⟨tb, ci, fs, hbb, hci⟩ := hob
  rcases hci with rfl | rfl
  · exact g_ast X ha ht hbb rfl tw_659 j hi hj hN hdg kk
  · exact g_ast X ha ht hbb rfl tw_660 j hi hj hN hdg kk
theorem al_app {L : List Nat} {b : Nat} {f : Nat → Option Nat} (hf : ∀ j, j < L.length → f j = some (L.getD j 0)) : ∀ j, j < (L ++ [b]).length → va_up f L.length (some b) j = some ((L ++ [b]).getD j 0) := by
  intro j hj
  rw [List.length_append] at hj
  by_cases h : j = L.length
  · subst h
    rw [va_up_self, List.getD_eq_getElem?_getD, List.getElem?_append_right (Nat.le_refl _), Nat.sub_self]
    rfl
  · have hl : j < L.length := by simp at hj; omega
    rw [va_up_ne _ _ h, hf j hl, List.getD_eq_getElem?_getD, List.getD_eq_getElem?_getD, List.getElem?_append_left hl]
theorem isAL_app {D : va_G} {h : gH} {a w e b cap : Nat} {mc : Int} {L : List Nat} {f : Nat → Option Nat} (fA : h a = some ((5, w), .inr (3, [.ref e, .int (iZ (L.length + 1)), .int (iZ mc)]))) (fE : h e = some ((14, a), gO D cap (va_up f L.length (some b)))) (h1 : L.length < cap) (h2 : cap ≤ 1600) (hf : ∀ j, j < L.length → f j = some (L.getD j 0)) : isAL D h a w (L ++ [b]) := by
  refine ⟨e, mc, ?_, Or.inr ⟨cap, _, fE, by omega, h2, by simp; omega, al_app hf⟩⟩
  have e1 : ((L ++ [b]).length : Int) = L.length + 1 := by simp
  rw [e1]
  exact fA
theorem g_ob.kp {h h' : gH} {b a : Nat} {t : Nat × Nat} {fs : List Value} (hb : g_ob h b) (hk : kp (fun q _ => q = a) h h') (ha : h a = some (t, .inr (3, fs))) : g_ob h' b := by
  obtain ⟨tb, ci, fb, q, z⟩ := hb
  refine ⟨tb, ci, fb, hk _ _ q (fun e => ?_), z⟩
  subst e
  cases ha.symm.trans q
  rcases z with z | z <;> cases z
end
section
set_option maxHeartbeats 4000000 in
set_option maxRecDepth 100000 in
theorem c_AL_add3 {D : va_G} {s0 : State} {l : Launch} {h : gH} (B0 : gB D s0) {a w e0 b : Nat} {mc : Int} {L : List Nat} (fA : h a = some ((5, w), .inr (3, [.ref e0, .int (iZ L.length), .int (iZ mc)]))) (hc : (e0 = D.1 200 ∧ L = []) ∨ ∃ (cap : Nat) (f : Nat → Option Nat), h e0 = some ((14, a), gO D cap f) ∧ 1 ≤ cap ∧ cap ≤ 1600 ∧ L.length ≤ cap ∧ ∀ j, j < L.length → f j = some (L.getD j 0)) (hL : L.length ≤ 1024) (hel : ∀ b ∈ L, g_ob h b) (hob : g_ob h b) : gMet D s0 l y_AL_add3 b_AL_add3 4 none ({ frames := 5, cells := 1, slots := 1600, locals := 127 } : Room) [.ref a, .ref b, .ref e0, .int (iZ (L.length))] h (fun v h' => none = v ∧ isAL D h' a w (L ++ [b]) ∧ kp (P_AL a) h h') := by
  refine g_enter B0 (plainFor_of_name (by decide)) (Nat.le_of_ble_eq_true rfl) (fun p e s m below meth c ls X hnm hl => ?_)
  have hl : lv_has ls 4 [(0, .ref a), (1, .ref b), (2, .ref e0), (3, .int (iZ (L.length)))] := hl
  rcases hc with ⟨rfl, hLn⟩ | ⟨cap, f, fE, hc1, hc2, hc3, hc4⟩
  · have hLl : L.length = 0 := by rw [hLn]; rfl
    refine g_1 (fun w => lv_iload_n X.1 X.2.1 d_AL_add3_0 rfl (lv_at hl 3 rfl) w) ?_
    refine g_1 (fun w => lv_aload_n X.1 X.2.1 d_AL_add3_1 rfl (lv_at hl 2 rfl) w) ?_
    refine g_alens X d_AL_add3_2 ?_
    refine g_icmp_ne (tgt := 11) X (⟨by omega, by omega⟩) (⟨by omega, by omega⟩) d_AL_add3_3 (by decide) (fun c3 => ?_) (fun c3 => ?_)
    · exfalso
      omega
    · refine g_1 (fun w => lv_aload_n X.1 X.2.1 d_AL_add3_6 rfl (lv_at hl 0 rfl) w) ?_
      refine g_callV (na := 0) X (c_AL_grow0 B0 fA (Or.inl ⟨rfl, hLn⟩) hL hel) rfl fA rfl ⟨⟨tw_230, tw_4⟩, ⟨by decide, by decide, by decide +kernel⟩, by decide, by decide⟩ tw_227 tw_229 ts_AL_grow0 rfl hl.1 (Nat.le_of_ble_eq_true rfl) ⟨by decide, by decide⟩ d_AL_add3_7 (fun v h' hp => ?_)
      obtain ⟨na, cap2, f2, rfl, qA, qN, q1, q2, q3, hk8⟩ := hp
      have hob2 := hob.kp hk8 fA
      have hk9 := kp_mo (P' := P_AL a) hk8 (fun q t z => Or.inl z)
      refine g_widen (k' := 0 + 1) (n' := 0 + 1600) (by decide) (by decide) ?_
      show G D s0 p l e _ s m _ below meth c h' _ _ _ (F0 m 10 ls [.ref na])
      refine g_s (fun kk => lv_astore_n (lv' := [(2, .ref na), (0, .ref a), (1, .ref b), (3, .int (iZ (L.length)))]) X.1 X.2.1 d_AL_add3_10 rfl hl (by decide) rfl kk) (fun ls hl => ?_)
      refine g_1 (fun w => lv_aload_n X.1 X.2.1 d_AL_add3_11 rfl (lv_at hl 0 rfl) w) ?_
      refine g_1 (fun w => lv_iload_n X.1 X.2.1 d_AL_add3_12 rfl (lv_at hl 3 rfl) w) ?_
      refine g_1 (fun w => lv_aload_n X.1 X.2.1 d_AL_add3_13 rfl (lv_at hl 2 rfl) w) ?_
      refine g_astO X qN (Nat.succ_ne_zero _) hob2 (L.length) (rfl) (by omega) (by omega) d_AL_add3_14 ?_
      obtain ⟨h_51, eh_51⟩ : ∃ z, z = g_up h' na ((14, a), gO D cap2 (va_up (f2) (L.length) (some b))) := ⟨_, rfl⟩
      refine g_h (h' := h_51) eh_51.symm ?_
      have f_52 : h_51 a = some ((5, w), .inr (3, [.ref na, .int (iZ (L.length)), .int (iZ (mc))])) := by rw [eh_51]; exact g_uk qA qN (show (5 : Nat) ≠ 14 by decide)
      have f_53 : h_51 na = some ((14, a), gO D cap2 (va_up (f2) (L.length) (some b))) := by rw [eh_51]; exact g_us
      have hk_54 := kp_up (hk9) eh_51 qN (Or.inr rfl)
      refine g_1 (fun w => lv_aload_n X.1 X.2.1 d_AL_add3_15 rfl (lv_at hl 1 rfl) w) ?_
      refine g_1 (fun w => lv_iload_n X.1 X.2.1 d_AL_add3_16 rfl (lv_at hl 3 rfl) w) ?_
      refine g_1 (fun w => lv_iconst (v := iZ 1) X.1 X.2.1 d_AL_add3_17 rfl w) ?_
      refine g_iadd X d_AL_add3_18 ?_
      refine g_put X (ci := 3) rfl f_52 (Nat.succ_ne_zero _) 1 (by decide) ⟨rfl, rfl⟩ tw_44 (Or.inl rfl) rfl rfl rfl (Nat.le_of_ble_eq_true rfl) d_AL_add3_19 ?_
      obtain ⟨h_55, eh_55⟩ : ∃ z, z = g_up h_51 a ((5, w), .inr (3, [.ref na, .int (iZ (L.length + 1)), .int (iZ (mc))])) := ⟨_, rfl⟩
      refine g_h (h' := h_55) eh_55.symm ?_
      have f_56 : h_55 a = some ((5, w), .inr (3, [.ref na, .int (iZ (L.length + 1)), .int (iZ (mc))])) := by rw [eh_55]; exact g_us
      have f_57 : h_55 na = some ((14, a), gO D cap2 (va_up (f2) (L.length) (some b))) := by rw [eh_55]; exact g_uk f_53 f_52 (show (14 : Nat) ≠ 5 by decide)
      have hk_58 := kp_up (hk_54) eh_55 f_52 (Or.inl rfl)
      exact g_vret X (⟨rfl, isAL_app f_56 f_57 q1 q2 q3, hk_58⟩) (by decide) (by decide) d_AL_add3_22
  · refine g_1 (fun w => lv_iload_n X.1 X.2.1 d_AL_add3_0 rfl (lv_at hl 3 rfl) w) ?_
    refine g_1 (fun w => lv_aload_n X.1 X.2.1 d_AL_add3_1 rfl (lv_at hl 2 rfl) w) ?_
    refine g_aleno X fE d_AL_add3_2 ?_
    refine g_icmp_ne (tgt := 11) X (⟨by omega, by omega⟩) (⟨by omega, by omega⟩) d_AL_add3_3 (by decide) (fun c3 => ?_) (fun c3 => ?_)
    · refine g_1 (fun w => lv_aload_n X.1 X.2.1 d_AL_add3_11 rfl (lv_at hl 2 rfl) w) ?_
      refine g_1 (fun w => lv_iload_n X.1 X.2.1 d_AL_add3_12 rfl (lv_at hl 3 rfl) w) ?_
      refine g_1 (fun w => lv_aload_n X.1 X.2.1 d_AL_add3_13 rfl (lv_at hl 1 rfl) w) ?_
      refine g_astO X fE (Nat.succ_ne_zero _) hob (L.length) (rfl) (by omega) (by omega) d_AL_add3_14 ?_
      obtain ⟨h_51, eh_51⟩ : ∃ z, z = g_up h e0 ((14, a), gO D cap (va_up (f) (L.length) (some b))) := ⟨_, rfl⟩
      refine g_h (h' := h_51) eh_51.symm ?_
      have f_52 : h_51 a = some ((5, w), .inr (3, [.ref e0, .int (iZ (L.length)), .int (iZ (mc))])) := by rw [eh_51]; exact g_uk fA fE (show (5 : Nat) ≠ 14 by decide)
      have f_53 : h_51 e0 = some ((14, a), gO D cap (va_up (f) (L.length) (some b))) := by rw [eh_51]; exact g_us
      have hk_54 := kp_up (kp_rf (P := P_AL a) (h := h)) eh_51 fE (Or.inr rfl)
      refine g_1 (fun w => lv_aload_n X.1 X.2.1 d_AL_add3_15 rfl (lv_at hl 0 rfl) w) ?_
      refine g_1 (fun w => lv_iload_n X.1 X.2.1 d_AL_add3_16 rfl (lv_at hl 3 rfl) w) ?_
      refine g_1 (fun w => lv_iconst (v := iZ 1) X.1 X.2.1 d_AL_add3_17 rfl w) ?_
      refine g_iadd X d_AL_add3_18 ?_
      refine g_put X (ci := 3) rfl f_52 (Nat.succ_ne_zero _) 1 (by decide) ⟨rfl, rfl⟩ tw_44 (Or.inl rfl) rfl rfl rfl (Nat.le_of_ble_eq_true rfl) d_AL_add3_19 ?_
      obtain ⟨h_55, eh_55⟩ : ∃ z, z = g_up h_51 a ((5, w), .inr (3, [.ref e0, .int (iZ (L.length + 1)), .int (iZ (mc))])) := ⟨_, rfl⟩
      refine g_h (h' := h_55) eh_55.symm ?_
      have f_56 : h_55 a = some ((5, w), .inr (3, [.ref e0, .int (iZ (L.length + 1)), .int (iZ (mc))])) := by rw [eh_55]; exact g_us
      have f_57 : h_55 e0 = some ((14, a), gO D cap (va_up (f) (L.length) (some b))) := by rw [eh_55]; exact g_uk f_53 f_52 (show (14 : Nat) ≠ 5 by decide)
      have hk_58 := kp_up (hk_54) eh_55 f_52 (Or.inl rfl)
      exact g_vret X (⟨rfl, isAL_app f_56 f_57 (by omega) hc2 hc4, hk_58⟩) (by decide) (by decide) d_AL_add3_22
    · refine g_1 (fun w => lv_aload_n X.1 X.2.1 d_AL_add3_6 rfl (lv_at hl 0 rfl) w) ?_
      refine g_callV (na := 0) X (c_AL_grow0 B0 fA (Or.inr ⟨f, by rw [show L.length = cap by omega]; exact fE, by omega, hc4⟩) hL hel) rfl fA rfl ⟨⟨tw_230, tw_4⟩, ⟨by decide, by decide, by decide +kernel⟩, by decide, by decide⟩ tw_227 tw_229 ts_AL_grow0 rfl hl.1 (Nat.le_of_ble_eq_true rfl) ⟨by decide, by decide⟩ d_AL_add3_7 (fun v h' hp => ?_)
      obtain ⟨na, cap2, f2, rfl, qA, qN, q1, q2, q3, hk8⟩ := hp
      have hob2 := hob.kp hk8 fA
      have hk9 := kp_mo (P' := P_AL a) hk8 (fun q t z => Or.inl z)
      refine g_widen (k' := 0 + 1) (n' := 0 + 1600) (by decide) (by decide) ?_
      show G D s0 p l e _ s m _ below meth c h' _ _ _ (F0 m 10 ls [.ref na])
      refine g_s (fun kk => lv_astore_n (lv' := [(2, .ref na), (0, .ref a), (1, .ref b), (3, .int (iZ (L.length)))]) X.1 X.2.1 d_AL_add3_10 rfl hl (by decide) rfl kk) (fun ls hl => ?_)
      refine g_1 (fun w => lv_aload_n X.1 X.2.1 d_AL_add3_11 rfl (lv_at hl 0 rfl) w) ?_
      refine g_1 (fun w => lv_iload_n X.1 X.2.1 d_AL_add3_12 rfl (lv_at hl 3 rfl) w) ?_
      refine g_1 (fun w => lv_aload_n X.1 X.2.1 d_AL_add3_13 rfl (lv_at hl 2 rfl) w) ?_
      refine g_astO X qN (Nat.succ_ne_zero _) hob2 (L.length) (rfl) (by omega) (by omega) d_AL_add3_14 ?_
      obtain ⟨h_51, eh_51⟩ : ∃ z, z = g_up h' na ((14, a), gO D cap2 (va_up (f2) (L.length) (some b))) := ⟨_, rfl⟩
      refine g_h (h' := h_51) eh_51.symm ?_
      have f_52 : h_51 a = some ((5, w), .inr (3, [.ref na, .int (iZ (L.length)), .int (iZ (mc))])) := by rw [eh_51]; exact g_uk qA qN (show (5 : Nat) ≠ 14 by decide)
      have f_53 : h_51 na = some ((14, a), gO D cap2 (va_up (f2) (L.length) (some b))) := by rw [eh_51]; exact g_us
      have hk_54 := kp_up (hk9) eh_51 qN (Or.inr rfl)
      refine g_1 (fun w => lv_aload_n X.1 X.2.1 d_AL_add3_15 rfl (lv_at hl 1 rfl) w) ?_
      refine g_1 (fun w => lv_iload_n X.1 X.2.1 d_AL_add3_16 rfl (lv_at hl 3 rfl) w) ?_
      refine g_1 (fun w => lv_iconst (v := iZ 1) X.1 X.2.1 d_AL_add3_17 rfl w) ?_
      refine g_iadd X d_AL_add3_18 ?_
      refine g_put X (ci := 3) rfl f_52 (Nat.succ_ne_zero _) 1 (by decide) ⟨rfl, rfl⟩ tw_44 (Or.inl rfl) rfl rfl rfl (Nat.le_of_ble_eq_true rfl) d_AL_add3_19 ?_
      obtain ⟨h_55, eh_55⟩ : ∃ z, z = g_up h_51 a ((5, w), .inr (3, [.ref na, .int (iZ (L.length + 1)), .int (iZ (mc))])) := ⟨_, rfl⟩
      refine g_h (h' := h_55) eh_55.symm ?_
      have f_56 : h_55 a = some ((5, w), .inr (3, [.ref na, .int (iZ (L.length + 1)), .int (iZ (mc))])) := by rw [eh_55]; exact g_us
      have f_57 : h_55 na = some ((14, a), gO D cap2 (va_up (f2) (L.length) (some b))) := by rw [eh_55]; exact g_uk f_53 f_52 (show (14 : Nat) ≠ 5 by decide)
      have hk_58 := kp_up (hk_54) eh_55 f_52 (Or.inl rfl)
      exact g_vret X (⟨rfl, isAL_app f_56 f_57 q1 q2 q3, hk_58⟩) (by decide) (by decide) d_AL_add3_22

set_option maxHeartbeats 4000000 in
set_option maxRecDepth 100000 in
theorem c_AL_add1 {D : va_G} {s0 : State} {l : Launch} {h : gH} (B0 : gB D s0) {a w b : Nat} {L : List Nat} (ha : isAL D h a w L) (hL : L.length ≤ 1024) (hel : ∀ b ∈ L, g_ob h b) (hob : g_ob h b) : gMet D s0 l y_AL_add1 b_AL_add1 2 (some .boolean) ({ frames := 6, cells := 1, slots := 1600, locals := 150 } : Room) [.ref a, .ref b] h (fun v h' => some (.int (iZ 1)) = v ∧ isAL D h' a w (L ++ [b]) ∧ kp (P_AL a) h h') := by
  obtain ⟨e0, mc, fA, hc⟩ := id ha
  refine g_enter B0 (plainFor_of_name (by decide)) (Nat.le_of_ble_eq_true rfl) (fun p e s m below meth c ls X hnm hl => ?_)
  have hl : lv_has ls 2 [(0, .ref a), (1, .ref b)] := hl
  refine g_1 (fun w => lv_aload_n X.1 X.2.1 d_AL_add1_0 rfl (lv_at hl 0 rfl) w) ?_
  refine g_1 (fun w => lv_dup X.1 X.2.1 d_AL_add1_1 rfl w) ?_
  refine g_get X (ci := 3) rfl fA 2 (by decide) ⟨rfl, rfl⟩ tw_46 (Or.inr tw_47) rfl d_AL_add1_2 ?_
  refine g_1 (fun w => lv_iconst (v := iZ 1) X.1 X.2.1 d_AL_add1_5 rfl w) ?_
  refine g_iadd X d_AL_add1_6 ?_
  refine g_put X (ci := 3) rfl fA (Nat.succ_ne_zero _) 2 (by decide) ⟨rfl, rfl⟩ tw_46 (Or.inr tw_47) rfl rfl rfl (Nat.le_of_ble_eq_true rfl) d_AL_add1_7 ?_
  obtain ⟨h_1, eh_1⟩ : ∃ z, z = g_up h a ((5, w), .inr (3, [.ref e0, .int (iZ (L.length)), .int (iZ (mc + 1))])) := ⟨_, rfl⟩
  refine g_h (h' := h_1) eh_1.symm ?_
  have f_2 : h_1 a = some ((5, w), .inr (3, [.ref e0, .int (iZ (L.length)), .int (iZ (mc + 1))])) := by rw [eh_1]; exact g_us
  have hk_3 := kp_up (kp_rf (P := P_AL a) (h := h)) eh_1 fA (Or.inl rfl)
  refine g_1 (fun w => lv_aload_n X.1 X.2.1 d_AL_add1_10 rfl (lv_at hl 0 rfl) w) ?_
  refine g_1 (fun w => lv_aload_n X.1 X.2.1 d_AL_add1_11 rfl (lv_at hl 1 rfl) w) ?_
  refine g_1 (fun w => lv_aload_n X.1 X.2.1 d_AL_add1_12 rfl (lv_at hl 0 rfl) w) ?_
  refine g_get X (ci := 3) rfl f_2 0 (by decide) ⟨rfl, rfl⟩ tw_43 (Or.inl rfl) rfl d_AL_add1_13 ?_
  refine g_1 (fun w => lv_aload_n X.1 X.2.1 d_AL_add1_16 rfl (lv_at hl 0 rfl) w) ?_
  refine g_get X (ci := 3) rfl f_2 1 (by decide) ⟨rfl, rfl⟩ tw_44 (Or.inl rfl) rfl d_AL_add1_17 ?_
  have hk0 : kp (fun q _ => q = a) h h_1 := kp_up kp_rf eh_1 fA rfl
  have hc2 : (e0 = D.1 200 ∧ L = []) ∨ ∃ (cap : Nat) (f : Nat → Option Nat), h_1 e0 = some ((14, a), gO D cap f) ∧ 1 ≤ cap ∧ cap ≤ 1600 ∧ L.length ≤ cap ∧ ∀ j, j < L.length → f j = some (L.getD j 0) := by
    rcases hc with z | ⟨cap, f, z1, z2⟩
    · exact Or.inl z
    · exact Or.inr ⟨cap, f, hk0 _ _ z1 (fun y => by subst y; cases fA.symm.trans z1), z2⟩
  refine g_callV (na := 3) X (c_AL_add3 B0 f_2 hc2 hL (fun z hz => (hel z hz).kp hk0 fA) (hob.kp hk0 fA)) rfl f_2 rfl ⟨⟨tw_226, tw_4⟩, ⟨by decide, by decide, by decide +kernel⟩, by decide, by decide⟩ tw_223 tw_225 ts_AL_add3 rfl hl.1 (Nat.le_of_ble_eq_true rfl) ⟨by decide, by decide⟩ d_AL_add1_20 (fun v h' hp => ?_)
  obtain ⟨rfl, q1, hk8⟩ := hp
  have hk7 := kp_tr hk_3 hk8
  refine g_widen (k' := 0 + 1) (n' := 0 + 1600) (by decide) (by decide) ?_
  show G D s0 p l e _ s m _ below meth c h' _ _ _ (F0 m 23 ls [])
  refine g_1 (fun w => lv_iconst (v := iZ 1) X.1 X.2.1 d_AL_add1_23 rfl w) ?_
  exact g_zret X rfl (⟨rfl, q1, hk7⟩) (by decide) (by decide) d_AL_add1_24
end
section
set_option maxHeartbeats 4000000 in
set_option maxRecDepth 100000 in
theorem c_AL_clear {D : va_G} {s0 : State} {l : Launch} {h : gH} (B0 : gB D s0) {a w : Nat} {L : List Nat} (ha : isAL D h a w L) (hL : L.length ≤ 1600) : gMet D s0 l y_AL_clear b_AL_clear 4 none ({ frames := 0, cells := 0, slots := 0, locals := 0 } : Room) [.ref a] h (fun v h' => none = v ∧ isAL D h' a w [] ∧ kp (P_AL a) h h') := by
  obtain ⟨e0, mc, fA, hc⟩ := id ha
  refine g_enter B0 (plainFor_of_name (by decide)) (Nat.le_of_ble_eq_true rfl) (fun p e s m below meth c ls X hnm hl => ?_)
  have hl : lv_has ls 4 [(0, .ref a)] := hl
  rcases hc with ⟨rfl, hLn⟩ | ⟨cap, f, fE, hc1, hc2, hc3, hc4⟩
  · have hLl : L.length = 0 := by rw [hLn]; rfl
    refine g_1 (fun w => lv_aload_n X.1 X.2.1 d_AL_clear_0 rfl (lv_at hl 0 rfl) w) ?_
    refine g_1 (fun w => lv_dup X.1 X.2.1 d_AL_clear_1 rfl w) ?_
    refine g_get X (ci := 3) rfl fA 2 (by decide) ⟨rfl, rfl⟩ tw_46 (Or.inr tw_47) rfl d_AL_clear_2 ?_
    refine g_1 (fun w => lv_iconst (v := iZ 1) X.1 X.2.1 d_AL_clear_5 rfl w) ?_
    refine g_iadd X d_AL_clear_6 ?_
    refine g_put X (ci := 3) rfl fA (Nat.succ_ne_zero _) 2 (by decide) ⟨rfl, rfl⟩ tw_46 (Or.inr tw_47) rfl rfl rfl (Nat.le_of_ble_eq_true rfl) d_AL_clear_7 ?_
    obtain ⟨h_1, eh_1⟩ : ∃ z, z = g_up h a ((5, w), .inr (3, [.ref (D.1 200), .int (iZ (L.length)), .int (iZ (mc + 1))])) := ⟨_, rfl⟩
    refine g_h (h' := h_1) eh_1.symm ?_
    have f_2 : h_1 a = some ((5, w), .inr (3, [.ref (D.1 200), .int (iZ (L.length)), .int (iZ (mc + 1))])) := by rw [eh_1]; exact g_us
    have hk_3 := kp_up (kp_rf (P := P_AL a) (h := h)) eh_1 fA (Or.inl rfl)
    refine g_1 (fun w => lv_aload_n X.1 X.2.1 d_AL_clear_10 rfl (lv_at hl 0 rfl) w) ?_
    refine g_get X (ci := 3) rfl f_2 0 (by decide) ⟨rfl, rfl⟩ tw_43 (Or.inl rfl) rfl d_AL_clear_11 ?_
    refine g_s (fun kk => lv_astore_n (lv' := [(1, .ref (D.1 200)), (0, .ref a)]) X.1 X.2.1 d_AL_clear_14 rfl hl (by decide) rfl kk) (fun ls hl => ?_)
    refine g_1 (fun w => lv_aload_n X.1 X.2.1 d_AL_clear_15 rfl (lv_at hl 1 rfl) w) ?_
    refine g_get X (ci := 3) rfl f_2 1 (by decide) ⟨rfl, rfl⟩ tw_44 (Or.inl rfl) rfl d_AL_clear_16 ?_
    refine g_s (fun kk => lv_istore_n (lv' := [(2, .int (iZ (L.length))), (1, .ref (D.1 200)), (0, .ref a)]) X.1 X.2.1 d_AL_clear_19 rfl hl (by decide) rfl kk) (fun ls hl => ?_)
    refine g_1 (fun w => lv_aload_n X.1 X.2.1 d_AL_clear_20 rfl (lv_at hl 2 rfl) w) ?_
    refine g_1 (fun w => lv_iconst (v := iZ 0) X.1 X.2.1 d_AL_clear_21 rfl w) ?_
    refine g_1 (fun w => lv_dup_x1 X.1 X.2.1 d_AL_clear_22 rfl rfl w) ?_
    refine g_put X (ci := 3) rfl f_2 (Nat.succ_ne_zero _) 1 (by decide) ⟨rfl, rfl⟩ tw_44 (Or.inl rfl) rfl rfl rfl (Nat.le_of_ble_eq_true rfl) d_AL_clear_23 ?_
    obtain ⟨h_4, eh_4⟩ : ∃ z, z = g_up h_1 a ((5, w), .inr (3, [.ref (D.1 200), .int (iZ (0)), .int (iZ (mc + 1))])) := ⟨_, rfl⟩
    refine g_h (h' := h_4) eh_4.symm ?_
    have f_5 : h_4 a = some ((5, w), .inr (3, [.ref (D.1 200), .int (iZ (0)), .int (iZ (mc + 1))])) := by rw [eh_4]; exact g_us
    have hk_6 := kp_up (hk_3) eh_4 f_2 (Or.inl rfl)
    refine g_s (fun kk => lv_istore_n (lv' := [(3, .int (iZ (0))), (2, .int (iZ (L.length))), (1, .ref (D.1 200)), (0, .ref a)]) X.1 X.2.1 d_AL_clear_26 rfl hl (by decide) rfl kk) (fun ls hl => ?_)
    refine g_1 (fun w => lv_iload_n X.1 X.2.1 d_AL_clear_27 rfl (lv_at hl 0 rfl) w) ?_
    refine g_1 (fun w => lv_iload_n X.1 X.2.1 d_AL_clear_28 rfl (lv_at hl 1 rfl) w) ?_
    refine g_icmp_ge (tgt := 42) X (⟨by omega, by omega⟩) (⟨by omega, by omega⟩) d_AL_clear_29 (by decide) (fun c29 => ?_) (fun c29 => ?_)
    · exact g_vret X (⟨rfl, ⟨_, _, f_5, Or.inl ⟨rfl, rfl⟩⟩, hk_6⟩) (by decide) (by decide) d_AL_clear_42
    · exfalso
      omega
  · have loop : ∀ (d i : Nat) (hh : gH) (ff : Nat → Option Nat) (ls : Array Slot), i + d = L.length → hh a = some ((5, w), .inr (3, [.ref e0, .int (iZ (0)), .int (iZ (mc + 1))])) → hh e0 = some ((14, a), gO D cap (ff)) → kp (P_AL a) h hh → lv_has ls 4 [(3, .int (iZ (i))), (2, .int (iZ (L.length))), (1, .ref e0), (0, .ref a)] → G D s0 p l e ({ frames := 0, cells := 0, slots := 0, locals := 0 } : Room) s m ([.ref a] : List Value).toArray below meth c hh 0 0 (MQ below (gQ D s0 (fun v h' => none = v ∧ isAL D h' a w [] ∧ kp (P_AL a) h h')) ([.ref a] : List Value).toArray s 0 0 (fun q => s0.heap.size ≤ q)) (F0 m 27 ls []) := by
      intro d
      induction d with
      | zero =>
        intro i hh ff ls hi gA gE_ hkk hl
        refine g_1 (fun w => lv_iload_n X.1 X.2.1 d_AL_clear_27 rfl (lv_at hl 0 rfl) w) ?_
        refine g_1 (fun w => lv_iload_n X.1 X.2.1 d_AL_clear_28 rfl (lv_at hl 1 rfl) w) ?_
        refine g_icmp_ge (tgt := 42) X (⟨by omega, by omega⟩) (⟨by omega, by omega⟩) d_AL_clear_29 (by decide) (fun c29 => ?_) (fun c29 => ?_)
        · exact g_vret X (⟨rfl, ⟨e0, _, gA, Or.inr ⟨cap, ff, gE_, hc1, hc2, Nat.zero_le _, fun j hj => absurd hj (Nat.not_lt_zero _)⟩⟩, hkk⟩) (by decide) (by decide) d_AL_clear_42
        · exfalso
          omega
      | succ d ih =>
        intro i hh ff ls hi gA gE_ hkk hl
        refine g_1 (fun w => lv_iload_n X.1 X.2.1 d_AL_clear_27 rfl (lv_at hl 0 rfl) w) ?_
        refine g_1 (fun w => lv_iload_n X.1 X.2.1 d_AL_clear_28 rfl (lv_at hl 1 rfl) w) ?_
        refine g_icmp_ge (tgt := 42) X (⟨by omega, by omega⟩) (⟨by omega, by omega⟩) d_AL_clear_29 (by decide) (fun c29 => ?_) (fun c29 => ?_)
        · exfalso
          omega
        · refine g_1 (fun w => lv_aload_n X.1 X.2.1 d_AL_clear_32 rfl (lv_at hl 2 rfl) w) ?_
          refine g_1 (fun w => lv_iload_n X.1 X.2.1 d_AL_clear_33 rfl (lv_at hl 0 rfl) w) ?_
          refine g_1 (fun w => lv_null X.1 X.2.1 d_AL_clear_34 w) ?_
          refine g_astN X gE_ (Nat.succ_ne_zero _) (i) (rfl) (by omega) (by omega) d_AL_clear_35 ?_
          obtain ⟨h_1, eh_1⟩ : ∃ z, z = g_up hh e0 ((14, a), gO D cap (va_up (ff) (i) (none))) := ⟨_, rfl⟩
          refine g_h (h' := h_1) eh_1.symm ?_
          have f_2 : h_1 a = some ((5, w), .inr (3, [.ref e0, .int (iZ (0)), .int (iZ (mc + 1))])) := by rw [eh_1]; exact g_uk gA gE_ (show (5 : Nat) ≠ 14 by decide)
          have f_3 : h_1 e0 = some ((14, a), gO D cap (va_up (ff) (i) (none))) := by rw [eh_1]; exact g_us
          have hk_4 := kp_up (hkk) eh_1 gE_ (Or.inr rfl)
          refine g_s (fun kk => lv_iinc (v := iZ (i + 1)) (lv' := [(3, .int (iZ (i + 1))), (2, .int (iZ (L.length))), (1, .ref e0), (0, .ref a)]) X.1 X.2.1 d_AL_clear_36 hl (k := 0) rfl (iZ_add _ _) (by decide) rfl kk) (fun ls hl => ?_)
          refine g_goto (tgt := 27) X d_AL_clear_39 (by decide) ?_
          exact ih (i + 1) h_1 _ ls (by omega) f_2 f_3 hk_4 (lv_sub hl [0, 1, 2, 3] rfl)
    refine g_1 (fun w => lv_aload_n X.1 X.2.1 d_AL_clear_0 rfl (lv_at hl 0 rfl) w) ?_
    refine g_1 (fun w => lv_dup X.1 X.2.1 d_AL_clear_1 rfl w) ?_
    refine g_get X (ci := 3) rfl fA 2 (by decide) ⟨rfl, rfl⟩ tw_46 (Or.inr tw_47) rfl d_AL_clear_2 ?_
    refine g_1 (fun w => lv_iconst (v := iZ 1) X.1 X.2.1 d_AL_clear_5 rfl w) ?_
    refine g_iadd X d_AL_clear_6 ?_
    refine g_put X (ci := 3) rfl fA (Nat.succ_ne_zero _) 2 (by decide) ⟨rfl, rfl⟩ tw_46 (Or.inr tw_47) rfl rfl rfl (Nat.le_of_ble_eq_true rfl) d_AL_clear_7 ?_
    obtain ⟨h_1, eh_1⟩ : ∃ z, z = g_up h a ((5, w), .inr (3, [.ref e0, .int (iZ (L.length)), .int (iZ (mc + 1))])) := ⟨_, rfl⟩
    refine g_h (h' := h_1) eh_1.symm ?_
    have f_2 : h_1 a = some ((5, w), .inr (3, [.ref e0, .int (iZ (L.length)), .int (iZ (mc + 1))])) := by rw [eh_1]; exact g_us
    have f_3 : h_1 e0 = some ((14, a), gO D cap (f)) := by rw [eh_1]; exact g_uk fE fA (show (14 : Nat) ≠ 5 by decide)
    have hk_4 := kp_up (kp_rf (P := P_AL a) (h := h)) eh_1 fA (Or.inl rfl)
    refine g_1 (fun w => lv_aload_n X.1 X.2.1 d_AL_clear_10 rfl (lv_at hl 0 rfl) w) ?_
    refine g_get X (ci := 3) rfl f_2 0 (by decide) ⟨rfl, rfl⟩ tw_43 (Or.inl rfl) rfl d_AL_clear_11 ?_
    refine g_s (fun kk => lv_astore_n (lv' := [(1, .ref e0), (0, .ref a)]) X.1 X.2.1 d_AL_clear_14 rfl hl (by decide) rfl kk) (fun ls hl => ?_)
    refine g_1 (fun w => lv_aload_n X.1 X.2.1 d_AL_clear_15 rfl (lv_at hl 1 rfl) w) ?_
    refine g_get X (ci := 3) rfl f_2 1 (by decide) ⟨rfl, rfl⟩ tw_44 (Or.inl rfl) rfl d_AL_clear_16 ?_
    refine g_s (fun kk => lv_istore_n (lv' := [(2, .int (iZ (L.length))), (1, .ref e0), (0, .ref a)]) X.1 X.2.1 d_AL_clear_19 rfl hl (by decide) rfl kk) (fun ls hl => ?_)
    refine g_1 (fun w => lv_aload_n X.1 X.2.1 d_AL_clear_20 rfl (lv_at hl 2 rfl) w) ?_
    refine g_1 (fun w => lv_iconst (v := iZ 0) X.1 X.2.1 d_AL_clear_21 rfl w) ?_
    refine g_1 (fun w => lv_dup_x1 X.1 X.2.1 d_AL_clear_22 rfl rfl w) ?_
    refine g_put X (ci := 3) rfl f_2 (Nat.succ_ne_zero _) 1 (by decide) ⟨rfl, rfl⟩ tw_44 (Or.inl rfl) rfl rfl rfl (Nat.le_of_ble_eq_true rfl) d_AL_clear_23 ?_
    obtain ⟨h_5, eh_5⟩ : ∃ z, z = g_up h_1 a ((5, w), .inr (3, [.ref e0, .int (iZ (0)), .int (iZ (mc + 1))])) := ⟨_, rfl⟩
    refine g_h (h' := h_5) eh_5.symm ?_
    have f_6 : h_5 a = some ((5, w), .inr (3, [.ref e0, .int (iZ (0)), .int (iZ (mc + 1))])) := by rw [eh_5]; exact g_us
    have f_7 : h_5 e0 = some ((14, a), gO D cap (f)) := by rw [eh_5]; exact g_uk f_3 f_2 (show (14 : Nat) ≠ 5 by decide)
    have hk_8 := kp_up (hk_4) eh_5 f_2 (Or.inl rfl)
    refine g_s (fun kk => lv_istore_n (lv' := [(3, .int (iZ (0))), (2, .int (iZ (L.length))), (1, .ref e0), (0, .ref a)]) X.1 X.2.1 d_AL_clear_26 rfl hl (by decide) rfl kk) (fun ls hl => ?_)
    exact loop L.length 0 h_5 _ ls (by omega) f_6 f_7 hk_8 (lv_sub hl [0, 1, 2, 3] rfl)
end
section
/-! EXCEPTIONS: a walk begun anew in the middle of a method; a method that throws; a call that may throw; the handler -/
theorem gs_base {T U : State} {fs : List Frame} {locs : List Loc} {k n : Nat} : (T.setFrames fs).sameButNew U locs k n ↔ T.sameButNew U locs k n := by
  unfold State.sameButNew
  rw [State.setFrames_setFrames]
  exact Iff.rfl
theorem gs_rebase {p : Program} {l : Launch} {e : Env} {R : Room} {s : State} {m : MethodId} {args : Array Value} {below : List Frame} {meth : Method} {c : Code} {T : State} {locs : List Loc} {cells slots : Nat} (X : Stand p l e R s m args below meth c T locs cells slots) {R' : Room} (h1 : R'.frames ≤ R.frames) (h2 : R'.locals ≤ R.locals) (h3 : cells + R'.cells ≤ R.cells) (h4 : slots + R'.slots ≤ R.slots) :
    Stand p l e R' (T.setFrames (.invoking m args :: below)) m args below meth c T [] 0 0 := by
  obtain ⟨g₀, hfr⟩ := X.frames_eq
  have hcur : T.cur < T.threads.size := State.cur_lt_of_frames hfr
  have hff : (T.setFrames (.invoking m args :: below)).frames = .invoking m args :: below := State.frames_setFrames _ hcur
  obtain ⟨t, ht, -⟩ := State.frames_cons hfr
  refine ⟨X.admits, X.cas, X.clock, hff, ?_, ?_, X.method', X.code, X.here, X.tail, State.WarmedH.refl _, by rw [State.stackLimits_setFrames], by rw [State.stackBytes_setFrames], gs_base.mpr (State.sameButNew.refl T ht)⟩
  · have hr := X.room
    have hm : (T.setFrames (.invoking m args :: below)).vm.method? m = some meth := X.method'
    simp only [State.hasRoom, Bool.and_eq_true, decide_eq_true_eq] at hr ⊢
    rw [State.localsInUse_invoking X.frames X.method X.code] at hr
    rw [State.localsInUse_invoking hff hm X.code, hff, State.stackLimits_setFrames, X.limits, State.stackBytes_setFrames, X.bytes]
    rw [X.frames] at hr
    have a1 := X.heapSize
    have a2 := X.used
    have a3 : (T.setFrames (.invoking m args :: below)).heap.size = T.heap.size := rfl
    have a4 : (T.setFrames (.invoking m args :: below)).slotsUsed = T.slotsUsed := rfl
    obtain ⟨⟨⟨⟨r1, r2, r3, r4, r5, r6⟩, r7⟩, r8⟩, r9⟩ := hr
    exact ⟨⟨⟨⟨by omega, by omega, by omega, by omega, by omega, r6⟩, by omega⟩, by omega⟩, X.book⟩
  · have hh := X.hears
    have key : ∀ q : MethodId, T.vm.method? q = s.vm.method? q := fun q => by rw [X.warmed.alike.method?]
    rcases below with _ | ⟨y, r⟩
    · simp only [State.hears] at hh ⊢
      show ((T.setFrames _).vm.method? m).any _ = true
      rw [show (T.setFrames (.invoking m args :: [])).vm.method? m = s.vm.method? m from key m]
      exact hh
    · cases y
      case java g =>
        simp only [State.hears, State.code?_eq] at hh ⊢
        rw [show (T.setFrames (.invoking m args :: .java g :: r)).vm.method? g.method = s.vm.method? g.method from key _]
        exact hh
      case native g => rfl
      case proc g => rfl
      all_goals
        simp only [State.hears] at hh ⊢
        rw [show (T.setFrames _).vm.method? m = s.vm.method? m from key m]
        exact hh
/-- the end of a method that may throw -/
def FrameEndX (first : State) (t : State) (L : List Loc) (k n : Nat) : Prop := first.WarmedH t.vm ∧ first.sameButNew ({ t with vm := first.vm } : State) L k n
def MetX (l : Launch) (y : MethodName) (ws : List Cond) (rm : Room) (Pc : Array Value → State → Prop) (Qc : Array Value → State → Outcome → State → Prop) (mc ms : Nat) (free : Addr → Prop) : Prop :=
  MetFree l y (headSpec ws rm) Pc (fun _ _ _ _ _ => True) (fun a st o t => Qc a st o t ∧ ∃ L, FrameEndX st t L mc ms ∧ ∀ q ∈ L, free q.base)
def MQX (below : List Frame) (Qc : Array Value → State → Outcome → State → Prop) (a : Array Value) (s : State) (mc ms : Nat) (free : Addr → Prop) : State → Prop := fun t =>
  ∃ o, t.status = .running ∧ Ended t below o ∧ Qc a s o t ∧ ∃ L, FrameEndX s t L mc ms ∧ ∀ q ∈ L, free q.base
/-- the thrown object: an object of the class C, somewhere -/
def gTh (C : String) (a : Nat) (t : State) : Prop := ∃ cell : Cell, t.heap[a]? = some cell ∧ cell.vm.isStatics = false ∧ t.vm.findClass C = some cell.cls
def gXQ (D : va_G) (s0 : State) (Po : Option Value → gH → Prop) (Px : String → gH → Prop) : Array Value → State → Outcome → State → Prop := fun a s o t =>
  gQ D s0 Po a s o t ∨ ∃ (x : Nat) (C : String) (h' : gH), o = .threw x ∧ Px C h' ∧ g_M D s0 h' t.heap ∧ gTh C x t
def gMetX (D : va_G) (s0 : State) (l : Launch) (y : MethodName) (bytes : ByteArray) (maxL : Nat) (ret : Option FieldType) (rm : Room) (av : List Value) (h : gH) (Po : Option Value → gH → Prop) (Px : String → gH → Prop) : Prop :=
  MetX l y [.code y bytes maxL ret] rm (va_Pc av (fun U => g_M D s0 h U.heap ∧ s0.WarmedH U.vm)) (gXQ D s0 Po Px) rm.cells rm.slots (fun q => s0.heap.size ≤ q)
theorem g_enterX {D : va_G} {s0 : State} {l : Launch} {y : MethodName} {bytes : ByteArray} {maxL : Nat} {ret : Option FieldType} {rm : Room} {av : List Value} {h : gH} {Po : Option Value → gH → Prop} {Px : String → gH → Prop} (B0 : gB D s0) (hy : plainFor y = true) (hlen : (lg_sl av).length ≤ maxL)
    (body : ∀ (p : Program) (e : Env) (s : State) (m : MethodId) (below : List Frame) (meth : Method) (c : Code) (ls : Array Slot), gX D s0 y.cls bytes maxL ret p s m meth c → c.exceptionTable.isEmpty = true → meth.name = y.name → lv_has ls maxL (lv_args 0 av) →
      G D s0 p l e rm s m av.toArray below meth c h 0 0 (MQX below (gXQ D s0 Po Px) av.toArray s rm.cells rm.slots (fun q => s0.heap.size ≤ q)) (F0 m 0 ls [])) : gMetX D s0 l y bytes maxL ret rm av h Po Px := by
  unfold gMetX MetX
  refine MetFree.of_bodySF (code := bytes) (maxLocals := maxL) (ret := ret) hy ?_ ?_
  · intro args s m h hn
    obtain ⟨meth, c, h1, h2, h3, h4, h5, h6, -, -⟩ := Cond.code_spec hn (atoms_spec (ws := [Cond.code y bytes maxL ret]) h _ List.mem_cons_self)
    exact ⟨meth, c, h1, h2, h3, h4, h5, h6⟩
  · intro p e s m args below meth c s₁ B hml hP _
    obtain ⟨rfl, hM, hW⟩ := hP
    have hh0 : s₁.heap = s.heap := by rw [B.state]; rfl
    have hl := lv_entry av hlen
    have hb := body p e s m below meth c _ ⟨B.exec, B.bytes, hml, B.returns, B.notSynchronized, findClass_of_methodNamed B.named, hW, B0⟩ (B.noHandlers (atoms_spec (ws := [Cond.code y bytes maxL ret]) B.pre _ List.mem_cons_self)) (name_of_methodNamed B.named B.method).1 hl s.heap [] 0 0 hM (fun q hq => by cases hq) (Nat.le_refl 0) (Nat.le_refl 0)
    rw [lg_entry_eq]
    obtain ⟨t, a1, o, b1, b2, b3⟩ := hb s₁ hh0 (Stand.of_body B)
    exact ⟨t, o, a1, b1, b2, b3⟩
theorem g_q {D : va_G} {s0 : State} {p : Program} {l : Launch} {e : Env} {R : Room} {s : State} {m : MethodId} {args : Array Value} {below : List Frame} {meth : Method} {c : Code} {h : gH} {k n : Nat} {Q Q' : State → Prop} {g : JFrame} (hq : ∀ t, Q t → Q' t) (kk : G D s0 p l e R s m args below meth c h k n Q g) : G D s0 p l e R s m args below meth c h k n Q' g :=
  fun H locs cells slots hM hl h1 h2 T hT X => by
    obtain ⟨t, a, b⟩ := kk H locs cells slots hM hl h1 h2 T hT X
    exact ⟨t, a, hq t b⟩
/-- a plain return of a method that may throw -/
theorem g_rx {D : va_G} {s0 : State} {p : Program} {l : Launch} {e : Env} {R : Room} {s : State} {m : MethodId} {args : Array Value} {below : List Frame} {meth : Method} {c : Code} {h : gH} {k n mc ms : Nat} {Po : Option Value → gH → Prop} {Px : String → gH → Prop} {g : JFrame} (kk : G D s0 p l e R s m args below meth c h k n (MQ below (gQ D s0 Po) args s mc ms (fun q => s0.heap.size ≤ q)) g) :
    G D s0 p l e R s m args below meth c h k n (MQX below (gXQ D s0 Po Px) args s mc ms (fun q => s0.heap.size ≤ q)) g :=
  g_q (fun t ⟨o, q1, q2, q3, L, q4, q5⟩ => ⟨o, q1, q2, Or.inl q3, L, q4.2, q5⟩) kk
/-- words that hang on the cells of statics -/
theorem g_lsAt {C n d : String} {A A' : Array Value} {s U : State} (h : (Cond.laysStatic C n d).before A s = true) (hW : s.vm.Alike U.vm) (hH : ∀ (q : Nat) (c : Cell), s.heap[q]? = some c → U.heap[q]? = some c) : (Cond.laysStatic C n d).before A' U = true := by
  have h1 : (Cond.laysStatic C n d).value A (s.setVm U.vm) none (s.setVm U.vm) [] = some true := by
    rw [Cond.value_setVm hW _ _ rfl]
    simpa [Cond.before, Cond.holds] using h
  simp only [Cond.before, Cond.holds, Cond.value] at h1 ⊢
  have e1 : (s.setVm U.vm).vm.findClass C = U.vm.findClass C := rfl
  have e2 : (s.setVm U.vm).fieldFound? C n d = U.fieldFound? C n d := rfl
  rw [e1, e2] at h1
  cases hc : U.vm.findClass C with
  | none => rw [hc] at h1; simp at h1
  | some c =>
    cases hf : U.fieldFound? C n d with
    | none => rw [hc, hf] at h1; simp at h1
    | some x =>
      obtain ⟨c', k, i, f⟩ := x
      rw [hc, hf] at h1
      simp only at h1 ⊢
      cases hs : k.statics with
      | none => rw [hs] at h1; simp at h1
      | some a =>
        rw [hs] at h1
        simp only [Option.bind_some] at h1 ⊢
        cases hq : (s.setVm U.vm).heap[a]? with
        | none => rw [hq] at h1; simp at h1
        | some cell =>
          rw [hq] at h1
          rw [hH a cell hq]
          simpa using h1
theorem g_rsAt {C n d : String} {A A' : Array Value} {s U : State} (h : (Cond.isRef (.static C n d)).before A s = true) (hW : s.vm.Alike U.vm) (hH : ∀ (q : Nat) (c : Cell), s.heap[q]? = some c → U.heap[q]? = some c) : (Cond.isRef (.static C n d)).before A' U = true := by
  have h1 : (Cond.isRef (.static C n d)).value A (s.setVm U.vm) none (s.setVm U.vm) [] = some true := by
    rw [Cond.value_setVm hW _ _ rfl]
    simpa [Cond.before, Cond.holds] using h
  simp only [Cond.before, Cond.holds, Cond.value, Term.eval] at h1 ⊢
  have e2 : (s.setVm U.vm).fieldNamed? C n d true = U.fieldNamed? C n d true := rfl
  rw [e2] at h1
  cases hf : U.fieldNamed? C n d true with
  | none => rw [hf] at h1; simp at h1
  | some x =>
    obtain ⟨c', k, sl⟩ := x
    rw [hf] at h1
    simp only [Option.bind_eq_bind, Option.bind_some] at h1 ⊢
    cases hs : k.statics with
    | none => rw [hs] at h1; simp at h1
    | some a =>
      rw [hs] at h1
      simp only [Option.bind_some] at h1 ⊢
      cases hq : (s.setVm U.vm).heap[a]? with
      | none => rw [hq] at h1; simp at h1
      | some cell =>
        rw [hq] at h1
        rw [hH a cell hq]
        simpa using h1
end
section
/-! THE CLASS'S OWN THROW: new, dup, ldc, invokespecial, athrow -/
def g_nms : List String := ["java/lang/RuntimeException", "java/lang/Exception"]
def g_hs : List Cond := [.laysStatic "java/lang/Throwable" "UNASSIGNED_STACK" "[Ljava/lang/StackTraceElement;", .laysStatic "java/lang/Throwable" "SUPPRESSED_SENTINEL" "Ljava/util/List;", .isRef (.static "java/lang/Throwable" "UNASSIGNED_STACK" "[Ljava/lang/StackTraceElement;"), .isRef (.static "java/lang/Throwable" "SUPPRESSED_SENTINEL" "Ljava/util/List;")]
def g_oaB (ic : Nat) (C : String) : Bool := (Bundle.ownAtoms "LayerBudgets" ic C g_nms).all (fun w => (decide (w ∈ lw_tbl) && g_wk w) || decide (w ∈ g_hs))
theorem g_oa_IS : g_oaB 37 "java/lang/IllegalStateException" = true := by decide +kernel
theorem g_oa_IA : g_oaB 55 "java/lang/IllegalArgumentException" = true := by decide +kernel
theorem g_oa_IX : g_oaB 92 "java/lang/IndexOutOfBoundsException" = true := by decide +kernel
theorem g_cellEq {c c' : Cell} (h1 : c' = { c with slots := c'.slots }) (h2 : c'.slots.size = c.slots.size) (h3 : ∀ i : Nat, c'.slots[i]? = c.slots[i]?) : c' = c := by
  have e : c'.slots = c.slots := Array.ext_getElem? h3
  rw [e] at h1
  exact h1
theorem g_noTr {l : Launch} {e : Env} (ha : l.admits e) (hf : l.flags = flags0) : e.platform.stackTraces = false := by
  rw [ha.platform]
  show l.stackTraces = false
  unfold Launch.stackTraces
  rw [hf]
  decide +kernel
set_option maxHeartbeats 4000000 in
theorem g_throw {D : va_G} {s0 : State} {p : Program} {l : Launch} {e : Env} {R : Room} {s : State} {m : MethodId} {args : Array Value} {below : List Frame} {meth : Method} {c : Code} {h : gH} {k n mc ms : Nat} {cc : ByteArray} {nL : Nat} {ret : Option FieldType} {pc : Nat} {ls : Array Slot} {Po : Option Value → gH → Prop} {Px : String → gH → Prop}
    (X : gX D s0 "LayerBudgets" cc nL ret p s m meth c) (hfl : l.flags = flags0) (hxt : c.exceptionTable.isEmpty = true) {C tx : String} {i1 i2 i3 : Nat} (hoa : g_oaB i3 C = true) (hfit : Bundle.fit C = true) (w1 : Cond.classLink "LayerBudgets" i1 C ∈ lw_tbl) (w2 : Cond.instantiable C 6 ∈ lw_tbl) (w3 : Cond.initialized C ∈ lw_tbl) (hstr : (i2, tx) ∈ g_strs)
    (hp : Px C h) (hsz : ls.size = nL) (hfr : 5 < R.frames) (hlo : 82 ≤ R.locals) (hkc : k + 1 ≤ R.cells ∧ n + 6 ≤ R.slots) (hk : k + 1 ≤ mc ∧ n + 6 ≤ ms)
    (d0 : decode cc pc = .ok (.new i1, 3)) (d1 : decode cc (pc + 3) = .ok (.dup, 1)) (d2 : decode cc (pc + 3 + 1) = .ok (.ldc i2, 2)) (d3 : decode cc (pc + 3 + 1 + 2) = .ok (.invokespecial i3, 3)) (d4 : decode cc (pc + 3 + 1 + 2 + 3) = .ok (.athrow, 1)) :
    G D s0 p l e R s m args below meth c h k n (MQX below (gXQ D s0 Po Px) args s mc ms (fun q => s0.heap.size ≤ q)) (F0 m pc ls []) := by
  intro H locs cells slots hM hl h1 h2 T hT Y
  have Z := gs_rebase Y (R' := { frames := R.frames, cells := 1, slots := 6, locals := R.locals }) (Nat.le_refl _) (Nat.le_refl _) (show cells + 1 ≤ R.cells by omega) (show slots + 6 ≤ R.slots by omega)
  generalize hs' : T.setFrames (.invoking m args :: below) = s' at Z
  have hvm : s'.vm = T.vm := by rw [← hs']; rfl
  have hhp : s'.heap = T.heap := by rw [← hs']; rfl
  have X' : gX D s0 "LayerBudgets" cc nL ret p s' m meth c := ⟨X.1, X.2.1, X.2.2.1, X.2.2.2.1, X.2.2.2.2.1, by rw [hvm, Y.warmed.alike.findClass]; exact X.2.2.2.2.2.1, by rw [hvm]; exact State.WarmedH.trans X.2.2.2.2.2.2.1 Y.warmed, X.2.2.2.2.2.2.2⟩
  have hW' : s0.WarmedH s'.vm := X'.2.2.2.2.2.2.1
  have hB := X.2.2.2.2.2.2.2
  have hheap : ∀ (q : Nat) (c : Cell), s0.heap[q]? = some c → s'.heap[q]? = some c := fun q c hq => by
    rw [hhp, hT, hM.2.1 q (Array.getElem?_eq_some_iff.mp hq).1]
    exact hq
  have hat : ∀ w ∈ Bundle.ownAtoms "LayerBudgets" i3 C g_nms, w.before args s' = true := by
    intro w hw
    have hq := List.all_eq_true.mp hoa w hw
    rw [Bool.or_eq_true, Bool.and_eq_true, decide_eq_true_eq, decide_eq_true_eq] at hq
    rcases hq with ⟨a1, a2⟩ | a3
    · exact X'.w a1 a2
    · simp only [g_hs, List.mem_cons, List.not_mem_nil, or_false] at a3
      rcases a3 with rfl | rfl | rfl | rfl
      · exact g_lsAt (hB.1 _ tw_147) hW'.alike hheap
      · exact g_lsAt (hB.1 _ tw_149) hW'.alike hheap
      · exact g_rsAt (hB.2.2.2.2.2.2 _ (by simp [g_stw])) hW'.alike hheap
      · exact g_rsAt (hB.2.2.2.2.2.2 _ (by simp [g_stw])) hW'.alike hheap
  have hmsg : vk_R "LayerBudgets" i2 tx (D.1 (300 + i2)) s' := vk_R.warm hW' (hB.2.2.2.2.2.1 _ hstr)
  have K : W p l e ({ frames := R.frames, cells := 1, slots := 6, locals := R.locals } : Room) s' m args below meth c T.heap [] 0 0 (fun t => t.status = .running ∧ ∃ x, Ended t below (.threw x) ∧ s'.WarmedH t.vm ∧ s'.sameButNew ({ t with vm := s'.vm } : State) [] 1 6 ∧ gTh C x t) (F0 m pc ls []) := by
    refine W.newc X'.1 X'.2.1 X'.2.2.2.2.2.1 (X'.w w1 rfl) (X'.w w2 rfl) (X'.w w3 rfl) rfl d0 (Nat.le_refl 1) (Nat.le_refl 6) fun cC kC f1 f2 f3 f4 => ?_
    refine lv_dup X'.1 X'.2.1 d1 rfl ?_
    refine va_ldcS X'.1 X'.2.1 X'.2.2.2.2.2.1 hmsg d2 ?_
    intro T2 hT2 Y2
    obtain ⟨U, st, hrun, hend, hWU, hsame, ce, hce, hoc⟩ := Y2.ctorThrowS (cls := C) (names := g_nms) (ic := i3) X'.1 (g_noTr Y.admits hfl) X'.2.2.2.2.2.1 hfit (by decide +kernel) hat (fun x hx => by cases hx) (a := T.heap.size) f1 f2 (by rw [hT2]; exact Array.getElem?_push_size) (by rw [hhp]; exact Nat.le_refl _) (msg := .ref (D.1 (300 + i2))) rfl (g := F0 m (pc + 3 + 1 + 2) ls [.ref (D.1 (300 + i2)), .ref T.heap.size, .ref T.heap.size]) rfl (by rw [X.2.2.1]; exact hsz) rfl rfl (rest := []) rfl (by rw [X.2.1]; exact d3) (by rw [X.2.1]; exact d4) (fun x hx => by
        have he : c.exceptionTable = #[] := by simpa using hxt
        rw [he] at hx
        cases hx) (show 2 + 3 < R.frames by omega) (show 2 * 0 + (1 + 0) + (13 * (2 + 1) + 42) ≤ R.locals by omega) X.2.2.2.2.1
    exact ⟨U, st, hrun, _, hend, hWU, hsame, ce, hce, by rw [hoc.vm]; rfl, by rw [hWU.alike.findClass]; exact hoc.cls⟩
  obtain ⟨t, st, hrun, x, hend, hw, hsame, hth⟩ := K T rfl Z
  have hsame' : T.sameButNew (t.setVm T.vm) [] 1 6 := by
    rw [← hs'] at hsame
    exact gs_base.mp hsame
  have hcells : ∀ (q : Nat) (c : Cell), T.heap[q]? = some c → t.heap[q]? = some c := fun q c hq => by
    obtain ⟨c', e1, e2, e3, e4⟩ := hsame'.2.2.2.2.2 q c hq
    have e1' : t.heap[q]? = some c' := e1
    rw [e1', g_cellEq e2 e3 (fun i => e4 i (fun z => by cases z))]
  have hz : T.heap.size ≤ t.heap.size := hsame'.2.1
  have hfin := (Y.same.trans (hsame'.setVm s.vm)).mono (show cells + 1 ≤ mc by omega) (show slots + 6 ≤ ms by omega)
  rw [List.append_nil] at hfin
  refine ⟨t, st, .threw x, hrun, hend, Or.inr ⟨x, C, h, rfl, hp, ?_, hth⟩, locs, ⟨State.WarmedH.trans Y.warmed (by rw [← hs'] at hw; exact hw), hfin⟩, hl⟩
  subst hT
  exact hM.more hz (fun q hq => by rw [hcells q _ (Array.getElem?_eq_getElem hq)]; exact (Array.getElem?_eq_getElem hq).symm)
end
section
/-! THE CLASS'S STATE: A: the blocks' addresses, bs: the blocks; Y: the layers' addresses, ys: the layers; pn: passes in all; tb: bytes taken -/
def isLB (D : va_G) (h : gH) (x : Nat) (A : List Nat) (bs : Nat → Blk) (Y : List Nat) (ys : Nat → Lay) (pn tb : Int) : Prop :=
  ∃ bl yl : Nat, h x = some ((3, 0), .inr (0, [.ref bl, .ref yl, .int (iZ pn), .int (iZ tb)])) ∧ isAL D h bl 0 A ∧ isAL D h yl 1 Y ∧ (∀ i, i < A.length → isBk D h (A.getD i 0) (bs i)) ∧ (∀ i, i < Y.length → isLy D h (Y.getD i 0) (ys i)) ∧ A.Nodup ∧ Y.Nodup
/-- all cells of the class's side -/
def P_LB : Nat → Nat × Nat → Prop := fun _ t => 1 ≤ t.1 ∧ t.1 ≤ 19
theorem isAL.kp {D : va_G} {h h' : gH} {a w : Nat} {L : List Nat} {P : Nat → Nat × Nat → Prop} (ha : isAL D h a w L) (hk : kp P h h') (h1 : ¬ P a (5, w)) (h2 : ∀ q, ¬ P q (14, a)) : isAL D h' a w L := by
  obtain ⟨e, mc, f1, hc⟩ := ha
  refine ⟨e, mc, hk _ _ f1 h1, ?_⟩
  rcases hc with z | ⟨cap, f, z1, z2⟩
  · exact Or.inl z
  · exact Or.inr ⟨cap, f, hk _ _ z1 (h2 _), z2⟩
theorem isLy.kp {D : va_G} {h h' : gH} {a : Nat} {y : Lay} {P : Nat → Nat × Nat → Prop} (ha : isLy D h a y) (hk : kp P h h') (h1 : ¬ P a (2, 0)) (h2 : ∀ q, ¬ P q (15, a)) : isLy D h' a y := by
  obtain ⟨p1, f1, f2⟩ := ha
  exact ⟨p1, hk _ _ f1 h1, hk _ _ f2 (h2 _)⟩
theorem kpB_LB {D : va_G} {h h' : gH} {a : Nat} {b : Blk} (hb : isBk D h a b) (hk : kp (P_Bk a) h h') : kp P_LB h h' := by
  intro q z hq hn
  refine hk q z hq (fun y => ?_)
  rcases y with y | ⟨-, y1, y2⟩
  · obtain ⟨p1, p2, p3, fA, -⟩ := hb
    subst y
    cases fA.symm.trans hq
    exact hn ⟨Nat.le_of_ble_eq_true rfl, Nat.le_of_ble_eq_true rfl⟩
  · exact hn ⟨by omega, by omega⟩
theorem kpA_LB {D : va_G} {h h' : gH} {a w : Nat} {L : List Nat} (hb : isAL D h a w L) (hk : kp (P_AL a) h h') : kp P_LB h h' := by
  intro q z hq hn
  refine hk q z hq (fun y => ?_)
  rcases y with y | y
  · obtain ⟨e, mc, fA, -⟩ := hb
    subst y
    cases fA.symm.trans hq
    exact hn ⟨Nat.le_of_ble_eq_true rfl, Nat.le_of_ble_eq_true rfl⟩
  · exact hn ⟨by rw [y]; exact Nat.le_of_ble_eq_true rfl, by rw [y]; exact Nat.le_of_ble_eq_true rfl⟩
theorem isBk.ne {D : va_G} {h : gH} {a q : Nat} {b : Blk} {x : gE} (hb : isBk D h a b) (hq : h q = some x) (ht : x.1.1 ≠ 1) : q ≠ a := by
  obtain ⟨p1, p2, p3, fA, -⟩ := hb
  exact g_ne hq fA ht
theorem getD_inj {A : List Nat} (hn : A.Nodup) {i j : Nat} (hi : i < A.length) (hj : j < A.length) (e : A.getD i 0 = A.getD j 0) : i = j := by
  rw [List.getD_eq_getElem?_getD, List.getD_eq_getElem?_getD, List.getElem?_eq_getElem hi, List.getElem?_eq_getElem hj] at e
  exact (List.getElem_inj hn).mp e
theorem getD_mem {A : List Nat} {i : Nat} (hi : i < A.length) : A.getD i 0 ∈ A := by
  rw [List.getD_eq_getElem?_getD, List.getElem?_eq_getElem hi]
  exact List.getElem_mem hi
theorem isLB.congr {D : va_G} {h : gH} {x : Nat} {A Y : List Nat} {bs bs2 : Nat → Blk} {ys : Nat → Lay} {pn tb : Int} (hx : isLB D h x A bs Y ys pn tb) (hb : ∀ i, i < A.length → bs i = bs2 i) : isLB D h x A bs2 Y ys pn tb := by
  obtain ⟨bl, yl, f, hA, hY, h1, h2, h3, h4⟩ := hx
  exact ⟨bl, yl, f, hA, hY, fun i hi => by rw [← hb i hi]; exact h1 i hi, h2, h3, h4⟩
/-- one block has changed -/
theorem isLB.setB {D : va_G} {h h' : gH} {x i : Nat} {A Y : List Nat} {bs : Nat → Blk} {ys : Nat → Lay} {pn tb : Int} {b' : Blk} (hx : isLB D h x A bs Y ys pn tb) (hi : i < A.length) (hb : isBk D h' (A.getD i 0) b') (hk : kp (P_Bk (A.getD i 0)) h h') : isLB D h' x A (va_up bs i b') Y ys pn tb := by
  obtain ⟨bl, yl, fX, hA, hY, h1, h2, h3, h4⟩ := hx
  have hbi := h1 i hi
  have np : ∀ (q : Nat) (t : Nat × Nat) (e : va_E), h q = some (t, e) → t.1 ≠ 1 → (t.1 < 11 ∨ 13 < t.1) → ¬ P_Bk (A.getD i 0) q t := by
    intro q t e hq h5 h6 z
    rcases z with z | ⟨-, z1, z2⟩
    · exact hbi.ne hq h5 z
    · omega
  refine ⟨bl, yl, hk _ _ fX (np _ _ _ fX (show (3 : Nat) ≠ 1 by decide) (Or.inl (show (3 : Nat) < 11 by decide))), ?_, ?_, ?_, ?_, h3, h4⟩
  · obtain ⟨e, mc, f1, hc⟩ := hA
    refine ⟨e, mc, hk _ _ f1 (np _ _ _ f1 (show (5 : Nat) ≠ 1 by decide) (Or.inl (show (5 : Nat) < 11 by decide))), ?_⟩
    rcases hc with z | ⟨cap, f, z1, z2⟩
    · exact Or.inl z
    · exact Or.inr ⟨cap, f, hk _ _ z1 (np _ _ _ z1 (show (14 : Nat) ≠ 1 by decide) (Or.inr (show (13 : Nat) < 14 by decide))), z2⟩
  · obtain ⟨e, mc, f1, hc⟩ := hY
    refine ⟨e, mc, hk _ _ f1 (np _ _ _ f1 (show (5 : Nat) ≠ 1 by decide) (Or.inl (show (5 : Nat) < 11 by decide))), ?_⟩
    rcases hc with z | ⟨cap, f, z1, z2⟩
    · exact Or.inl z
    · exact Or.inr ⟨cap, f, hk _ _ z1 (np _ _ _ z1 (show (14 : Nat) ≠ 1 by decide) (Or.inr (show (13 : Nat) < 14 by decide))), z2⟩
  · intro j hj
    by_cases hij : j = i
    · subst hij
      rw [va_up_self]
      exact hb
    · rw [va_up_ne _ _ hij]
      obtain ⟨q1, q2, q3, gA, gB, gG, gC⟩ := h1 j hj
      have hne : A.getD j 0 ≠ A.getD i 0 := fun z => hij (getD_inj h3 hj hi z)
      refine ⟨q1, q2, q3, hk _ _ gA ?_, hk _ _ gB ?_, hk _ _ gG ?_, hk _ _ gC ?_⟩
      · rintro (z | ⟨-, z, -⟩)
        · exact hne z
        · exact absurd z (show ¬ (11 : Nat) ≤ 1 by decide)
      · rintro (z | ⟨z, -⟩)
        · exact hbi.ne gB (show (11 : Nat) ≠ 1 by decide) z
        · exact hne z
      · rintro (z | ⟨z, -⟩)
        · exact hbi.ne gG (show (12 : Nat) ≠ 1 by decide) z
        · exact hne z
      · rintro (z | ⟨z, -⟩)
        · exact hbi.ne gC (show (13 : Nat) ≠ 1 by decide) z
        · exact hne z
  · intro j hj
    obtain ⟨p1, f1, f2⟩ := h2 j hj
    exact ⟨p1, hk _ _ f1 (np _ _ _ f1 (show (2 : Nat) ≠ 1 by decide) (Or.inl (show (2 : Nat) < 11 by decide))), hk _ _ f2 (np _ _ _ f2 (show (15 : Nat) ≠ 1 by decide) (Or.inr (show (13 : Nat) < 15 by decide)))⟩
end
section
theorem if_1 {p : Prop} [Decidable p] (h : (if p then (1 : Int) else 0) ≠ 0) : p := by
  rcases Classical.em p with z | z
  · exact z
  · rw [if_neg z] at h; exact absurd rfl h
theorem if_0 {p : Prop} [Decidable p] (h : (if p then (1 : Int) else 0) = 0) : ¬ p := by
  intro z
  rw [if_pos z] at h
  exact absurd h (by decide)

set_option maxHeartbeats 4000000 in
set_option maxRecDepth 100000 in
theorem c_LB_hasBlock {D : va_G} {s0 : State} {l : Launch} {h : gH} (B0 : gB D s0) {x : Nat} {A Y : List Nat} {bs : Nat → Blk} {ys : Nat → Lay} {pn tb : Int} (hx : isLB D h x A bs Y ys pn tb) (hAl : A.length ≤ 1024) (hYl : Y.length ≤ 64) {i : Int} (hi : i_ok i) : gMet D s0 l y_LB_hasBlock b_LB_hasBlock 2 (some .boolean) ({ frames := 1, cells := 0, slots := 0, locals := 20 } : Room) [.ref x, .int (iZ (i))] h (fun v h' => some (.int (iZ (if 0 ≤ i ∧ i < A.length then 1 else 0))) = v ∧ h = h') := by
  obtain ⟨bl, yl, fX, hA, hY, hbs, hys, hnd, hnd2⟩ := id hx
  obtain ⟨eb, mb, fbl, -⟩ := id hA
  obtain ⟨ey, my, fyl, -⟩ := id hY
  obtain ⟨hi1, hi2⟩ := id hi
  refine g_enter B0 (plainFor_of_name (by decide)) (Nat.le_of_ble_eq_true rfl) (fun p e s m below meth c ls X hnm hl => ?_)
  have hl : lv_has ls 2 [(0, .ref x), (1, .int (iZ (i)))] := hl
  refine g_1 (fun w => lv_iload_n X.1 X.2.1 d_LB_hasBlock_0 rfl (lv_at hl 1 rfl) w) ?_
  refine g_if_lt (tgt := 19) X (by first | (split <;> exact ⟨by omega, by omega⟩) | exact ⟨by omega, by omega⟩ | exact cmpZ_ok _ _) d_LB_hasBlock_1 (by decide) (fun c1 => ?_) (fun c1 => ?_)
  · refine g_1 (fun w => lv_iconst (v := iZ 0) X.1 X.2.1 d_LB_hasBlock_19 rfl w) ?_
    exact g_zret X rfl (⟨g_ei (by split <;> omega), rfl⟩) (by decide) (by decide) d_LB_hasBlock_20
  · refine g_1 (fun w => lv_iload_n X.1 X.2.1 d_LB_hasBlock_4 rfl (lv_at hl 1 rfl) w) ?_
    refine g_1 (fun w => lv_aload_n X.1 X.2.1 d_LB_hasBlock_5 rfl (lv_at hl 0 rfl) w) ?_
    refine g_get X (ci := 0) rfl fX 0 (by decide) ⟨rfl, rfl⟩ tw_55 (Or.inl rfl) rfl d_LB_hasBlock_6 ?_
    refine g_callV (na := 0) X (c_AL_size B0 hA) rfl fbl rfl ⟨⟨tw_87, tw_4⟩, ⟨by decide, by decide, by decide +kernel⟩, by decide, by decide⟩ tw_84 tw_85 tw_86 rfl hl.1 (Nat.le_of_ble_eq_true rfl) ⟨by decide, by decide⟩ d_LB_hasBlock_9 (fun v h' hp => ?_)
    obtain ⟨rfl, rfl⟩ := hp
    refine g_widen (k' := 0) (n' := 0) (by decide) (by decide) ?_
    show G D s0 p l e _ s m _ below meth c h _ _ _ (F0 m 12 ls [.int (iZ (A.length)), .int (iZ (i))])
    refine g_icmp_ge (tgt := 19) X (by first | (split <;> exact ⟨by omega, by omega⟩) | exact ⟨by omega, by omega⟩ | exact cmpZ_ok _ _) (by first | (split <;> exact ⟨by omega, by omega⟩) | exact ⟨by omega, by omega⟩ | exact cmpZ_ok _ _) d_LB_hasBlock_12 (by decide) (fun c12 => ?_) (fun c12 => ?_)
    · refine g_1 (fun w => lv_iconst (v := iZ 0) X.1 X.2.1 d_LB_hasBlock_19 rfl w) ?_
      exact g_zret X rfl (⟨g_ei (by split <;> omega), rfl⟩) (by decide) (by decide) d_LB_hasBlock_20
    · refine g_1 (fun w => lv_iconst (v := iZ 1) X.1 X.2.1 d_LB_hasBlock_15 rfl w) ?_
      refine g_goto (tgt := 20) X d_LB_hasBlock_16 (by decide) ?_
      exact g_zret X rfl (⟨g_ei (by split <;> omega), rfl⟩) (by decide) (by decide) d_LB_hasBlock_20

set_option maxHeartbeats 4000000 in
set_option maxRecDepth 100000 in
theorem c_LB_hasLayer {D : va_G} {s0 : State} {l : Launch} {h : gH} (B0 : gB D s0) {x : Nat} {A Y : List Nat} {bs : Nat → Blk} {ys : Nat → Lay} {pn tb : Int} (hx : isLB D h x A bs Y ys pn tb) (hAl : A.length ≤ 1024) (hYl : Y.length ≤ 64) {i : Int} (hi : i_ok i) : gMet D s0 l y_LB_hasLayer b_LB_hasLayer 2 (some .boolean) ({ frames := 1, cells := 0, slots := 0, locals := 20 } : Room) [.ref x, .int (iZ (i))] h (fun v h' => some (.int (iZ (if 0 ≤ i ∧ i < Y.length then 1 else 0))) = v ∧ h = h') := by
  obtain ⟨bl, yl, fX, hA, hY, hbs, hys, hnd, hnd2⟩ := id hx
  obtain ⟨eb, mb, fbl, -⟩ := id hA
  obtain ⟨ey, my, fyl, -⟩ := id hY
  obtain ⟨hi1, hi2⟩ := id hi
  refine g_enter B0 (plainFor_of_name (by decide)) (Nat.le_of_ble_eq_true rfl) (fun p e s m below meth c ls X hnm hl => ?_)
  have hl : lv_has ls 2 [(0, .ref x), (1, .int (iZ (i)))] := hl
  refine g_1 (fun w => lv_iload_n X.1 X.2.1 d_LB_hasLayer_0 rfl (lv_at hl 1 rfl) w) ?_
  refine g_if_lt (tgt := 19) X (by first | (split <;> exact ⟨by omega, by omega⟩) | exact ⟨by omega, by omega⟩ | exact cmpZ_ok _ _) d_LB_hasLayer_1 (by decide) (fun c1 => ?_) (fun c1 => ?_)
  · refine g_1 (fun w => lv_iconst (v := iZ 0) X.1 X.2.1 d_LB_hasLayer_19 rfl w) ?_
    exact g_zret X rfl (⟨g_ei (by split <;> omega), rfl⟩) (by decide) (by decide) d_LB_hasLayer_20
  · refine g_1 (fun w => lv_iload_n X.1 X.2.1 d_LB_hasLayer_4 rfl (lv_at hl 1 rfl) w) ?_
    refine g_1 (fun w => lv_aload_n X.1 X.2.1 d_LB_hasLayer_5 rfl (lv_at hl 0 rfl) w) ?_
    refine g_get X (ci := 0) rfl fX 1 (by decide) ⟨rfl, rfl⟩ tw_56 (Or.inl rfl) rfl d_LB_hasLayer_6 ?_
    refine g_callV (na := 0) X (c_AL_size B0 hY) rfl fyl rfl ⟨⟨tw_87, tw_4⟩, ⟨by decide, by decide, by decide +kernel⟩, by decide, by decide⟩ tw_84 tw_85 tw_86 rfl hl.1 (Nat.le_of_ble_eq_true rfl) ⟨by decide, by decide⟩ d_LB_hasLayer_9 (fun v h' hp => ?_)
    obtain ⟨rfl, rfl⟩ := hp
    refine g_widen (k' := 0) (n' := 0) (by decide) (by decide) ?_
    show G D s0 p l e _ s m _ below meth c h _ _ _ (F0 m 12 ls [.int (iZ (Y.length)), .int (iZ (i))])
    refine g_icmp_ge (tgt := 19) X (by first | (split <;> exact ⟨by omega, by omega⟩) | exact ⟨by omega, by omega⟩ | exact cmpZ_ok _ _) (by first | (split <;> exact ⟨by omega, by omega⟩) | exact ⟨by omega, by omega⟩ | exact cmpZ_ok _ _) d_LB_hasLayer_12 (by decide) (fun c12 => ?_) (fun c12 => ?_)
    · refine g_1 (fun w => lv_iconst (v := iZ 0) X.1 X.2.1 d_LB_hasLayer_19 rfl w) ?_
      exact g_zret X rfl (⟨g_ei (by split <;> omega), rfl⟩) (by decide) (by decide) d_LB_hasLayer_20
    · refine g_1 (fun w => lv_iconst (v := iZ 1) X.1 X.2.1 d_LB_hasLayer_15 rfl w) ?_
      refine g_goto (tgt := 20) X d_LB_hasLayer_16 (by decide) ?_
      exact g_zret X rfl (⟨g_ei (by split <;> omega), rfl⟩) (by decide) (by decide) d_LB_hasLayer_20

set_option maxHeartbeats 4000000 in
set_option maxRecDepth 100000 in
theorem c_LB_layers {D : va_G} {s0 : State} {l : Launch} {h : gH} (B0 : gB D s0) {x : Nat} {A Y : List Nat} {bs : Nat → Blk} {ys : Nat → Lay} {pn tb : Int} (hx : isLB D h x A bs Y ys pn tb) (hAl : A.length ≤ 1024) (hYl : Y.length ≤ 64) : gMet D s0 l y_LB_layers b_LB_layers 1 (some .int) ({ frames := 1, cells := 0, slots := 0, locals := 20 } : Room) [.ref x] h (fun v h' => some (.int (iZ Y.length)) = v ∧ h = h') := by
  obtain ⟨bl, yl, fX, hA, hY, hbs, hys, hnd, hnd2⟩ := id hx
  obtain ⟨eb, mb, fbl, -⟩ := id hA
  obtain ⟨ey, my, fyl, -⟩ := id hY
  refine g_enter B0 (plainFor_of_name (by decide)) (Nat.le_of_ble_eq_true rfl) (fun p e s m below meth c ls X hnm hl => ?_)
  have hl : lv_has ls 1 [(0, .ref x)] := hl
  refine g_1 (fun w => lv_aload_n X.1 X.2.1 d_LB_layers_0 rfl (lv_at hl 0 rfl) w) ?_
  refine g_get X (ci := 0) rfl fX 1 (by decide) ⟨rfl, rfl⟩ tw_56 (Or.inl rfl) rfl d_LB_layers_1 ?_
  refine g_callV (na := 0) X (c_AL_size B0 hY) rfl fyl rfl ⟨⟨tw_87, tw_4⟩, ⟨by decide, by decide, by decide +kernel⟩, by decide, by decide⟩ tw_84 tw_85 tw_86 rfl hl.1 (Nat.le_of_ble_eq_true rfl) ⟨by decide, by decide⟩ d_LB_layers_4 (fun v h' hp => ?_)
  obtain ⟨rfl, rfl⟩ := hp
  refine g_widen (k' := 0) (n' := 0) (by decide) (by decide) ?_
  show G D s0 p l e _ s m _ below meth c h _ _ _ (F0 m 7 ls [.int (iZ (Y.length))])
  exact g_iret X (⟨rfl, rfl⟩) (by decide) (by decide) d_LB_layers_7

set_option maxHeartbeats 4000000 in
set_option maxRecDepth 100000 in
theorem c_LB_total {D : va_G} {s0 : State} {l : Launch} {h : gH} (B0 : gB D s0) (hfl : l.flags = flags0) {x : Nat} {A Y : List Nat} {bs : Nat → Blk} {ys : Nat → Lay} {pn tb : Int} (hx : isLB D h x A bs Y ys pn tb) (hAl : A.length ≤ 1024) (hYl : Y.length ≤ 64) {i : Int} (hi : i_ok i) : gMetX D s0 l y_LB_total b_LB_total 2 (some .int) ({ frames := 6, cells := 1, slots := 6, locals := 105 } : Room) [.ref x, .int (iZ (i))] h (fun v h' => ∃ j : Nat, (j : Int) = i ∧ j < Y.length ∧ some (.int (iZ (ys j).2.2.1)) = v ∧ h = h') (fun C h' => C = "java/lang/IndexOutOfBoundsException" ∧ ¬ (0 ≤ i ∧ i < Y.length) ∧ h = h') := by
  obtain ⟨bl, yl, fX, hA, hY, hbs, hys, hnd, hnd2⟩ := id hx
  obtain ⟨eb, mb, fbl, -⟩ := id hA
  obtain ⟨ey, my, fyl, -⟩ := id hY
  obtain ⟨hi1, hi2⟩ := id hi
  refine g_enterX B0 (plainFor_of_name (by decide)) (Nat.le_of_ble_eq_true rfl) (fun p e s m below meth c ls X hxt hnm hl => ?_)
  have hl : lv_has ls 2 [(0, .ref x), (1, .int (iZ (i)))] := hl
  refine g_1 (fun w => lv_aload_n X.1 X.2.1 d_LB_total_0 rfl (lv_at hl 0 rfl) w) ?_
  refine g_1 (fun w => lv_iload_n X.1 X.2.1 d_LB_total_1 rfl (lv_at hl 1 rfl) w) ?_
  refine g_callV (na := 1) X (c_LB_hasLayer B0 hx hAl hYl ⟨by omega, by omega⟩) rfl fX rfl ⟨⟨tw_479, tw_1⟩, ⟨by decide, by decide, by decide +kernel⟩, by decide, by decide⟩ tw_476 tw_478 ts_LB_hasLayer rfl hl.1 (Nat.le_of_ble_eq_true rfl) ⟨by decide, by decide⟩ d_LB_total_2 (fun v h' hp => ?_)
  obtain ⟨rfl, rfl⟩ := hp
  refine g_widen (k' := 0) (n' := 0) (by decide) (by decide) ?_
  show G D s0 p l e _ s m _ below meth c h _ _ _ (F0 m 5 ls [.int (iZ (if 0 ≤ i ∧ i < Y.length then 1 else 0))])
  refine g_if_ne (tgt := 18) X (by first | (split <;> exact ⟨by omega, by omega⟩) | exact ⟨by omega, by omega⟩ | exact cmpZ_ok _ _) d_LB_total_5 (by decide) (fun c5 => ?_) (fun c5 => ?_)
  · obtain ⟨yi, rfl, hyi⟩ : ∃ yi : Nat, (yi : Int) = i ∧ yi < Y.length := ⟨i.toNat, by have z := if_1 c5; omega, by have z := if_1 c5; omega⟩
    obtain ⟨q1, fy, fq⟩ := id (hys yi hyi)
    refine g_1 (fun w => lv_aload_n X.1 X.2.1 d_LB_total_18 rfl (lv_at hl 0 rfl) w) ?_
    refine g_get X (ci := 0) rfl fX 1 (by decide) ⟨rfl, rfl⟩ tw_56 (Or.inl rfl) rfl d_LB_total_19 ?_
    refine g_1 (fun w => lv_iload_n X.1 X.2.1 d_LB_total_22 rfl (lv_at hl 1 rfl) w) ?_
    refine g_callV (na := 1) X (c_AL_get B0 hY yi (by omega)) rfl fyl rfl ⟨⟨tw_91, tw_4⟩, ⟨by decide, by decide, by decide +kernel⟩, by decide, by decide⟩ tw_88 tw_89 tw_90 rfl hl.1 (Nat.le_of_ble_eq_true rfl) ⟨by decide, by decide⟩ d_LB_total_23 (fun v h' hp => ?_)
    obtain ⟨rfl, rfl⟩ := hp
    refine g_widen (k' := 0) (n' := 0) (by decide) (by decide) ?_
    show G D s0 p l e _ s m _ below meth c h _ _ _ (F0 m 26 ls [.ref (Y.getD yi 0)])
    refine g_cast X fy rfl tw_389 tw_653 d_LB_total_26 ?_
    refine g_getN X (ci := 2) rfl fy 1 (by decide) ⟨rfl, rfl⟩ tw_398 rfl d_LB_total_29 ?_
    exact g_rx (g_iret X (⟨yi, rfl, hyi, rfl, rfl⟩) (by decide) (by decide) d_LB_total_32)
  · exact g_throw X hfl hxt (i1 := 88) (i2 := 130) (i3 := 92) g_oa_IX (by decide +kernel) tw_351 tw_352 tw_19 (tx := "no such layer") (by decide) (⟨rfl, if_0 c5, rfl⟩) hl.1 (by decide) (by decide) ⟨by decide, by decide⟩ ⟨by decide, by decide⟩ d_LB_total_8 d_LB_total_11 d_LB_total_12 d_LB_total_14 d_LB_total_17

set_option maxHeartbeats 4000000 in
set_option maxRecDepth 100000 in
theorem c_LB_threshold {D : va_G} {s0 : State} {l : Launch} {h : gH} (B0 : gB D s0) (hfl : l.flags = flags0) {x : Nat} {A Y : List Nat} {bs : Nat → Blk} {ys : Nat → Lay} {pn tb : Int} (hx : isLB D h x A bs Y ys pn tb) (hAl : A.length ≤ 1024) (hYl : Y.length ≤ 64) (hyo : ∀ j, j < Y.length → i_ok (ys j).2.2.2.2) {i z : Int} (hi : i_ok i) (hz : i_ok z) : gMetX D s0 l y_LB_threshold b_LB_threshold 4 (some .long) ({ frames := 6, cells := 1, slots := 6, locals := 105 } : Room) [.ref x, .int (iZ (i)), .int (iZ (z))] h (fun v h' => ∃ j : Nat, (j : Int) = i ∧ j < Y.length ∧ (z = 0 ∨ z = 1) ∧ some (.long (lZ (if z = 0 then (ys j).2.2.2.1 else (ys j).2.2.2.2))) = v ∧ h = h') (fun C h' => ((C = "java/lang/IllegalArgumentException" ∧ ¬ (z = 0 ∨ z = 1)) ∨ (C = "java/lang/IndexOutOfBoundsException" ∧ (z = 0 ∨ z = 1) ∧ ¬ (0 ≤ i ∧ i < Y.length))) ∧ h = h') := by
  obtain ⟨bl, yl, fX, hA, hY, hbs, hys, hnd, hnd2⟩ := id hx
  obtain ⟨eb, mb, fbl, -⟩ := id hA
  obtain ⟨ey, my, fyl, -⟩ := id hY
  obtain ⟨hi1, hi2⟩ := id hi
  obtain ⟨hz1, hz2⟩ := id hz
  refine g_enterX B0 (plainFor_of_name (by decide)) (Nat.le_of_ble_eq_true rfl) (fun p e s m below meth c ls X hxt hnm hl => ?_)
  have hl : lv_has ls 4 [(0, .ref x), (1, .int (iZ (i))), (2, .int (iZ (z)))] := hl
  refine g_1 (fun w => lv_iload_n X.1 X.2.1 d_LB_threshold_0 rfl (lv_at hl 2 rfl) w) ?_
  refine g_if_eq (tgt := 19) X (by first | (split <;> exact ⟨by omega, by omega⟩) | exact ⟨by omega, by omega⟩ | exact cmpZ_ok _ _) d_LB_threshold_1 (by decide) (fun c1 => ?_) (fun c1 => ?_)
  · refine g_1 (fun w => lv_aload_n X.1 X.2.1 d_LB_threshold_19 rfl (lv_at hl 0 rfl) w) ?_
    refine g_1 (fun w => lv_iload_n X.1 X.2.1 d_LB_threshold_20 rfl (lv_at hl 1 rfl) w) ?_
    refine g_callV (na := 1) X (c_LB_hasLayer B0 hx hAl hYl ⟨by omega, by omega⟩) rfl fX rfl ⟨⟨tw_479, tw_1⟩, ⟨by decide, by decide, by decide +kernel⟩, by decide, by decide⟩ tw_476 tw_478 ts_LB_hasLayer rfl hl.1 (Nat.le_of_ble_eq_true rfl) ⟨by decide, by decide⟩ d_LB_threshold_21 (fun v h' hp => ?_)
    obtain ⟨rfl, rfl⟩ := hp
    refine g_widen (k' := 0) (n' := 0) (by decide) (by decide) ?_
    show G D s0 p l e _ s m _ below meth c h _ _ _ (F0 m 24 ls [.int (iZ (if 0 ≤ i ∧ i < Y.length then 1 else 0))])
    refine g_if_ne (tgt := 37) X (by first | (split <;> exact ⟨by omega, by omega⟩) | exact ⟨by omega, by omega⟩ | exact cmpZ_ok _ _) d_LB_threshold_24 (by decide) (fun c24 => ?_) (fun c24 => ?_)
    · obtain ⟨yi, rfl, hyi⟩ : ∃ yi : Nat, (yi : Int) = i ∧ yi < Y.length := ⟨i.toNat, by have z := if_1 c24; omega, by have z := if_1 c24; omega⟩
      obtain ⟨q1, fy, fq⟩ := id (hys yi hyi)
      refine g_1 (fun w => lv_aload_n X.1 X.2.1 d_LB_threshold_37 rfl (lv_at hl 0 rfl) w) ?_
      refine g_get X (ci := 0) rfl fX 1 (by decide) ⟨rfl, rfl⟩ tw_56 (Or.inl rfl) rfl d_LB_threshold_38 ?_
      refine g_1 (fun w => lv_iload_n X.1 X.2.1 d_LB_threshold_41 rfl (lv_at hl 1 rfl) w) ?_
      refine g_callV (na := 1) X (c_AL_get B0 hY yi (by omega)) rfl fyl rfl ⟨⟨tw_91, tw_4⟩, ⟨by decide, by decide, by decide +kernel⟩, by decide, by decide⟩ tw_88 tw_89 tw_90 rfl hl.1 (Nat.le_of_ble_eq_true rfl) ⟨by decide, by decide⟩ d_LB_threshold_42 (fun v h' hp => ?_)
      obtain ⟨rfl, rfl⟩ := hp
      refine g_widen (k' := 0) (n' := 0) (by decide) (by decide) ?_
      show G D s0 p l e _ s m _ below meth c h _ _ _ (F0 m 45 ls [.ref (Y.getD yi 0)])
      refine g_cast X fy rfl tw_389 tw_653 d_LB_threshold_45 ?_
      refine g_s (fun kk => lv_astore_n (lv' := [(3, .ref (Y.getD yi 0)), (0, .ref x), (1, .int (iZ (yi))), (2, .int (iZ (z)))]) X.1 X.2.1 d_LB_threshold_48 rfl hl (by decide) rfl kk) (fun ls hl => ?_)
      refine g_1 (fun w => lv_iload_n X.1 X.2.1 d_LB_threshold_49 rfl (lv_at hl 3 rfl) w) ?_
      refine g_if_ne (tgt := 60) X (by first | (split <;> exact ⟨by omega, by omega⟩) | exact ⟨by omega, by omega⟩ | exact cmpZ_ok _ _) d_LB_threshold_50 (by decide) (fun c50 => ?_) (fun c50 => ?_)
      · refine g_1 (fun w => lv_aload_n X.1 X.2.1 d_LB_threshold_60 rfl (lv_at hl 0 rfl) w) ?_
        refine g_getN X (ci := 2) rfl fy 3 (by decide) ⟨rfl, rfl⟩ tw_402 rfl d_LB_threshold_61 ?_
        refine g_i2l X (by first | exact hyo _ hyi | (split <;> exact ⟨by omega, by omega⟩) | exact ⟨by omega, by omega⟩ | exact cmpZ_ok _ _) d_LB_threshold_64 ?_
        exact g_rx (g_lret X (⟨yi, rfl, hyi, by omega, by rw [if_neg c50], rfl⟩) (by decide) (by decide) d_LB_threshold_65)
      · refine g_1 (fun w => lv_aload_n X.1 X.2.1 d_LB_threshold_53 rfl (lv_at hl 0 rfl) w) ?_
        refine g_getN X (ci := 2) rfl fy 2 (by decide) ⟨rfl, rfl⟩ tw_400 rfl d_LB_threshold_54 ?_
        refine g_goto (tgt := 65) X d_LB_threshold_57 (by decide) ?_
        exact g_rx (g_lret X (⟨yi, rfl, hyi, by omega, by rw [if_pos c50], rfl⟩) (by decide) (by decide) d_LB_threshold_65)
    · exact g_throw X hfl hxt (i1 := 88) (i2 := 130) (i3 := 92) g_oa_IX (by decide +kernel) tw_351 tw_352 tw_19 (tx := "no such layer") (by decide) (⟨Or.inr ⟨rfl, by omega, if_0 c24⟩, rfl⟩) hl.1 (by decide) (by decide) ⟨by decide, by decide⟩ ⟨by decide, by decide⟩ d_LB_threshold_27 d_LB_threshold_30 d_LB_threshold_31 d_LB_threshold_33 d_LB_threshold_36
  · refine g_1 (fun w => lv_iload_n X.1 X.2.1 d_LB_threshold_4 rfl (lv_at hl 2 rfl) w) ?_
    refine g_1 (fun w => lv_iconst (v := iZ 1) X.1 X.2.1 d_LB_threshold_5 rfl w) ?_
    refine g_icmp_eq (tgt := 19) X (by first | (split <;> exact ⟨by omega, by omega⟩) | exact ⟨by omega, by omega⟩ | exact cmpZ_ok _ _) (by first | (split <;> exact ⟨by omega, by omega⟩) | exact ⟨by omega, by omega⟩ | exact cmpZ_ok _ _) d_LB_threshold_6 (by decide) (fun c6 => ?_) (fun c6 => ?_)
    · refine g_1 (fun w => lv_aload_n X.1 X.2.1 d_LB_threshold_19 rfl (lv_at hl 0 rfl) w) ?_
      refine g_1 (fun w => lv_iload_n X.1 X.2.1 d_LB_threshold_20 rfl (lv_at hl 1 rfl) w) ?_
      refine g_callV (na := 1) X (c_LB_hasLayer B0 hx hAl hYl ⟨by omega, by omega⟩) rfl fX rfl ⟨⟨tw_479, tw_1⟩, ⟨by decide, by decide, by decide +kernel⟩, by decide, by decide⟩ tw_476 tw_478 ts_LB_hasLayer rfl hl.1 (Nat.le_of_ble_eq_true rfl) ⟨by decide, by decide⟩ d_LB_threshold_21 (fun v h' hp => ?_)
      obtain ⟨rfl, rfl⟩ := hp
      refine g_widen (k' := 0) (n' := 0) (by decide) (by decide) ?_
      show G D s0 p l e _ s m _ below meth c h _ _ _ (F0 m 24 ls [.int (iZ (if 0 ≤ i ∧ i < Y.length then 1 else 0))])
      refine g_if_ne (tgt := 37) X (by first | (split <;> exact ⟨by omega, by omega⟩) | exact ⟨by omega, by omega⟩ | exact cmpZ_ok _ _) d_LB_threshold_24 (by decide) (fun c24 => ?_) (fun c24 => ?_)
      · obtain ⟨yi, rfl, hyi⟩ : ∃ yi : Nat, (yi : Int) = i ∧ yi < Y.length := ⟨i.toNat, by have z := if_1 c24; omega, by have z := if_1 c24; omega⟩
        obtain ⟨q1, fy, fq⟩ := id (hys yi hyi)
        refine g_1 (fun w => lv_aload_n X.1 X.2.1 d_LB_threshold_37 rfl (lv_at hl 0 rfl) w) ?_
        refine g_get X (ci := 0) rfl fX 1 (by decide) ⟨rfl, rfl⟩ tw_56 (Or.inl rfl) rfl d_LB_threshold_38 ?_
        refine g_1 (fun w => lv_iload_n X.1 X.2.1 d_LB_threshold_41 rfl (lv_at hl 1 rfl) w) ?_
        refine g_callV (na := 1) X (c_AL_get B0 hY yi (by omega)) rfl fyl rfl ⟨⟨tw_91, tw_4⟩, ⟨by decide, by decide, by decide +kernel⟩, by decide, by decide⟩ tw_88 tw_89 tw_90 rfl hl.1 (Nat.le_of_ble_eq_true rfl) ⟨by decide, by decide⟩ d_LB_threshold_42 (fun v h' hp => ?_)
        obtain ⟨rfl, rfl⟩ := hp
        refine g_widen (k' := 0) (n' := 0) (by decide) (by decide) ?_
        show G D s0 p l e _ s m _ below meth c h _ _ _ (F0 m 45 ls [.ref (Y.getD yi 0)])
        refine g_cast X fy rfl tw_389 tw_653 d_LB_threshold_45 ?_
        refine g_s (fun kk => lv_astore_n (lv' := [(3, .ref (Y.getD yi 0)), (0, .ref x), (1, .int (iZ (yi))), (2, .int (iZ (z)))]) X.1 X.2.1 d_LB_threshold_48 rfl hl (by decide) rfl kk) (fun ls hl => ?_)
        refine g_1 (fun w => lv_iload_n X.1 X.2.1 d_LB_threshold_49 rfl (lv_at hl 3 rfl) w) ?_
        refine g_if_ne (tgt := 60) X (by first | (split <;> exact ⟨by omega, by omega⟩) | exact ⟨by omega, by omega⟩ | exact cmpZ_ok _ _) d_LB_threshold_50 (by decide) (fun c50 => ?_) (fun c50 => ?_)
        · refine g_1 (fun w => lv_aload_n X.1 X.2.1 d_LB_threshold_60 rfl (lv_at hl 0 rfl) w) ?_
          refine g_getN X (ci := 2) rfl fy 3 (by decide) ⟨rfl, rfl⟩ tw_402 rfl d_LB_threshold_61 ?_
          refine g_i2l X (by first | exact hyo _ hyi | (split <;> exact ⟨by omega, by omega⟩) | exact ⟨by omega, by omega⟩ | exact cmpZ_ok _ _) d_LB_threshold_64 ?_
          exact g_rx (g_lret X (⟨yi, rfl, hyi, by omega, by rw [if_neg c50], rfl⟩) (by decide) (by decide) d_LB_threshold_65)
        · refine g_1 (fun w => lv_aload_n X.1 X.2.1 d_LB_threshold_53 rfl (lv_at hl 0 rfl) w) ?_
          refine g_getN X (ci := 2) rfl fy 2 (by decide) ⟨rfl, rfl⟩ tw_400 rfl d_LB_threshold_54 ?_
          refine g_goto (tgt := 65) X d_LB_threshold_57 (by decide) ?_
          exact g_rx (g_lret X (⟨yi, rfl, hyi, by omega, by rw [if_pos c50], rfl⟩) (by decide) (by decide) d_LB_threshold_65)
      · exact g_throw X hfl hxt (i1 := 88) (i2 := 130) (i3 := 92) g_oa_IX (by decide +kernel) tw_351 tw_352 tw_19 (tx := "no such layer") (by decide) (⟨Or.inr ⟨rfl, by omega, if_0 c24⟩, rfl⟩) hl.1 (by decide) (by decide) ⟨by decide, by decide⟩ ⟨by decide, by decide⟩ d_LB_threshold_27 d_LB_threshold_30 d_LB_threshold_31 d_LB_threshold_33 d_LB_threshold_36
    · exact g_throw X hfl hxt (i1 := 51) (i2 := 83) (i3 := 55) g_oa_IA (by decide +kernel) tw_286 tw_287 tw_17 (tx := "no such w") (by decide) (⟨Or.inl ⟨rfl, by omega⟩, rfl⟩) hl.1 (by decide) (by decide) ⟨by decide, by decide⟩ ⟨by decide, by decide⟩ d_LB_threshold_9 d_LB_threshold_12 d_LB_threshold_13 d_LB_threshold_15 d_LB_threshold_18

set_option maxHeartbeats 4000000 in
set_option maxRecDepth 100000 in
theorem c_LB_cut {D : va_G} {s0 : State} {l : Launch} {h : gH} (B0 : gB D s0) (hfl : l.flags = flags0) {x : Nat} {A Y : List Nat} {bs : Nat → Blk} {ys : Nat → Lay} {pn tb : Int} (hx : isLB D h x A bs Y ys pn tb) (hAl : A.length ≤ 1024) (hYl : Y.length ≤ 64) (hbo : ∀ i, i < A.length → okB (bs i)) (hyo : ∀ j, j < Y.length → (ys j).1 = A.length) {i z : Int} (hi : i_ok i) (hz : i_ok z) : gMetX D s0 l y_LB_cut b_LB_cut 3 (some .int) ({ frames := 6, cells := 1, slots := 6, locals := 105 } : Room) [.ref x, .int (iZ (i)), .int (iZ (z))] h (fun v h' => ∃ j b : Nat, (j : Int) = i ∧ (b : Int) = z ∧ j < Y.length ∧ b < A.length ∧ some (.int (iZ ((ys j).2.1 b))) = v ∧ h = h') (fun C h' => ((C = "java/lang/IllegalArgumentException" ∧ ¬ (0 ≤ z ∧ z < A.length)) ∨ (C = "java/lang/IndexOutOfBoundsException" ∧ (0 ≤ z ∧ z < A.length) ∧ ¬ (0 ≤ i ∧ i < Y.length))) ∧ h = h') := by
  obtain ⟨bl, yl, fX, hA, hY, hbs, hys, hnd, hnd2⟩ := id hx
  obtain ⟨eb, mb, fbl, -⟩ := id hA
  obtain ⟨ey, my, fyl, -⟩ := id hY
  obtain ⟨hi1, hi2⟩ := id hi
  obtain ⟨hz1, hz2⟩ := id hz
  refine g_enterX B0 (plainFor_of_name (by decide)) (Nat.le_of_ble_eq_true rfl) (fun p e s m below meth c ls X hxt hnm hl => ?_)
  have hl : lv_has ls 3 [(0, .ref x), (1, .int (iZ (i))), (2, .int (iZ (z)))] := hl
  refine g_1 (fun w => lv_aload_n X.1 X.2.1 d_LB_cut_0 rfl (lv_at hl 0 rfl) w) ?_
  refine g_1 (fun w => lv_iload_n X.1 X.2.1 d_LB_cut_1 rfl (lv_at hl 2 rfl) w) ?_
  refine g_callV (na := 1) X (c_LB_hasBlock B0 hx hAl hYl ⟨by omega, by omega⟩) rfl fX rfl ⟨⟨tw_285, tw_1⟩, ⟨by decide, by decide, by decide +kernel⟩, by decide, by decide⟩ tw_282 tw_284 ts_LB_hasBlock rfl hl.1 (Nat.le_of_ble_eq_true rfl) ⟨by decide, by decide⟩ d_LB_cut_2 (fun v h' hp => ?_)
  obtain ⟨rfl, rfl⟩ := hp
  refine g_widen (k' := 0) (n' := 0) (by decide) (by decide) ?_
  show G D s0 p l e _ s m _ below meth c h _ _ _ (F0 m 5 ls [.int (iZ (if 0 ≤ z ∧ z < A.length then 1 else 0))])
  refine g_if_ne (tgt := 18) X (by first | (split <;> exact ⟨by omega, by omega⟩) | exact ⟨by omega, by omega⟩ | exact cmpZ_ok _ _) d_LB_cut_5 (by decide) (fun c5 => ?_) (fun c5 => ?_)
  · obtain ⟨bi, rfl, hbi⟩ : ∃ bi : Nat, (bi : Int) = z ∧ bi < A.length := ⟨z.toNat, by have z := if_1 c5; omega, by have z := if_1 c5; omega⟩
    obtain ⟨p1, p2, p3, fb, fB, fG, fC⟩ := id (hbs bi hbi)
    obtain ⟨k1, k2, k3, k4, k5, k6, k7, k8⟩ := id (hbo bi hbi)
    refine g_1 (fun w => lv_aload_n X.1 X.2.1 d_LB_cut_18 rfl (lv_at hl 0 rfl) w) ?_
    refine g_1 (fun w => lv_iload_n X.1 X.2.1 d_LB_cut_19 rfl (lv_at hl 1 rfl) w) ?_
    refine g_callV (na := 1) X (c_LB_hasLayer B0 hx hAl hYl ⟨by omega, by omega⟩) rfl fX rfl ⟨⟨tw_479, tw_1⟩, ⟨by decide, by decide, by decide +kernel⟩, by decide, by decide⟩ tw_476 tw_478 ts_LB_hasLayer rfl hl.1 (Nat.le_of_ble_eq_true rfl) ⟨by decide, by decide⟩ d_LB_cut_20 (fun v h' hp => ?_)
    obtain ⟨rfl, rfl⟩ := hp
    refine g_widen (k' := 0) (n' := 0) (by decide) (by decide) ?_
    show G D s0 p l e _ s m _ below meth c h _ _ _ (F0 m 23 ls [.int (iZ (if 0 ≤ i ∧ i < Y.length then 1 else 0))])
    refine g_if_ne (tgt := 36) X (by first | (split <;> exact ⟨by omega, by omega⟩) | exact ⟨by omega, by omega⟩ | exact cmpZ_ok _ _) d_LB_cut_23 (by decide) (fun c23 => ?_) (fun c23 => ?_)
    · obtain ⟨yi, rfl, hyi⟩ : ∃ yi : Nat, (yi : Int) = i ∧ yi < Y.length := ⟨i.toNat, by have z := if_1 c23; omega, by have z := if_1 c23; omega⟩
      obtain ⟨q1, fy, fq⟩ := id (hys yi hyi)
      have hyo1 := hyo yi hyi
      refine g_1 (fun w => lv_aload_n X.1 X.2.1 d_LB_cut_36 rfl (lv_at hl 0 rfl) w) ?_
      refine g_get X (ci := 0) rfl fX 1 (by decide) ⟨rfl, rfl⟩ tw_56 (Or.inl rfl) rfl d_LB_cut_37 ?_
      refine g_1 (fun w => lv_iload_n X.1 X.2.1 d_LB_cut_40 rfl (lv_at hl 1 rfl) w) ?_
      refine g_callV (na := 1) X (c_AL_get B0 hY yi (by omega)) rfl fyl rfl ⟨⟨tw_91, tw_4⟩, ⟨by decide, by decide, by decide +kernel⟩, by decide, by decide⟩ tw_88 tw_89 tw_90 rfl hl.1 (Nat.le_of_ble_eq_true rfl) ⟨by decide, by decide⟩ d_LB_cut_41 (fun v h' hp => ?_)
      obtain ⟨rfl, rfl⟩ := hp
      refine g_widen (k' := 0) (n' := 0) (by decide) (by decide) ?_
      show G D s0 p l e _ s m _ below meth c h _ _ _ (F0 m 44 ls [.ref (Y.getD yi 0)])
      refine g_cast X fy rfl tw_389 tw_653 d_LB_cut_44 ?_
      refine g_getN X (ci := 2) rfl fy 0 (by decide) ⟨rfl, rfl⟩ tw_397 rfl d_LB_cut_47 ?_
      refine g_1 (fun w => lv_iload_n X.1 X.2.1 d_LB_cut_50 rfl (lv_at hl 2 rfl) w) ?_
      refine g_ild X fq (bi) (rfl) (by omega) (by omega) d_LB_cut_51 ?_
      exact g_rx (g_iret X (⟨yi, bi, rfl, rfl, hyi, hbi, rfl, rfl⟩) (by decide) (by decide) d_LB_cut_52)
    · exact g_throw X hfl hxt (i1 := 88) (i2 := 130) (i3 := 92) g_oa_IX (by decide +kernel) tw_351 tw_352 tw_19 (tx := "no such layer") (by decide) (⟨Or.inr ⟨rfl, by omega, if_0 c23⟩, rfl⟩) hl.1 (by decide) (by decide) ⟨by decide, by decide⟩ ⟨by decide, by decide⟩ d_LB_cut_26 d_LB_cut_29 d_LB_cut_30 d_LB_cut_32 d_LB_cut_35
  · exact g_throw X hfl hxt (i1 := 51) (i2 := 53) (i3 := 55) g_oa_IA (by decide +kernel) tw_286 tw_287 tw_17 (tx := "no such block") (by decide) (⟨Or.inl ⟨rfl, if_0 c5⟩, rfl⟩) hl.1 (by decide) (by decide) ⟨by decide, by decide⟩ ⟨by decide, by decide⟩ d_LB_cut_8 d_LB_cut_11 d_LB_cut_12 d_LB_cut_14 d_LB_cut_17
end
section
/-! LOOPS OVER THE BLOCKS -/
def upto (f : Blk → Blk) (bs : Nat → Blk) (i : Nat) : Nat → Blk := fun j => if j < i then f (bs j) else bs j
theorem upto_at {f : Blk → Blk} {bs : Nat → Blk} {i : Nat} : upto f bs i i = bs i := if_neg (Nat.lt_irrefl i)
theorem upto_0 {f : Blk → Blk} {bs : Nat → Blk} : upto f bs 0 = bs := funext fun j => if_neg (Nat.not_lt_zero j)
theorem upto_lt {f : Blk → Blk} {bs : Nat → Blk} {n j : Nat} (h : j < n) : upto f bs n j = f (bs j) := if_pos h
theorem upto_succ {f : Blk → Blk} {bs : Nat → Blk} {i : Nat} : va_up (upto f bs i) i (f (bs i)) = upto f bs (i + 1) := by
  funext j
  by_cases h : j = i
  · subst h
    rw [va_up_self, upto_lt (Nat.lt_succ_self j)]
  · rw [va_up_ne _ _ h]
    unfold upto
    by_cases h2 : j < i
    · rw [if_pos h2, if_pos (by omega)]
    · rw [if_neg h2, if_neg (by omega)]
/-- cells of blocks alone; those and the object's own -/
def P_BB : Nat → Nat × Nat → Prop := fun _ t => t.1 = 1 ∨ (11 ≤ t.1 ∧ t.1 ≤ 13)
def P_XB : Nat → Nat × Nat → Prop := fun _ t => t.1 = 1 ∨ t.1 = 3 ∨ (11 ≤ t.1 ∧ t.1 ≤ 13)
theorem kpB_BB {D : va_G} {h h' : gH} {a : Nat} {b : Blk} (hb : isBk D h a b) (hk : kp (P_Bk a) h h') : kp P_BB h h' := by
  intro q z hq hn
  refine hk q z hq (fun y => ?_)
  rcases y with y | ⟨-, y1, y2⟩
  · obtain ⟨p1, p2, p3, fA, -⟩ := hb
    subst y
    cases fA.symm.trans hq
    exact hn (Or.inl rfl)
  · exact hn (Or.inr ⟨y1, y2⟩)
theorem BB_XB {h h' : gH} (hk : kp P_BB h h') : kp P_XB h h' := kp_mo hk (fun _ _ z => z.elim Or.inl (fun y => Or.inr (Or.inr y)))
theorem XB_LB {h h' : gH} (hk : kp P_XB h h') : kp P_LB h h' := kp_mo hk (fun _ t z => by
  rcases z with z | z | ⟨z1, z2⟩
  · exact ⟨by omega, by omega⟩
  · exact ⟨by omega, by omega⟩
  · exact ⟨by omega, by omega⟩)
/-- the state with its two lists' addresses -/
abbrev LBb (D : va_G) (h : gH) (x bl yl : Nat) (A : List Nat) (bs : Nat → Blk) (Y : List Nat) (ys : Nat → Lay) (pn tb : Int) : Prop :=
  h x = some ((3, 0), .inr (0, [.ref bl, .ref yl, .int (iZ pn), .int (iZ tb)])) ∧ isAL D h bl 0 A ∧ isAL D h yl 1 Y ∧ (∀ i, i < A.length → isBk D h (A.getD i 0) (bs i)) ∧ (∀ i, i < Y.length → isLy D h (Y.getD i 0) (ys i)) ∧ A.Nodup ∧ Y.Nodup
/-- the class's cells stay where P names none of them -/
abbrev LBt (A Y : List Nat) (q : Nat) (t : Nat × Nat) : Prop := t.1 = 3 ∨ t.1 = 5 ∨ t.1 = 14 ∨ (t.1 = 1 ∧ q ∈ A) ∨ (11 ≤ t.1 ∧ t.1 ≤ 13 ∧ t.2 ∈ A) ∨ (t.1 = 2 ∧ q ∈ Y) ∨ (t.1 = 15 ∧ t.2 ∈ Y)
theorem LBb_kp {D : va_G} {h h' : gH} {x bl yl : Nat} {A Y : List Nat} {bs : Nat → Blk} {ys : Nat → Lay} {pn tb : Int} {P : Nat → Nat × Nat → Prop} (hx : LBb D h x bl yl A bs Y ys pn tb) (hk : kp P h h') (hn : ∀ (q : Nat) (t : Nat × Nat), (∃ e, h q = some (t, e)) → LBt A Y q t → ¬ P q t) : LBb D h' x bl yl A bs Y ys pn tb := by
  obtain ⟨fX, hA, hY, h1, h2, h3, h4⟩ := hx
  refine ⟨hk _ _ fX (hn _ _ ⟨_, fX⟩ (Or.inl rfl)), ?_, ?_, ?_, ?_, h3, h4⟩
  · obtain ⟨e, mc, f1, hc⟩ := hA
    refine ⟨e, mc, hk _ _ f1 (hn _ _ ⟨_, f1⟩ (Or.inr (Or.inl rfl))), ?_⟩
    rcases hc with z | ⟨cap, f, z1, z2⟩
    · exact Or.inl z
    · exact Or.inr ⟨cap, f, hk _ _ z1 (hn _ _ ⟨_, z1⟩ (Or.inr (Or.inr (Or.inl rfl)))), z2⟩
  · obtain ⟨e, mc, f1, hc⟩ := hY
    refine ⟨e, mc, hk _ _ f1 (hn _ _ ⟨_, f1⟩ (Or.inr (Or.inl rfl))), ?_⟩
    rcases hc with z | ⟨cap, f, z1, z2⟩
    · exact Or.inl z
    · exact Or.inr ⟨cap, f, hk _ _ z1 (hn _ _ ⟨_, z1⟩ (Or.inr (Or.inr (Or.inl rfl)))), z2⟩
  · intro i hi
    obtain ⟨p1, p2, p3, fA, fB, fG, fC⟩ := h1 i hi
    have w : ∀ (q k : Nat), 11 ≤ k → k ≤ 13 → LBt A Y q (k, A.getD i 0) := fun q k z1 z2 => Or.inr (Or.inr (Or.inr (Or.inr (Or.inl ⟨z1, z2, getD_mem hi⟩))))
    exact ⟨p1, p2, p3, hk _ _ fA (hn _ _ ⟨_, fA⟩ (Or.inr (Or.inr (Or.inr (Or.inl ⟨rfl, getD_mem hi⟩))))), hk _ _ fB (hn _ _ ⟨_, fB⟩ (w _ 11 (by decide) (by decide))), hk _ _ fG (hn _ _ ⟨_, fG⟩ (w _ 12 (by decide) (by decide))), hk _ _ fC (hn _ _ ⟨_, fC⟩ (w _ 13 (by decide) (by decide)))⟩
  · intro i hi
    obtain ⟨p1, f1, f2⟩ := h2 i hi
    exact ⟨p1, hk _ _ f1 (hn _ _ ⟨_, f1⟩ (Or.inr (Or.inr (Or.inr (Or.inr (Or.inr (Or.inl ⟨rfl, getD_mem hi⟩))))))), hk _ _ f2 (hn _ _ ⟨_, f2⟩ (Or.inr (Or.inr (Or.inr (Or.inr (Or.inr (Or.inr ⟨rfl, getD_mem hi⟩)))))))⟩
theorem mem_getD {A : List Nat} {a : Nat} (h : a ∈ A) : ∃ i, i < A.length ∧ A.getD i 0 = a := by
  obtain ⟨i, hi, e⟩ := List.getElem_of_mem h
  exact ⟨i, hi, by rw [List.getD_eq_getElem?_getD, List.getElem?_eq_getElem hi]; exact e⟩
theorem LBb_fr {D : va_G} {h : gH} {x bl yl : Nat} {A Y : List Nat} {bs : Nat → Blk} {ys : Nat → Lay} {pn tb : Int} (hx : LBb D h x bl yl A bs Y ys pn tb) {a : Nat} (ha : h a = none) : a ∉ A ∧ a ∉ Y := by
  obtain ⟨fX, hA, hY, h1, h2, h3, h4⟩ := hx
  refine ⟨fun z => ?_, fun z => ?_⟩
  · obtain ⟨i, hi, e⟩ := mem_getD z
    obtain ⟨p1, p2, p3, fA, -⟩ := h1 i hi
    rw [e, ha] at fA
    cases fA
  · obtain ⟨i, hi, e⟩ := mem_getD z
    obtain ⟨p1, fA, -⟩ := h2 i hi
    rw [e, ha] at fA
    cases fA
theorem LBb_ob {D : va_G} {h : gH} {x bl yl : Nat} {A Y : List Nat} {bs : Nat → Blk} {ys : Nat → Lay} {pn tb : Int} (hx : LBb D h x bl yl A bs Y ys pn tb) : (∀ b ∈ A, g_ob h b) ∧ ∀ b ∈ Y, g_ob h b := by
  obtain ⟨fX, hA, hY, h1, h2, h3, h4⟩ := hx
  refine ⟨fun b z => ?_, fun b z => ?_⟩
  · obtain ⟨i, hi, e⟩ := mem_getD z
    obtain ⟨p1, p2, p3, fA, -⟩ := h1 i hi
    rw [e] at fA
    exact ⟨_, _, _, fA, Or.inl rfl⟩
  · obtain ⟨i, hi, e⟩ := mem_getD z
    obtain ⟨p1, fA, -⟩ := h2 i hi
    rw [e] at fA
    exact ⟨_, _, _, fA, Or.inr rfl⟩
/-- a new block or layer that is in no list yet changes -/
theorem LBb_out {D : va_G} {h h' : gH} {x bl yl : Nat} {A Y : List Nat} {bs : Nat → Blk} {ys : Nat → Lay} {pn tb : Int} (hx : LBb D h x bl yl A bs Y ys pn tb) {a : Nat} {t : Nat × Nat} {e : va_E} (ha : h a = some (t, e)) (h1 : a ∉ A) (h2 : a ∉ Y) (ht : t.1 = 1 ∨ t.1 = 2) (hk : kp (fun q u => q = a ∨ u = (15, a)) h h') : LBb D h' x bl yl A bs Y ys pn tb := by
  refine LBb_kp hx hk (fun q u hq hc z => ?_)
  obtain ⟨e2, hq⟩ := hq
  rcases z with z | z
  · subst z
    cases ha.symm.trans hq
    rcases hc with z | z | z | z | z | z | z
    · omega
    · omega
    · omega
    · exact h1 z.2
    · omega
    · exact h2 z.2
    · omega
  · subst z
    rcases hc with z | z | z | z | z | z | z
    · exact absurd (show (15 : Nat) = 3 from z) (by decide)
    · exact absurd (show (15 : Nat) = 5 from z) (by decide)
    · exact absurd (show (15 : Nat) = 14 from z) (by decide)
    · exact absurd (show (15 : Nat) = 1 from z.1) (by decide)
    · exact absurd (show (15 : Nat) ≤ 13 from z.2.1) (by decide)
    · exact absurd (show (15 : Nat) = 2 from z.1) (by decide)
    · exact h2 z.2
theorem nodup_app {A : List Nat} {a : Nat} (h : A.Nodup) (ha : a ∉ A) : (A ++ [a]).Nodup := by
  rw [List.nodup_append]
  exact ⟨h, by simp, fun x hx y hy e => by rw [List.mem_singleton.mp hy] at e; exact ha (e ▸ hx)⟩
theorem getD_app1 {A : List Nat} {a i : Nat} (h : i < A.length) : (A ++ [a]).getD i 0 = A.getD i 0 := by
  rw [List.getD_eq_getElem?_getD, List.getD_eq_getElem?_getD, List.getElem?_append_left h]
theorem getD_app2 {A : List Nat} {a : Nat} : (A ++ [a]).getD A.length 0 = a := by
  rw [List.getD_eq_getElem?_getD, List.getElem?_append_right (Nat.le_refl _), Nat.sub_self]
  rfl
/-- its own numbers have changed -/
theorem isLB.setX {D : va_G} {h h1 : gH} {x bl yl : Nat} {A Y : List Nat} {bs : Nat → Blk} {ys : Nat → Lay} {pn tb pn2 tb2 : Int} (hx : isLB D h x A bs Y ys pn tb) (fX : h x = some ((3, 0), .inr (0, [.ref bl, .ref yl, .int (iZ pn), .int (iZ tb)]))) (e : h1 = g_up h x ((3, 0), .inr (0, [.ref bl, .ref yl, .int (iZ pn2), .int (iZ tb2)]))) : isLB D h1 x A bs Y ys pn2 tb2 := by
  obtain ⟨bl', yl', fX', hA, hY, h1', h2, h3, h4⟩ := hx
  obtain ⟨rfl, rfl⟩ : bl = bl' ∧ yl = yl' := by
    have z := fX.symm.trans fX'
    simp only [Option.some.injEq, Prod.mk.injEq, Sum.inr.injEq, List.cons.injEq, Value.ref.injEq] at z
    exact ⟨z.2.2.1, z.2.2.2.1⟩
  have kq : ∀ (q : Nat) (t : Nat × Nat) (c : va_E), h q = some (t, c) → t.1 ≠ 3 → h1 q = some (t, c) := fun q t c hq ht => by
    rw [e]
    exact g_uk hq fX ht
  refine ⟨bl, yl, by rw [e]; exact g_us, ?_, ?_, ?_, ?_, h3, h4⟩
  · obtain ⟨e, mc, f1, hc⟩ := hA
    refine ⟨e, mc, kq _ _ _ f1 (show (5 : Nat) ≠ 3 by decide), ?_⟩
    rcases hc with z | ⟨cap, f, z1, z2⟩
    · exact Or.inl z
    · exact Or.inr ⟨cap, f, kq _ _ _ z1 (show (14 : Nat) ≠ 3 by decide), z2⟩
  · obtain ⟨e, mc, f1, hc⟩ := hY
    refine ⟨e, mc, kq _ _ _ f1 (show (5 : Nat) ≠ 3 by decide), ?_⟩
    rcases hc with z | ⟨cap, f, z1, z2⟩
    · exact Or.inl z
    · exact Or.inr ⟨cap, f, kq _ _ _ z1 (show (14 : Nat) ≠ 3 by decide), z2⟩
  · intro i hi
    obtain ⟨p1, p2, p3, fA, fB, fG, fC⟩ := h1' i hi
    exact ⟨p1, p2, p3, kq _ _ _ fA (show (1 : Nat) ≠ 3 by decide), kq _ _ _ fB (show (11 : Nat) ≠ 3 by decide), kq _ _ _ fG (show (12 : Nat) ≠ 3 by decide), kq _ _ _ fC (show (13 : Nat) ≠ 3 by decide)⟩
  · intro i hi
    obtain ⟨p1, f1, f2⟩ := h2 i hi
    exact ⟨p1, kq _ _ _ f1 (show (2 : Nat) ≠ 3 by decide), kq _ _ _ f2 (show (15 : Nat) ≠ 3 by decide)⟩
/-- what the other list, the blocks and the layers keep of a list's change -/
theorem kpA_oth {D : va_G} {h h' : gH} {a w : Nat} {L : List Nat} (hb : isAL D h a w L) (hk : kp (P_AL a) h h') {q : Nat} {t : Nat × Nat} {c : va_E} (hq : h q = some (t, c)) (h1 : t.1 ≠ 5) (h2 : t.1 ≠ 14) : h' q = some (t, c) := by
  refine hk _ _ hq (fun y => ?_)
  rcases y with y | y
  · obtain ⟨e, mc, fA, -⟩ := hb
    exact g_ne hq fA h1 y
  · exact h2 (by rw [show t = (14, a) from y])
theorem isAL_oth {D : va_G} {h h' : gH} {a w a2 w2 : Nat} {L L2 : List Nat} (ha : isAL D h a w L) (hb : isAL D h a2 w2 L2) (hw : w ≠ w2) (hk : kp (P_AL a2) h h') : isAL D h' a w L := by
  obtain ⟨e2, mc2, f2, -⟩ := hb
  obtain ⟨e, mc, f1, hc⟩ := ha
  have hne : a ≠ a2 := fun z => by
    subst z
    have z := f1.symm.trans f2
    simp only [Option.some.injEq, Prod.mk.injEq] at z
    exact hw z.1.2
  refine ⟨e, mc, hk _ _ f1 (fun y => ?_), ?_⟩
  · rcases y with y | y
    · exact hne y
    · exact absurd (show (5 : Nat) = 14 from congrArg Prod.fst y) (by decide)
  · rcases hc with z | ⟨cap, f, z1, z2⟩
    · exact Or.inl z
    · refine Or.inr ⟨cap, f, hk _ _ z1 (fun y => ?_), z2⟩
      rcases y with y | y
      · exact g_ne z1 f2 (show (14 : Nat) ≠ 5 by decide) y
      · exact hne (show a = a2 from congrArg Prod.snd y)
theorem isBk_al {D : va_G} {h h' : gH} {a2 w2 b : Nat} {L2 : List Nat} {k : Blk} (ha : isBk D h b k) (hb : isAL D h a2 w2 L2) (hk : kp (P_AL a2) h h') : isBk D h' b k := by
  obtain ⟨p1, p2, p3, fA, fB, fG, fC⟩ := ha
  exact ⟨p1, p2, p3, kpA_oth hb hk fA (show (1 : Nat) ≠ 5 by decide) (show (1 : Nat) ≠ 14 by decide), kpA_oth hb hk fB (show (11 : Nat) ≠ 5 by decide) (show (11 : Nat) ≠ 14 by decide), kpA_oth hb hk fG (show (12 : Nat) ≠ 5 by decide) (show (12 : Nat) ≠ 14 by decide), kpA_oth hb hk fC (show (13 : Nat) ≠ 5 by decide) (show (13 : Nat) ≠ 14 by decide)⟩
theorem isLy_al {D : va_G} {h h' : gH} {a2 w2 b : Nat} {L2 : List Nat} {k : Lay} (ha : isLy D h b k) (hb : isAL D h a2 w2 L2) (hk : kp (P_AL a2) h h') : isLy D h' b k := by
  obtain ⟨p1, fA, fB⟩ := ha
  exact ⟨p1, kpA_oth hb hk fA (show (2 : Nat) ≠ 5 by decide) (show (2 : Nat) ≠ 14 by decide), kpA_oth hb hk fB (show (15 : Nat) ≠ 5 by decide) (show (15 : Nat) ≠ 14 by decide)⟩
abbrev rst (b : Blk) : Blk := (bB b, bG b, bC b, bP b, bS b, 0, 0)
abbrev tka (b : Blk) : Blk := (bB b, bG b, bC b, bP b, bS b, bS b, bP b)
abbrev tkn (b : Blk) : Blk := (bB b, bG b, bC b, bP b, bS b, bT b + 1, bC b (bT b + 1))
theorem rst_id {b : Blk} (h1 : bT b = 0) (h2 : bL b = 0) : b = rst b := by
  obtain ⟨B, G, C, P, S, T, L⟩ := b
  subst h1 h2
  rfl
abbrev newB : Blk := (fun _ => 0, fun _ => 0, fun _ => 0, 0, 0, 0, 0)
/-- a block more -/
theorem LBb_addA {D : va_G} {h h' : gH} {x bl yl b : Nat} {A Y : List Nat} {bs : Nat → Blk} {ys : Nat → Lay} {pn tb : Int} {k : Blk} (hx : LBb D h x bl yl A bs Y ys pn tb) (hb : isBk D h b k) (hn : b ∉ A) (hA' : isAL D h' bl 0 (A ++ [b])) (hk : kp (P_AL bl) h h') : isLB D h' x (A ++ [b]) (va_up bs A.length k) Y ys pn tb := by
  obtain ⟨fX, hA, hY, h1, h2, h3, h4⟩ := hx
  refine ⟨bl, yl, kpA_oth hA hk fX (show (3 : Nat) ≠ 5 by decide) (show (3 : Nat) ≠ 14 by decide), hA', isAL_oth hY hA (by decide) hk, fun i hi => ?_, fun i hi => isLy_al (h2 i hi) hA hk, nodup_app h3 hn, h4⟩
  rw [List.length_append, List.length_singleton] at hi
  by_cases e : i = A.length
  · rw [e, va_up_self, getD_app2]
    exact isBk_al hb hA hk
  · rw [va_up_ne _ _ e, getD_app1 (by omega)]
    exact isBk_al (h1 i (by omega)) hA hk
/-- a layer more -/
theorem LBb_addY {D : va_G} {h h' : gH} {x bl yl b : Nat} {A Y : List Nat} {bs : Nat → Blk} {ys : Nat → Lay} {pn tb : Int} {k : Lay} (hx : LBb D h x bl yl A bs Y ys pn tb) (hb : isLy D h b k) (hn : b ∉ Y) (hA' : isAL D h' yl 1 (Y ++ [b])) (hk : kp (P_AL yl) h h') : isLB D h' x A bs (Y ++ [b]) (va_up ys Y.length k) pn tb := by
  obtain ⟨fX, hA, hY, h1, h2, h3, h4⟩ := hx
  refine ⟨bl, yl, kpA_oth hY hk fX (show (3 : Nat) ≠ 5 by decide) (show (3 : Nat) ≠ 14 by decide), isAL_oth hA hY (by decide) hk, hA', fun i hi => isBk_al (h1 i hi) hY hk, fun i hi => ?_, h3, nodup_app h4 hn⟩
  rw [List.length_append, List.length_singleton] at hi
  by_cases e : i = Y.length
  · rw [e, va_up_self, getD_app2]
    exact isLy_al hb hY hk
  · rw [va_up_ne _ _ e, getD_app1 (by omega)]
    exact isLy_al (h2 i (by omega)) hY hk
end
section
set_option maxHeartbeats 4000000 in
set_option maxRecDepth 100000 in
theorem c_LB_gain {D : va_G} {s0 : State} {l : Launch} {h : gH} (B0 : gB D s0) (hfl : l.flags = flags0) {x : Nat} {A Y : List Nat} {bs : Nat → Blk} {ys : Nat → Lay} {pn tb : Int} (hx : isLB D h x A bs Y ys pn tb) (hAl : A.length ≤ 1024) (hYl : Y.length ≤ 64) (hbo : ∀ i, i < A.length → okB (bs i)) {i j : Int} (hi : i_ok i) (hj : i_ok j) : gMetX D s0 l y_LB_gain b_LB_gain 4 (some .long) ({ frames := 6, cells := 1, slots := 6, locals := 105 } : Room) [.ref x, .int (iZ (i)), .int (iZ (j))] h (fun v h' => ∃ b k : Nat, (b : Int) = i ∧ (k : Int) = j ∧ b < A.length ∧ k < bS (bs b) ∧ some (.long (lZ (bG (bs b) (bC (bs b) (k + 1)) - bG (bs b) (bC (bs b) k)))) = v ∧ h = h') (fun C h' => ((C = "java/lang/IllegalArgumentException" ∧ ¬ (0 ≤ i ∧ i < A.length)) ∨ (C = "java/lang/IndexOutOfBoundsException" ∧ ∃ b : Nat, (b : Int) = i ∧ b < A.length ∧ ¬ (0 ≤ j ∧ j < bS (bs b)))) ∧ h = h') := by
  obtain ⟨bl, yl, fX, hA, hY, hbs, hys, hnd, hnd2⟩ := id hx
  obtain ⟨eb, mb, fbl, -⟩ := id hA
  obtain ⟨ey, my, fyl, -⟩ := id hY
  obtain ⟨hi1, hi2⟩ := id hi
  obtain ⟨hj1, hj2⟩ := id hj
  refine g_enterX B0 (plainFor_of_name (by decide)) (Nat.le_of_ble_eq_true rfl) (fun p e s m below meth c ls X hxt hnm hl => ?_)
  have hl : lv_has ls 4 [(0, .ref x), (1, .int (iZ (i))), (2, .int (iZ (j)))] := hl
  refine g_1 (fun w => lv_aload_n X.1 X.2.1 d_LB_gain_0 rfl (lv_at hl 0 rfl) w) ?_
  refine g_1 (fun w => lv_iload_n X.1 X.2.1 d_LB_gain_1 rfl (lv_at hl 1 rfl) w) ?_
  refine g_callV (na := 1) X (c_LB_hasBlock B0 hx hAl hYl ⟨by omega, by omega⟩) rfl fX rfl ⟨⟨tw_285, tw_1⟩, ⟨by decide, by decide, by decide +kernel⟩, by decide, by decide⟩ tw_282 tw_284 ts_LB_hasBlock rfl hl.1 (Nat.le_of_ble_eq_true rfl) ⟨by decide, by decide⟩ d_LB_gain_2 (fun v h' hp => ?_)
  obtain ⟨rfl, rfl⟩ := hp
  refine g_widen (k' := 0) (n' := 0) (by decide) (by decide) ?_
  show G D s0 p l e _ s m _ below meth c h _ _ _ (F0 m 5 ls [.int (iZ (if 0 ≤ i ∧ i < A.length then 1 else 0))])
  refine g_if_ne (tgt := 18) X (by first | (split <;> exact ⟨by omega, by omega⟩) | exact ⟨by omega, by omega⟩ | exact cmpZ_ok _ _) d_LB_gain_5 (by decide) (fun c5 => ?_) (fun c5 => ?_)
  · obtain ⟨bi, rfl, hbi⟩ : ∃ bi : Nat, (bi : Int) = i ∧ bi < A.length := ⟨i.toNat, by have z := if_1 c5; omega, by have z := if_1 c5; omega⟩
    obtain ⟨p1, p2, p3, fb, fB, fG, fC⟩ := id (hbs bi hbi)
    obtain ⟨k1, k2, k3, k4, k5, k6, k7, k8⟩ := id (hbo bi hbi)
    refine g_1 (fun w => lv_aload_n X.1 X.2.1 d_LB_gain_18 rfl (lv_at hl 0 rfl) w) ?_
    refine g_get X (ci := 0) rfl fX 0 (by decide) ⟨rfl, rfl⟩ tw_55 (Or.inl rfl) rfl d_LB_gain_19 ?_
    refine g_1 (fun w => lv_iload_n X.1 X.2.1 d_LB_gain_22 rfl (lv_at hl 1 rfl) w) ?_
    refine g_callV (na := 1) X (c_AL_get B0 hA bi (by omega)) rfl fbl rfl ⟨⟨tw_91, tw_4⟩, ⟨by decide, by decide, by decide +kernel⟩, by decide, by decide⟩ tw_88 tw_89 tw_90 rfl hl.1 (Nat.le_of_ble_eq_true rfl) ⟨by decide, by decide⟩ d_LB_gain_23 (fun v h' hp => ?_)
    obtain ⟨rfl, rfl⟩ := hp
    refine g_widen (k' := 0) (n' := 0) (by decide) (by decide) ?_
    show G D s0 p l e _ s m _ below meth c h _ _ _ (F0 m 26 ls [.ref (A.getD bi 0)])
    refine g_cast X fb rfl tw_102 tw_652 d_LB_gain_26 ?_
    refine g_s (fun kk => lv_astore_n (lv' := [(3, .ref (A.getD bi 0)), (0, .ref x), (1, .int (iZ (bi))), (2, .int (iZ (j)))]) X.1 X.2.1 d_LB_gain_29 rfl hl (by decide) rfl kk) (fun ls hl => ?_)
    refine g_1 (fun w => lv_aload_n X.1 X.2.1 d_LB_gain_30 rfl (lv_at hl 0 rfl) w) ?_
    refine g_1 (fun w => lv_iload_n X.1 X.2.1 d_LB_gain_31 rfl (lv_at hl 3 rfl) w) ?_
    refine g_callVN (na := 1) X (c_BK_hasStep B0 (hbs bi hbi) (hbo bi hbi) ⟨by omega, by omega⟩) rfl fb rfl ⟨⟨tw_350, tw_12⟩, ⟨by decide, by decide, by decide +kernel⟩, by decide, by decide⟩ tw_347 tw_349 ts_BK_hasStep rfl hl.1 (Nat.le_of_ble_eq_true rfl) ⟨by decide, by decide⟩ d_LB_gain_32 (fun v h' hp => ?_)
    obtain ⟨rfl, rfl⟩ := hp
    refine g_widen (k' := 0) (n' := 0) (by decide) (by decide) ?_
    show G D s0 p l e _ s m _ below meth c h _ _ _ (F0 m 35 ls [.int (iZ (if 0 ≤ j ∧ j < bS (bs bi) then 1 else 0))])
    refine g_if_ne (tgt := 48) X (by first | (split <;> exact ⟨by omega, by omega⟩) | exact ⟨by omega, by omega⟩ | exact cmpZ_ok _ _) d_LB_gain_35 (by decide) (fun c35 => ?_) (fun c35 => ?_)
    · obtain ⟨si, rfl, hsi⟩ : ∃ si : Nat, (si : Int) = j ∧ si < bS (bs bi) := ⟨j.toNat, by have z := if_1 c35; omega, by have z := if_1 c35; omega⟩
      refine g_1 (fun w => lv_aload_n X.1 X.2.1 d_LB_gain_48 rfl (lv_at hl 0 rfl) w) ?_
      refine g_1 (fun w => lv_iload_n X.1 X.2.1 d_LB_gain_49 rfl (lv_at hl 3 rfl) w) ?_
      refine g_callVN (na := 1) X (c_BK_stepGain B0 (hbs bi hbi) (hbo bi hbi) si (by omega)) rfl fb rfl ⟨⟨tw_327, tw_12⟩, ⟨by decide, by decide, by decide +kernel⟩, by decide, by decide⟩ tw_379 tw_326 ts_BK_stepGain rfl hl.1 (Nat.le_of_ble_eq_true rfl) ⟨by decide, by decide⟩ d_LB_gain_50 (fun v h' hp => ?_)
      obtain ⟨rfl, rfl⟩ := hp
      refine g_widen (k' := 0) (n' := 0) (by decide) (by decide) ?_
      show G D s0 p l e _ s m _ below meth c h _ _ _ (F0 m 53 ls [.long (lZ (bG (bs bi) (bC (bs bi) (si + 1)) - bG (bs bi) (bC (bs bi) si)))])
      exact g_rx (g_lret X (⟨bi, si, rfl, rfl, hbi, hsi, rfl, rfl⟩) (by decide) (by decide) d_LB_gain_53)
    · exact g_throw X hfl hxt (i1 := 88) (i2 := 90) (i3 := 92) g_oa_IX (by decide +kernel) tw_351 tw_352 tw_19 (tx := "no such step") (by decide) (⟨Or.inr ⟨rfl, bi, rfl, hbi, if_0 c35⟩, rfl⟩) hl.1 (by decide) (by decide) ⟨by decide, by decide⟩ ⟨by decide, by decide⟩ d_LB_gain_38 d_LB_gain_41 d_LB_gain_42 d_LB_gain_44 d_LB_gain_47
  · exact g_throw X hfl hxt (i1 := 51) (i2 := 53) (i3 := 55) g_oa_IA (by decide +kernel) tw_286 tw_287 tw_17 (tx := "no such block") (by decide) (⟨Or.inl ⟨rfl, if_0 c5⟩, rfl⟩) hl.1 (by decide) (by decide) ⟨by decide, by decide⟩ ⟨by decide, by decide⟩ d_LB_gain_8 d_LB_gain_11 d_LB_gain_12 d_LB_gain_14 d_LB_gain_17

set_option maxHeartbeats 4000000 in
set_option maxRecDepth 100000 in
theorem c_LB_step {D : va_G} {s0 : State} {l : Launch} {h : gH} (B0 : gB D s0) (hfl : l.flags = flags0) {x : Nat} {A Y : List Nat} {bs : Nat → Blk} {ys : Nat → Lay} {pn tb : Int} (hx : isLB D h x A bs Y ys pn tb) (hAl : A.length ≤ 1024) (hYl : Y.length ≤ 64) (hbo : ∀ i, i < A.length → okB (bs i)) {i j z : Int} (hi : i_ok i) (hj : i_ok j) (hz : i_ok z) : gMetX D s0 l y_LB_step b_LB_step 5 (some .int) ({ frames := 6, cells := 1, slots := 6, locals := 105 } : Room) [.ref x, .int (iZ (i)), .int (iZ (j)), .int (iZ (z))] h (fun v h' => ∃ b : Nat, (b : Int) = i ∧ b < A.length ∧ ((j = -1 ∧ some (.int (iZ (bS (bs b)))) = v) ∨ (j ≠ -1 ∧ (z = 0 ∨ z = 1) ∧ ∃ k : Nat, (k : Int) = j ∧ k < bS (bs b) ∧ some (.int (iZ (if z = 0 then (bC (bs b) (k + 1) : Int) else bB (bs b) (bC (bs b) (k + 1)) - bB (bs b) (bC (bs b) k)))) = v)) ∧ h = h') (fun C h' => ((C = "java/lang/IllegalArgumentException" ∧ (¬ (0 ≤ i ∧ i < A.length) ∨ (j ≠ -1 ∧ ¬ (z = 0 ∨ z = 1)))) ∨ (C = "java/lang/IndexOutOfBoundsException" ∧ j ≠ -1 ∧ (z = 0 ∨ z = 1) ∧ ∃ b : Nat, (b : Int) = i ∧ b < A.length ∧ ¬ (0 ≤ j ∧ j < bS (bs b)))) ∧ h = h') := by
  obtain ⟨bl, yl, fX, hA, hY, hbs, hys, hnd, hnd2⟩ := id hx
  obtain ⟨eb, mb, fbl, -⟩ := id hA
  obtain ⟨ey, my, fyl, -⟩ := id hY
  obtain ⟨hi1, hi2⟩ := id hi
  obtain ⟨hj1, hj2⟩ := id hj
  obtain ⟨hz1, hz2⟩ := id hz
  refine g_enterX B0 (plainFor_of_name (by decide)) (Nat.le_of_ble_eq_true rfl) (fun p e s m below meth c ls X hxt hnm hl => ?_)
  have hl : lv_has ls 5 [(0, .ref x), (1, .int (iZ (i))), (2, .int (iZ (j))), (3, .int (iZ (z)))] := hl
  refine g_1 (fun w => lv_aload_n X.1 X.2.1 d_LB_step_0 rfl (lv_at hl 0 rfl) w) ?_
  refine g_1 (fun w => lv_iload_n X.1 X.2.1 d_LB_step_1 rfl (lv_at hl 1 rfl) w) ?_
  refine g_callV (na := 1) X (c_LB_hasBlock B0 hx hAl hYl ⟨by omega, by omega⟩) rfl fX rfl ⟨⟨tw_285, tw_1⟩, ⟨by decide, by decide, by decide +kernel⟩, by decide, by decide⟩ tw_282 tw_284 ts_LB_hasBlock rfl hl.1 (Nat.le_of_ble_eq_true rfl) ⟨by decide, by decide⟩ d_LB_step_2 (fun v h' hp => ?_)
  obtain ⟨rfl, rfl⟩ := hp
  refine g_widen (k' := 0) (n' := 0) (by decide) (by decide) ?_
  show G D s0 p l e _ s m _ below meth c h _ _ _ (F0 m 5 ls [.int (iZ (if 0 ≤ i ∧ i < A.length then 1 else 0))])
  refine g_if_ne (tgt := 18) X (by first | (split <;> exact ⟨by omega, by omega⟩) | exact ⟨by omega, by omega⟩ | exact cmpZ_ok _ _) d_LB_step_5 (by decide) (fun c5 => ?_) (fun c5 => ?_)
  · obtain ⟨bi, rfl, hbi⟩ : ∃ bi : Nat, (bi : Int) = i ∧ bi < A.length := ⟨i.toNat, by have z := if_1 c5; omega, by have z := if_1 c5; omega⟩
    obtain ⟨p1, p2, p3, fb, fB, fG, fC⟩ := id (hbs bi hbi)
    obtain ⟨k1, k2, k3, k4, k5, k6, k7, k8⟩ := id (hbo bi hbi)
    refine g_1 (fun w => lv_aload_n X.1 X.2.1 d_LB_step_18 rfl (lv_at hl 0 rfl) w) ?_
    refine g_get X (ci := 0) rfl fX 0 (by decide) ⟨rfl, rfl⟩ tw_55 (Or.inl rfl) rfl d_LB_step_19 ?_
    refine g_1 (fun w => lv_iload_n X.1 X.2.1 d_LB_step_22 rfl (lv_at hl 1 rfl) w) ?_
    refine g_callV (na := 1) X (c_AL_get B0 hA bi (by omega)) rfl fbl rfl ⟨⟨tw_91, tw_4⟩, ⟨by decide, by decide, by decide +kernel⟩, by decide, by decide⟩ tw_88 tw_89 tw_90 rfl hl.1 (Nat.le_of_ble_eq_true rfl) ⟨by decide, by decide⟩ d_LB_step_23 (fun v h' hp => ?_)
    obtain ⟨rfl, rfl⟩ := hp
    refine g_widen (k' := 0) (n' := 0) (by decide) (by decide) ?_
    show G D s0 p l e _ s m _ below meth c h _ _ _ (F0 m 26 ls [.ref (A.getD bi 0)])
    refine g_cast X fb rfl tw_102 tw_652 d_LB_step_26 ?_
    refine g_s (fun kk => lv_astore (lv' := [(4, .ref (A.getD bi 0)), (0, .ref x), (1, .int (iZ (bi))), (2, .int (iZ (j))), (3, .int (iZ (z)))]) X.1 X.2.1 d_LB_step_29 hl (by decide) rfl kk) (fun ls hl => ?_)
    refine g_1 (fun w => lv_iload_n X.1 X.2.1 d_LB_step_31 rfl (lv_at hl 3 rfl) w) ?_
    refine g_1 (fun w => lv_iconst (v := iZ (-1)) X.1 X.2.1 d_LB_step_32 rfl w) ?_
    refine g_icmp_ne (tgt := 42) X (by first | (split <;> exact ⟨by omega, by omega⟩) | exact ⟨by omega, by omega⟩ | exact cmpZ_ok _ _) (by first | (split <;> exact ⟨by omega, by omega⟩) | exact ⟨by omega, by omega⟩ | exact cmpZ_ok _ _) d_LB_step_33 (by decide) (fun c33 => ?_) (fun c33 => ?_)
    · refine g_1 (fun w => lv_iload_n X.1 X.2.1 d_LB_step_42 rfl (lv_at hl 4 rfl) w) ?_
      refine g_if_eq (tgt := 61) X (by first | (split <;> exact ⟨by omega, by omega⟩) | exact ⟨by omega, by omega⟩ | exact cmpZ_ok _ _) d_LB_step_43 (by decide) (fun c43 => ?_) (fun c43 => ?_)
      · refine g_1 (fun w => lv_aload X.1 X.2.1 d_LB_step_61 (lv_at hl 0 rfl) w) ?_
        refine g_1 (fun w => lv_iload_n X.1 X.2.1 d_LB_step_63 rfl (lv_at hl 3 rfl) w) ?_
        refine g_callVN (na := 1) X (c_BK_hasStep B0 (hbs bi hbi) (hbo bi hbi) ⟨by omega, by omega⟩) rfl fb rfl ⟨⟨tw_350, tw_12⟩, ⟨by decide, by decide, by decide +kernel⟩, by decide, by decide⟩ tw_347 tw_349 ts_BK_hasStep rfl hl.1 (Nat.le_of_ble_eq_true rfl) ⟨by decide, by decide⟩ d_LB_step_64 (fun v h' hp => ?_)
        obtain ⟨rfl, rfl⟩ := hp
        refine g_widen (k' := 0) (n' := 0) (by decide) (by decide) ?_
        show G D s0 p l e _ s m _ below meth c h _ _ _ (F0 m 67 ls [.int (iZ (if 0 ≤ j ∧ j < bS (bs bi) then 1 else 0))])
        refine g_if_ne (tgt := 80) X (by first | (split <;> exact ⟨by omega, by omega⟩) | exact ⟨by omega, by omega⟩ | exact cmpZ_ok _ _) d_LB_step_67 (by decide) (fun c67 => ?_) (fun c67 => ?_)
        · obtain ⟨si, rfl, hsi⟩ : ∃ si : Nat, (si : Int) = j ∧ si < bS (bs bi) := ⟨j.toNat, by have z := if_1 c67; omega, by have z := if_1 c67; omega⟩
          refine g_1 (fun w => lv_iload_n X.1 X.2.1 d_LB_step_80 rfl (lv_at hl 4 rfl) w) ?_
          refine g_if_ne (tgt := 93) X (by first | (split <;> exact ⟨by omega, by omega⟩) | exact ⟨by omega, by omega⟩ | exact cmpZ_ok _ _) d_LB_step_81 (by decide) (fun c81 => ?_) (fun c81 => ?_)
          · refine g_1 (fun w => lv_aload X.1 X.2.1 d_LB_step_93 (lv_at hl 0 rfl) w) ?_
            refine g_1 (fun w => lv_iload_n X.1 X.2.1 d_LB_step_95 rfl (lv_at hl 3 rfl) w) ?_
            refine g_callVN (na := 1) X (c_BK_stepBytes B0 (hbs bi hbi) (hbo bi hbi) si (by omega)) rfl fb rfl ⟨⟨tw_331, tw_12⟩, ⟨by decide, by decide, by decide +kernel⟩, by decide, by decide⟩ tw_371 tw_330 ts_BK_stepBytes rfl hl.1 (Nat.le_of_ble_eq_true rfl) ⟨by decide, by decide⟩ d_LB_step_96 (fun v h' hp => ?_)
            obtain ⟨rfl, rfl⟩ := hp
            refine g_widen (k' := 0) (n' := 0) (by decide) (by decide) ?_
            show G D s0 p l e _ s m _ below meth c h _ _ _ (F0 m 99 ls [.int (iZ (bB (bs bi) (bC (bs bi) (si + 1)) - bB (bs bi) (bC (bs bi) si)))])
            exact g_rx (g_iret X (⟨bi, rfl, hbi, Or.inr ⟨c33, by omega, si, rfl, hsi, by rw [if_neg c81]⟩, rfl⟩) (by decide) (by decide) d_LB_step_99)
          · refine g_1 (fun w => lv_aload X.1 X.2.1 d_LB_step_84 (lv_at hl 0 rfl) w) ?_
            refine g_1 (fun w => lv_iload_n X.1 X.2.1 d_LB_step_86 rfl (lv_at hl 3 rfl) w) ?_
            refine g_callVN (na := 1) X (c_BK_stepEnd B0 (hbs bi hbi) (hbo bi hbi) si (by omega)) rfl fb rfl ⟨⟨tw_370, tw_12⟩, ⟨by decide, by decide, by decide +kernel⟩, by decide, by decide⟩ tw_367 tw_369 ts_BK_stepEnd rfl hl.1 (Nat.le_of_ble_eq_true rfl) ⟨by decide, by decide⟩ d_LB_step_87 (fun v h' hp => ?_)
            obtain ⟨rfl, rfl⟩ := hp
            refine g_widen (k' := 0) (n' := 0) (by decide) (by decide) ?_
            show G D s0 p l e _ s m _ below meth c h _ _ _ (F0 m 90 ls [.int (iZ (bC (bs bi) (si + 1)))])
            refine g_goto (tgt := 99) X d_LB_step_90 (by decide) ?_
            exact g_rx (g_iret X (⟨bi, rfl, hbi, Or.inr ⟨c33, by omega, si, rfl, hsi, by rw [if_pos c81]⟩, rfl⟩) (by decide) (by decide) d_LB_step_99)
        · exact g_throw X hfl hxt (i1 := 88) (i2 := 90) (i3 := 92) g_oa_IX (by decide +kernel) tw_351 tw_352 tw_19 (tx := "no such step") (by decide) (⟨Or.inr ⟨rfl, c33, by omega, bi, rfl, hbi, if_0 c67⟩, rfl⟩) hl.1 (by decide) (by decide) ⟨by decide, by decide⟩ ⟨by decide, by decide⟩ d_LB_step_70 d_LB_step_73 d_LB_step_74 d_LB_step_76 d_LB_step_79
      · refine g_1 (fun w => lv_iload_n X.1 X.2.1 d_LB_step_46 rfl (lv_at hl 4 rfl) w) ?_
        refine g_1 (fun w => lv_iconst (v := iZ 1) X.1 X.2.1 d_LB_step_47 rfl w) ?_
        refine g_icmp_eq (tgt := 61) X (by first | (split <;> exact ⟨by omega, by omega⟩) | exact ⟨by omega, by omega⟩ | exact cmpZ_ok _ _) (by first | (split <;> exact ⟨by omega, by omega⟩) | exact ⟨by omega, by omega⟩ | exact cmpZ_ok _ _) d_LB_step_48 (by decide) (fun c48 => ?_) (fun c48 => ?_)
        · refine g_1 (fun w => lv_aload X.1 X.2.1 d_LB_step_61 (lv_at hl 0 rfl) w) ?_
          refine g_1 (fun w => lv_iload_n X.1 X.2.1 d_LB_step_63 rfl (lv_at hl 3 rfl) w) ?_
          refine g_callVN (na := 1) X (c_BK_hasStep B0 (hbs bi hbi) (hbo bi hbi) ⟨by omega, by omega⟩) rfl fb rfl ⟨⟨tw_350, tw_12⟩, ⟨by decide, by decide, by decide +kernel⟩, by decide, by decide⟩ tw_347 tw_349 ts_BK_hasStep rfl hl.1 (Nat.le_of_ble_eq_true rfl) ⟨by decide, by decide⟩ d_LB_step_64 (fun v h' hp => ?_)
          obtain ⟨rfl, rfl⟩ := hp
          refine g_widen (k' := 0) (n' := 0) (by decide) (by decide) ?_
          show G D s0 p l e _ s m _ below meth c h _ _ _ (F0 m 67 ls [.int (iZ (if 0 ≤ j ∧ j < bS (bs bi) then 1 else 0))])
          refine g_if_ne (tgt := 80) X (by first | (split <;> exact ⟨by omega, by omega⟩) | exact ⟨by omega, by omega⟩ | exact cmpZ_ok _ _) d_LB_step_67 (by decide) (fun c67 => ?_) (fun c67 => ?_)
          · obtain ⟨si, rfl, hsi⟩ : ∃ si : Nat, (si : Int) = j ∧ si < bS (bs bi) := ⟨j.toNat, by have z := if_1 c67; omega, by have z := if_1 c67; omega⟩
            refine g_1 (fun w => lv_iload_n X.1 X.2.1 d_LB_step_80 rfl (lv_at hl 4 rfl) w) ?_
            refine g_if_ne (tgt := 93) X (by first | (split <;> exact ⟨by omega, by omega⟩) | exact ⟨by omega, by omega⟩ | exact cmpZ_ok _ _) d_LB_step_81 (by decide) (fun c81 => ?_) (fun c81 => ?_)
            · refine g_1 (fun w => lv_aload X.1 X.2.1 d_LB_step_93 (lv_at hl 0 rfl) w) ?_
              refine g_1 (fun w => lv_iload_n X.1 X.2.1 d_LB_step_95 rfl (lv_at hl 3 rfl) w) ?_
              refine g_callVN (na := 1) X (c_BK_stepBytes B0 (hbs bi hbi) (hbo bi hbi) si (by omega)) rfl fb rfl ⟨⟨tw_331, tw_12⟩, ⟨by decide, by decide, by decide +kernel⟩, by decide, by decide⟩ tw_371 tw_330 ts_BK_stepBytes rfl hl.1 (Nat.le_of_ble_eq_true rfl) ⟨by decide, by decide⟩ d_LB_step_96 (fun v h' hp => ?_)
              obtain ⟨rfl, rfl⟩ := hp
              refine g_widen (k' := 0) (n' := 0) (by decide) (by decide) ?_
              show G D s0 p l e _ s m _ below meth c h _ _ _ (F0 m 99 ls [.int (iZ (bB (bs bi) (bC (bs bi) (si + 1)) - bB (bs bi) (bC (bs bi) si)))])
              exact g_rx (g_iret X (⟨bi, rfl, hbi, Or.inr ⟨c33, by omega, si, rfl, hsi, by rw [if_neg c81]⟩, rfl⟩) (by decide) (by decide) d_LB_step_99)
            · refine g_1 (fun w => lv_aload X.1 X.2.1 d_LB_step_84 (lv_at hl 0 rfl) w) ?_
              refine g_1 (fun w => lv_iload_n X.1 X.2.1 d_LB_step_86 rfl (lv_at hl 3 rfl) w) ?_
              refine g_callVN (na := 1) X (c_BK_stepEnd B0 (hbs bi hbi) (hbo bi hbi) si (by omega)) rfl fb rfl ⟨⟨tw_370, tw_12⟩, ⟨by decide, by decide, by decide +kernel⟩, by decide, by decide⟩ tw_367 tw_369 ts_BK_stepEnd rfl hl.1 (Nat.le_of_ble_eq_true rfl) ⟨by decide, by decide⟩ d_LB_step_87 (fun v h' hp => ?_)
              obtain ⟨rfl, rfl⟩ := hp
              refine g_widen (k' := 0) (n' := 0) (by decide) (by decide) ?_
              show G D s0 p l e _ s m _ below meth c h _ _ _ (F0 m 90 ls [.int (iZ (bC (bs bi) (si + 1)))])
              refine g_goto (tgt := 99) X d_LB_step_90 (by decide) ?_
              exact g_rx (g_iret X (⟨bi, rfl, hbi, Or.inr ⟨c33, by omega, si, rfl, hsi, by rw [if_pos c81]⟩, rfl⟩) (by decide) (by decide) d_LB_step_99)
          · exact g_throw X hfl hxt (i1 := 88) (i2 := 90) (i3 := 92) g_oa_IX (by decide +kernel) tw_351 tw_352 tw_19 (tx := "no such step") (by decide) (⟨Or.inr ⟨rfl, c33, by omega, bi, rfl, hbi, if_0 c67⟩, rfl⟩) hl.1 (by decide) (by decide) ⟨by decide, by decide⟩ ⟨by decide, by decide⟩ d_LB_step_70 d_LB_step_73 d_LB_step_74 d_LB_step_76 d_LB_step_79
        · exact g_throw X hfl hxt (i1 := 51) (i2 := 83) (i3 := 55) g_oa_IA (by decide +kernel) tw_286 tw_287 tw_17 (tx := "no such w") (by decide) (⟨Or.inl ⟨rfl, Or.inr ⟨c33, by omega⟩⟩, rfl⟩) hl.1 (by decide) (by decide) ⟨by decide, by decide⟩ ⟨by decide, by decide⟩ d_LB_step_51 d_LB_step_54 d_LB_step_55 d_LB_step_57 d_LB_step_60
    · refine g_1 (fun w => lv_aload X.1 X.2.1 d_LB_step_36 (lv_at hl 0 rfl) w) ?_
      refine g_getN X (ci := 1) rfl fb 4 (by decide) ⟨rfl, rfl⟩ tw_198 rfl d_LB_step_38 ?_
      exact g_rx (g_iret X (⟨bi, rfl, hbi, Or.inl ⟨c33, rfl⟩, rfl⟩) (by decide) (by decide) d_LB_step_41)
  · exact g_throw X hfl hxt (i1 := 51) (i2 := 53) (i3 := 55) g_oa_IA (by decide +kernel) tw_286 tw_287 tw_17 (tx := "no such block") (by decide) (⟨Or.inl ⟨rfl, Or.inl (if_0 c5)⟩, rfl⟩) hl.1 (by decide) (by decide) ⟨by decide, by decide⟩ ⟨by decide, by decide⟩ d_LB_step_8 d_LB_step_11 d_LB_step_12 d_LB_step_14 d_LB_step_17
end
section
set_option maxHeartbeats 4000000 in
set_option maxRecDepth 100000 in
theorem c_LB_dropLayers {D : va_G} {s0 : State} {l : Launch} {h : gH} (B0 : gB D s0) {x : Nat} {A Y : List Nat} {bs : Nat → Blk} {ys : Nat → Lay} {pn tb : Int} (hx : isLB D h x A bs Y ys pn tb) (hAl : A.length ≤ 1024) (hYl : Y.length ≤ 64) (hbo : ∀ i, i < A.length → okB (bs i)) (hE : Y.length = 0 → tb = 0 ∧ ∀ i, i < A.length → bT (bs i) = 0 ∧ bL (bs i) = 0) : gMet D s0 l y_LB_dropLayers b_LB_dropLayers 2 none ({ frames := 3, cells := 0, slots := 0, locals := 64 } : Room) [.ref x] h (fun v h' => none = v ∧ isLB D h' x A (fun j => rst (bs j)) [] ys pn 0 ∧ kp P_LB h h') := by
  obtain ⟨bl, yl, fX, hA, hY, hbs, hys, hnd, hnd2⟩ := id hx
  obtain ⟨eb, mb, fbl, -⟩ := id hA
  obtain ⟨ey, my, fyl, -⟩ := id hY
  refine g_enter B0 (plainFor_of_name (by decide)) (Nat.le_of_ble_eq_true rfl) (fun p e s m below meth c ls X hnm hl => ?_)
  have hl : lv_has ls 2 [(0, .ref x)] := hl
  have loop : ∀ (d i : Nat) (hh : gH) (ls : Array Slot), i + d = A.length → isLB D hh x A (upto rst bs i) [] ys pn 0 → kp P_LB h hh → lv_has ls 2 [(1, .int (iZ (i))), (0, .ref x)] → G D s0 p l e ({ frames := 3, cells := 0, slots := 0, locals := 64 } : Room) s m ([.ref x] : List Value).toArray below meth c hh 0 0 (MQ below (gQ D s0 (fun v h' => none = v ∧ isLB D h' x A (fun j => rst (bs j)) [] ys pn 0 ∧ kp P_LB h h')) ([.ref x] : List Value).toArray s 0 0 (fun q => s0.heap.size ≤ q)) (F0 m 25 ls []) := by
    intro d
    induction d with
    | zero =>
      intro i hh ls hi hx2 hkk hl
      obtain ⟨bl, yl, fX, hA, hY, hbs, hys, hnd, hnd2⟩ := id hx2
      obtain ⟨eb, mb, fbl, -⟩ := id hA
      obtain ⟨ey, my, fyl, -⟩ := id hY
      refine g_1 (fun w => lv_iload_n X.1 X.2.1 d_LB_dropLayers_25 rfl (lv_at hl 0 rfl) w) ?_
      refine g_1 (fun w => lv_aload_n X.1 X.2.1 d_LB_dropLayers_26 rfl (lv_at hl 1 rfl) w) ?_
      refine g_get X (ci := 0) rfl fX 0 (by decide) ⟨rfl, rfl⟩ tw_55 (Or.inl rfl) rfl d_LB_dropLayers_27 ?_
      refine g_callV (na := 0) X (c_AL_size B0 hA) rfl fbl rfl ⟨⟨tw_87, tw_4⟩, ⟨by decide, by decide, by decide +kernel⟩, by decide, by decide⟩ tw_84 tw_85 tw_86 rfl hl.1 (Nat.le_of_ble_eq_true rfl) ⟨by decide, by decide⟩ d_LB_dropLayers_30 (fun v h' hp => ?_)
      obtain ⟨rfl, rfl⟩ := hp
      refine g_widen (k' := 0) (n' := 0) (by decide) (by decide) ?_
      show G D s0 p l e _ s m _ below meth c hh _ _ _ (F0 m 33 ls [.int (iZ (A.length)), .int (iZ (i))])
      refine g_icmp_ge (tgt := 56) X (by first | (split <;> exact ⟨by omega, by omega⟩) | exact ⟨by omega, by omega⟩ | exact cmpZ_ok _ _) (by first | (split <;> exact ⟨by omega, by omega⟩) | exact ⟨by omega, by omega⟩ | exact cmpZ_ok _ _) d_LB_dropLayers_33 (by decide) (fun c33 => ?_) (fun c33 => ?_)
      · exact g_vret X (⟨rfl, hx2.congr (fun j hj => by rw [show i = A.length by omega, upto_lt hj]), hkk⟩) (by decide) (by decide) d_LB_dropLayers_56
      · exfalso
        omega
    | succ d ih =>
      intro i hh ls hi hx2 hkk hl
      obtain ⟨bl, yl, fX, hA, hY, hbs, hys, hnd, hnd2⟩ := id hx2
      obtain ⟨eb, mb, fbl, -⟩ := id hA
      obtain ⟨ey, my, fyl, -⟩ := id hY
      have hb1 : isBk D hh (A.getD i 0) (bs i) := by have z := hbs i (by omega); rw [upto_at] at z; exact z
      obtain ⟨p1, p2, p3, fb, -⟩ := id hb1
      refine g_1 (fun w => lv_iload_n X.1 X.2.1 d_LB_dropLayers_25 rfl (lv_at hl 0 rfl) w) ?_
      refine g_1 (fun w => lv_aload_n X.1 X.2.1 d_LB_dropLayers_26 rfl (lv_at hl 1 rfl) w) ?_
      refine g_get X (ci := 0) rfl fX 0 (by decide) ⟨rfl, rfl⟩ tw_55 (Or.inl rfl) rfl d_LB_dropLayers_27 ?_
      refine g_callV (na := 0) X (c_AL_size B0 hA) rfl fbl rfl ⟨⟨tw_87, tw_4⟩, ⟨by decide, by decide, by decide +kernel⟩, by decide, by decide⟩ tw_84 tw_85 tw_86 rfl hl.1 (Nat.le_of_ble_eq_true rfl) ⟨by decide, by decide⟩ d_LB_dropLayers_30 (fun v h' hp => ?_)
      obtain ⟨rfl, rfl⟩ := hp
      refine g_widen (k' := 0) (n' := 0) (by decide) (by decide) ?_
      show G D s0 p l e _ s m _ below meth c hh _ _ _ (F0 m 33 ls [.int (iZ (A.length)), .int (iZ (i))])
      refine g_icmp_ge (tgt := 56) X (by first | (split <;> exact ⟨by omega, by omega⟩) | exact ⟨by omega, by omega⟩ | exact cmpZ_ok _ _) (by first | (split <;> exact ⟨by omega, by omega⟩) | exact ⟨by omega, by omega⟩ | exact cmpZ_ok _ _) d_LB_dropLayers_33 (by decide) (fun c33 => ?_) (fun c33 => ?_)
      · exfalso
        omega
      · refine g_1 (fun w => lv_aload_n X.1 X.2.1 d_LB_dropLayers_36 rfl (lv_at hl 1 rfl) w) ?_
        refine g_get X (ci := 0) rfl fX 0 (by decide) ⟨rfl, rfl⟩ tw_55 (Or.inl rfl) rfl d_LB_dropLayers_37 ?_
        refine g_1 (fun w => lv_iload_n X.1 X.2.1 d_LB_dropLayers_40 rfl (lv_at hl 0 rfl) w) ?_
        refine g_callV (na := 1) X (c_AL_get B0 hA i (by omega)) rfl fbl rfl ⟨⟨tw_91, tw_4⟩, ⟨by decide, by decide, by decide +kernel⟩, by decide, by decide⟩ tw_88 tw_89 tw_90 rfl hl.1 (Nat.le_of_ble_eq_true rfl) ⟨by decide, by decide⟩ d_LB_dropLayers_41 (fun v h' hp => ?_)
        obtain ⟨rfl, rfl⟩ := hp
        refine g_widen (k' := 0) (n' := 0) (by decide) (by decide) ?_
        show G D s0 p l e _ s m _ below meth c hh _ _ _ (F0 m 44 ls [.ref (A.getD i 0)])
        refine g_cast X fb rfl tw_102 tw_652 d_LB_dropLayers_44 ?_
        refine g_callVN (na := 0) X (c_BK_takeNothing B0 hb1 (hbo i (by omega))) rfl fb rfl ⟨⟨tw_107, tw_12⟩, ⟨by decide, by decide, by decide +kernel⟩, by decide, by decide⟩ tw_103 tw_105 ts_BK_takeNothing rfl hl.1 (Nat.le_of_ble_eq_true rfl) ⟨by decide, by decide⟩ d_LB_dropLayers_47 (fun v h' hp => ?_)
        obtain ⟨rfl, hb2, hk2⟩ := hp
        have hx3 : isLB D h' x A (upto rst bs (i + 1)) [] ys pn 0 := by rw [← upto_succ]; exact hx2.setB (by omega) hb2 hk2
        have hk3 := kp_tr hkk (kpB_LB hb1 hk2)
        refine g_widen (k' := 0) (n' := 0) (by decide) (by decide) ?_
        show G D s0 p l e _ s m _ below meth c h' _ _ _ (F0 m 50 ls [])
        refine g_s (fun kk => lv_iinc (v := iZ (i + 1)) (lv' := [(1, .int (iZ (i + 1))), (0, .ref x)]) X.1 X.2.1 d_LB_dropLayers_50 hl (k := 0) rfl (iZ_add _ _) (by decide) rfl kk) (fun ls hl => ?_)
        refine g_goto (tgt := 25) X d_LB_dropLayers_53 (by decide) ?_
        exact ih (i + 1) h' ls (by omega) hx3 hk3 (lv_sub hl [0, 1] rfl)
  refine g_1 (fun w => lv_aload_n X.1 X.2.1 d_LB_dropLayers_0 rfl (lv_at hl 0 rfl) w) ?_
  refine g_get X (ci := 0) rfl fX 1 (by decide) ⟨rfl, rfl⟩ tw_56 (Or.inl rfl) rfl d_LB_dropLayers_1 ?_
  refine g_callV (na := 0) X (c_AL_isEmpty B0 hY (by omega)) rfl fyl rfl ⟨⟨tw_79, tw_4⟩, ⟨by decide, by decide, by decide +kernel⟩, by decide, by decide⟩ tw_76 tw_77 tw_78 rfl hl.1 (Nat.le_of_ble_eq_true rfl) ⟨by decide, by decide⟩ d_LB_dropLayers_4 (fun v h' hp => ?_)
  obtain ⟨rfl, rfl⟩ := hp
  refine g_widen (k' := 0) (n' := 0) (by decide) (by decide) ?_
  show G D s0 p l e _ s m _ below meth c h _ _ _ (F0 m 7 ls [.int (iZ (if Y.length = 0 then 1 else 0))])
  refine g_if_eq (tgt := 11) X (by first | (split <;> exact ⟨by omega, by omega⟩) | exact ⟨by omega, by omega⟩ | exact cmpZ_ok _ _) d_LB_dropLayers_7 (by decide) (fun c7 => ?_) (fun c7 => ?_)
  · refine g_1 (fun w => lv_aload_n X.1 X.2.1 d_LB_dropLayers_11 rfl (lv_at hl 0 rfl) w) ?_
    refine g_get X (ci := 0) rfl fX 1 (by decide) ⟨rfl, rfl⟩ tw_56 (Or.inl rfl) rfl d_LB_dropLayers_12 ?_
    refine g_callV (na := 0) X (c_AL_clear B0 hY (by omega)) rfl fyl rfl ⟨⟨tw_83, tw_4⟩, ⟨by decide, by decide, by decide +kernel⟩, by decide, by decide⟩ tw_80 tw_81 tw_82 rfl hl.1 (Nat.le_of_ble_eq_true rfl) ⟨by decide, by decide⟩ d_LB_dropLayers_15 (fun v h' hp => ?_)
    obtain ⟨rfl, qY, hk1⟩ := hp
    have hkq : kp P_LB h h' := kpA_LB hY hk1
    have fX2 := kpA_oth hY hk1 fX (show (3 : Nat) ≠ 5 by decide) (show (3 : Nat) ≠ 14 by decide)
    have hx2 : isLB D h' x A bs [] ys pn tb := ⟨bl, yl, fX2, isAL_oth hA hY (by decide) hk1, qY, fun i hi => isBk_al (hbs i hi) hY hk1, fun i hi => absurd hi (Nat.not_lt_zero _), hnd, List.nodup_nil⟩
    refine g_widen (k' := 0) (n' := 0) (by decide) (by decide) ?_
    show G D s0 p l e _ s m _ below meth c h' _ _ _ (F0 m 18 ls [])
    refine g_1 (fun w => lv_aload_n X.1 X.2.1 d_LB_dropLayers_18 rfl (lv_at hl 0 rfl) w) ?_
    refine g_1 (fun w => lv_iconst (v := iZ 0) X.1 X.2.1 d_LB_dropLayers_19 rfl w) ?_
    refine g_put X (ci := 0) rfl fX2 (Nat.succ_ne_zero _) 3 (by decide) ⟨rfl, rfl⟩ tw_58 (Or.inl rfl) rfl rfl rfl (Nat.le_of_ble_eq_true rfl) d_LB_dropLayers_20 ?_
    obtain ⟨h_1, eh_1⟩ : ∃ z, z = g_up h' x ((3, 0), .inr (0, [.ref bl, .ref yl, .int (iZ (pn)), .int (iZ (0))])) := ⟨_, rfl⟩
    refine g_h (h' := h_1) eh_1.symm ?_
    have f_2 : h_1 x = some ((3, 0), .inr (0, [.ref bl, .ref yl, .int (iZ (pn)), .int (iZ (0))])) := by rw [eh_1]; exact g_us
    have hk_3 := kp_up (hkq) eh_1 fX2 (⟨Nat.le_of_ble_eq_true rfl, Nat.le_of_ble_eq_true rfl⟩)
    refine g_1 (fun w => lv_iconst (v := iZ 0) X.1 X.2.1 d_LB_dropLayers_23 rfl w) ?_
    refine g_s (fun kk => lv_istore_n (lv' := [(1, .int (iZ (0))), (0, .ref x)]) X.1 X.2.1 d_LB_dropLayers_24 rfl hl (by decide) rfl kk) (fun ls hl => ?_)
    exact loop A.length 0 h_1 ls (by omega) (by rw [upto_0]; exact hx2.setX fX2 eh_1) hk_3 (lv_sub hl [0, 1] rfl)
  · have hfin : isLB D h x A (fun j => rst (bs j)) [] ys pn 0 := by
      obtain ⟨e1, e2⟩ := hE (if_1 c7)
      obtain rfl : Y = [] := List.eq_nil_of_length_eq_zero (if_1 c7)
      subst e1
      exact hx.congr (fun i hi => rst_id (e2 i hi).1 (e2 i hi).2)
    exact g_vret X (⟨rfl, hfin, kp_rf⟩) (by decide) (by decide) d_LB_dropLayers_10

set_option maxHeartbeats 4000000 in
set_option maxRecDepth 100000 in
theorem c_LB_clear {D : va_G} {s0 : State} {l : Launch} {h : gH} (B0 : gB D s0) {x : Nat} {A Y : List Nat} {bs : Nat → Blk} {ys : Nat → Lay} {pn tb : Int} (hx : isLB D h x A bs Y ys pn tb) (hAl : A.length ≤ 1024) (hYl : Y.length ≤ 64) (hbo : ∀ i, i < A.length → okB (bs i)) (hE : Y.length = 0 → tb = 0 ∧ ∀ i, i < A.length → bT (bs i) = 0 ∧ bL (bs i) = 0) : gMet D s0 l y_LB_clear b_LB_clear 1 none ({ frames := 4, cells := 0, slots := 0, locals := 85 } : Room) [.ref x] h (fun v h' => none = v ∧ isLB D h' x [] bs [] ys 0 0 ∧ kp P_LB h h') := by
  obtain ⟨bl, yl, fX, hA, hY, hbs, hys, hnd, hnd2⟩ := id hx
  obtain ⟨eb, mb, fbl, -⟩ := id hA
  obtain ⟨ey, my, fyl, -⟩ := id hY
  refine g_enter B0 (plainFor_of_name (by decide)) (Nat.le_of_ble_eq_true rfl) (fun p e s m below meth c ls X hnm hl => ?_)
  have hl : lv_has ls 1 [(0, .ref x)] := hl
  refine g_1 (fun w => lv_aload_n X.1 X.2.1 d_LB_clear_0 rfl (lv_at hl 0 rfl) w) ?_
  refine g_callV (na := 0) X (c_LB_dropLayers B0 hx hAl hYl hbo hE) rfl fX rfl ⟨⟨tw_75, tw_1⟩, ⟨by decide, by decide, by decide +kernel⟩, by decide, by decide⟩ tw_72 tw_74 ts_LB_dropLayers rfl hl.1 (Nat.le_of_ble_eq_true rfl) ⟨by decide, by decide⟩ d_LB_clear_1 (fun v h' hp => ?_)
  obtain ⟨rfl, hx1, hk1⟩ := hp
  obtain ⟨bl, yl, fX, hA, hY, hbs, hys, hnd, hnd2⟩ := id hx1
  obtain ⟨eb, mb, fbl, -⟩ := id hA
  obtain ⟨ey, my, fyl, -⟩ := id hY
  refine g_widen (k' := 0) (n' := 0) (by decide) (by decide) ?_
  show G D s0 p l e _ s m _ below meth c h' _ _ _ (F0 m 4 ls [])
  refine g_1 (fun w => lv_aload_n X.1 X.2.1 d_LB_clear_4 rfl (lv_at hl 0 rfl) w) ?_
  refine g_get X (ci := 0) rfl fX 0 (by decide) ⟨rfl, rfl⟩ tw_55 (Or.inl rfl) rfl d_LB_clear_5 ?_
  refine g_callV (na := 0) X (c_AL_clear B0 hA (by omega)) rfl fbl rfl ⟨⟨tw_83, tw_4⟩, ⟨by decide, by decide, by decide +kernel⟩, by decide, by decide⟩ tw_80 tw_81 tw_82 rfl hl.1 (Nat.le_of_ble_eq_true rfl) ⟨by decide, by decide⟩ d_LB_clear_8 (fun v h2 hp => ?_)
  obtain ⟨rfl, qA, hk2⟩ := hp
  have hkq : kp P_LB h h2 := kp_tr hk1 (kpA_LB hA hk2)
  have fX2 := kpA_oth hA hk2 fX (show (3 : Nat) ≠ 5 by decide) (show (3 : Nat) ≠ 14 by decide)
  have hx2 : isLB D h2 x [] bs [] ys pn 0 := ⟨bl, yl, fX2, qA, isAL_oth hY hA (by decide) hk2, fun i hi => absurd hi (Nat.not_lt_zero _), fun i hi => absurd hi (Nat.not_lt_zero _), List.nodup_nil, List.nodup_nil⟩
  refine g_widen (k' := 0) (n' := 0) (by decide) (by decide) ?_
  show G D s0 p l e _ s m _ below meth c h2 _ _ _ (F0 m 11 ls [])
  refine g_1 (fun w => lv_aload_n X.1 X.2.1 d_LB_clear_11 rfl (lv_at hl 0 rfl) w) ?_
  refine g_1 (fun w => lv_iconst (v := iZ 0) X.1 X.2.1 d_LB_clear_12 rfl w) ?_
  refine g_put X (ci := 0) rfl fX2 (Nat.succ_ne_zero _) 2 (by decide) ⟨rfl, rfl⟩ tw_57 (Or.inl rfl) rfl rfl rfl (Nat.le_of_ble_eq_true rfl) d_LB_clear_13 ?_
  obtain ⟨h_1, eh_1⟩ : ∃ z, z = g_up h2 x ((3, 0), .inr (0, [.ref bl, .ref yl, .int (iZ (0)), .int (iZ (0))])) := ⟨_, rfl⟩
  refine g_h (h' := h_1) eh_1.symm ?_
  have f_2 : h_1 x = some ((3, 0), .inr (0, [.ref bl, .ref yl, .int (iZ (0)), .int (iZ (0))])) := by rw [eh_1]; exact g_us
  have hk_3 := kp_up (hkq) eh_1 fX2 (⟨Nat.le_of_ble_eq_true rfl, Nat.le_of_ble_eq_true rfl⟩)
  exact g_vret X (⟨rfl, hx2.setX fX2 eh_1, hk_3⟩) (by decide) (by decide) d_LB_clear_16
end
section
theorem okB_rst {b : Blk} (h : okB b) : okB (rst b) := ⟨h.1, h.2.1, Nat.zero_le _, Nat.zero_le _, h.2.2.2.2⟩
theorem okB_tka {b : Blk} (h : okB b) : okB (tka b) := ⟨h.1, h.2.1, Nat.le_refl _, Nat.le_refl _, h.2.2.2.2⟩
theorem renew_P (b : Blk) : bP (renew b) = bP b := by
  unfold renew
  split <;> rfl
def sm (f : Nat → Int) : Nat → Int
  | 0 => 0
  | n + 1 => sm f n + f n
abbrev B_bad (A : List Nat) (i n g : Int) : Prop := ¬ (0 ≤ i ∧ i < A.length) ∨ n < 0 ∨ g < -274877906944 ∨ 274877906944 < g
abbrev B_full (b : Blk) (n pn : Int) : Prop := 16384 ≤ pn ∨ ¬ (bP b < 120 ∧ n + bB b (bP b) ≤ 65535)
theorem LY_neA {D : va_G} {h : gH} {x bl yl : Nat} {A Y : List Nat} {bs : Nat → Blk} {ys : Nat → Lay} {pn tb : Int} (hx : LBb D h x bl yl A bs Y ys pn tb) {a : Nat} {e : va_E} (ha : h a = some ((2, 0), e)) : a ∉ A := by
  intro z
  obtain ⟨i, hi, e⟩ := mem_getD z
  obtain ⟨p1, p2, p3, fA, -⟩ := hx.2.2.2.1 i hi
  rw [e] at fA
  cases ha.symm.trans fA
theorem BK_neY {D : va_G} {h : gH} {x bl yl : Nat} {A Y : List Nat} {bs : Nat → Blk} {ys : Nat → Lay} {pn tb : Int} (hx : LBb D h x bl yl A bs Y ys pn tb) {a : Nat} {e : va_E} (ha : h a = some ((1, 0), e)) : a ∉ Y := by
  intro z
  obtain ⟨i, hi, e⟩ := mem_getD z
  obtain ⟨p1, fA, -⟩ := hx.2.2.2.2.1 i hi
  rw [e] at fA
  cases ha.symm.trans fA

set_option maxHeartbeats 4000000 in
set_option maxRecDepth 100000 in
theorem c_LB_block {D : va_G} {s0 : State} {l : Launch} {h : gH} (B0 : gB D s0) (hfl : l.flags = flags0) {x : Nat} {A Y : List Nat} {bs : Nat → Blk} {ys : Nat → Lay} {pn tb : Int} (hx : isLB D h x A bs Y ys pn tb) (hAl : A.length ≤ 1024) (hYl : Y.length ≤ 64) (hbo : ∀ i, i < A.length → okB (bs i)) (hE : Y.length = 0 → tb = 0 ∧ ∀ i, i < A.length → bT (bs i) = 0 ∧ bL (bs i) = 0) : gMetX D s0 l y_LB_block b_LB_block 1 (some .int) ({ frames := 7, cells := 5, slots := 1970, locals := 171 } : Room) [.ref x] h (fun v h' => A.length < 1024 ∧ some (.int (iZ A.length)) = v ∧ ∃ b, isLB D h' x (A ++ [b]) (va_up (fun j => rst (bs j)) A.length newB) [] ys pn 0 ∧ kp P_LB h h') (fun C h' => C = "java/lang/IllegalStateException" ∧ ¬ A.length < 1024 ∧ h = h') := by
  obtain ⟨bl, yl, fX, hA, hY, hbs, hys, hnd, hnd2⟩ := id hx
  obtain ⟨eb, mb, fbl, -⟩ := id hA
  obtain ⟨ey, my, fyl, -⟩ := id hY
  refine g_enterX B0 (plainFor_of_name (by decide)) (Nat.le_of_ble_eq_true rfl) (fun p e s m below meth c ls X hxt hnm hl => ?_)
  have hl : lv_has ls 1 [(0, .ref x)] := hl
  refine g_1 (fun w => lv_aload_n X.1 X.2.1 d_LB_block_0 rfl (lv_at hl 0 rfl) w) ?_
  refine g_get X (ci := 0) rfl fX 0 (by decide) ⟨rfl, rfl⟩ tw_55 (Or.inl rfl) rfl d_LB_block_1 ?_
  refine g_callV (na := 0) X (c_AL_size B0 hA) rfl fbl rfl ⟨⟨tw_87, tw_4⟩, ⟨by decide, by decide, by decide +kernel⟩, by decide, by decide⟩ tw_84 tw_85 tw_86 rfl hl.1 (Nat.le_of_ble_eq_true rfl) ⟨by decide, by decide⟩ d_LB_block_4 (fun v h' hp => ?_)
  obtain ⟨rfl, rfl⟩ := hp
  refine g_widen (k' := 0) (n' := 0) (by decide) (by decide) ?_
  show G D s0 p l e _ s m _ below meth c h _ _ _ (F0 m 7 ls [.int (iZ (A.length))])
  refine g_1 (fun w => lv_sipush (v := iZ 1024) X.1 X.2.1 d_LB_block_7 (by decide) w) ?_
  refine g_icmp_lt (tgt := 23) X (by first | (split <;> exact ⟨by omega, by omega⟩) | exact ⟨by omega, by omega⟩ | exact cmpZ_ok _ _) (by first | (split <;> exact ⟨by omega, by omega⟩) | exact ⟨by omega, by omega⟩ | exact cmpZ_ok _ _) d_LB_block_10 (by decide) (fun c10 => ?_) (fun c10 => ?_)
  · refine g_1 (fun w => lv_aload_n X.1 X.2.1 d_LB_block_23 rfl (lv_at hl 0 rfl) w) ?_
    refine g_callV (na := 0) X (c_LB_dropLayers B0 hx hAl hYl hbo hE) rfl fX rfl ⟨⟨tw_75, tw_1⟩, ⟨by decide, by decide, by decide +kernel⟩, by decide, by decide⟩ tw_72 tw_74 ts_LB_dropLayers rfl hl.1 (Nat.le_of_ble_eq_true rfl) ⟨by decide, by decide⟩ d_LB_block_24 (fun v h' hp => ?_)
    obtain ⟨rfl, hx1, hk1⟩ := hp
    obtain ⟨bl, yl, fX, hA, hY, hbs, hys, hnd, hnd2⟩ := id hx1
    obtain ⟨eb, mb, fbl, -⟩ := id hA
    obtain ⟨ey, my, fyl, -⟩ := id hY
    refine g_widen (k' := 0) (n' := 0) (by decide) (by decide) ?_
    show G D s0 p l e _ s m _ below meth c h' _ _ _ (F0 m 27 ls [])
    have hx1 : LBb D h' x bl yl A (fun j => rst (bs j)) [] ys pn 0 := ⟨fX, hA, hY, hbs, hys, hnd, hnd2⟩
    refine g_1 (fun w => lv_aload_n X.1 X.2.1 d_LB_block_27 rfl (lv_at hl 0 rfl) w) ?_
    refine g_get X (ci := 0) rfl fX 0 (by decide) ⟨rfl, rfl⟩ tw_55 (Or.inl rfl) rfl d_LB_block_28 ?_
    refine g_new X (ci := 1) rfl tw_102 tw_106 tw_12 (fs := [.null, .null, .null, .int (iZ (0)), .int (iZ (0)), .int (iZ (0)), .int (iZ (0))]) (fun j hj => by rcases (show j = 0 ∨ j = 1 ∨ j = 2 ∨ j = 3 ∨ j = 4 ∨ j = 5 ∨ j = 6 by omega) with rfl | rfl | rfl | rfl | rfl | rfl | rfl <;> rfl) (fun z => (1, 0)) (by decide) (by decide) d_LB_block_31 (fun na_1 hfna_1 => ?_)
    obtain ⟨h_2, eh_2⟩ : ∃ z, z = g_up h' na_1 ((1, 0), .inr (1, [.null, .null, .null, .int (iZ (0)), .int (iZ (0)), .int (iZ (0)), .int (iZ (0))])) := ⟨_, rfl⟩
    refine g_h (h' := h_2) eh_2.symm ?_
    have f_3 : h_2 x = some ((3, 0), .inr (0, [.ref bl, .ref yl, .int (iZ (pn)), .int (iZ (0))])) := by rw [eh_2]; exact g_uf fX hfna_1
    have f_4 : h_2 bl = some ((5, 0), .inr (3, [.ref eb, .int (iZ (A.length)), .int (iZ (mb))])) := by rw [eh_2]; exact g_uf fbl hfna_1
    have f_5 : h_2 yl = some ((5, 1), .inr (3, [.ref ey, .int (iZ (([] : List Nat).length)), .int (iZ (my))])) := by rw [eh_2]; exact g_uf fyl hfna_1
    have f_6 : h_2 na_1 = some ((1, 0), .inr (1, [.null, .null, .null, .int (iZ (0)), .int (iZ (0)), .int (iZ (0)), .int (iZ (0))])) := by rw [eh_2]; exact g_us
    have hk_7 := kp_new (hk1) eh_2 hfna_1
    refine g_1 (fun w => lv_dup X.1 X.2.1 d_LB_block_34 rfl w) ?_
    refine g_callIN (na := 0) X (c_BK_init B0 f_6) rfl rfl ⟨⟨tw_190, tw_12⟩, ⟨by decide, by decide, by decide +kernel⟩, by decide, by decide⟩ tw_188 tw_189 rfl hl.1 (Nat.le_of_ble_eq_true rfl) ⟨by decide, by decide⟩ d_LB_block_35 (fun v h2 hp => ?_)
    obtain ⟨rfl, hb3, hk3⟩ := hp
    have hfr := LBb_fr hx1 hfna_1
    have hx2 : LBb D h_2 x bl yl A (fun j => rst (bs j)) [] ys pn 0 := LBb_kp (P := fun _ _ => False) hx1 (kp_new kp_rf eh_2 hfna_1) (fun _ _ _ _ z => z)
    have hx3 := LBb_out hx2 f_6 hfr.1 hfr.2 (Or.inl rfl) (kp_mo hk3 (fun q t z => Or.inl z))
    obtain ⟨fX3, hA3, -⟩ := id hx3
    obtain ⟨eb3, mb3, fbl3, -⟩ := id hA3
    obtain ⟨w1, w2, w3, fN3, -⟩ := id hb3
    have hkB : kp P_LB h h2 := fun q z hq hn => hk3 q z (hk_7 q z hq hn) (fun y => g_nz (hk1 q z hq hn) hfna_1 y)
    refine g_widen (k' := 0 + 1 + 3) (n' := 0 + 7 + 363) (by decide) (by decide) ?_
    show G D s0 p l e _ s m _ below meth c h2 _ _ _ (F0 m 38 ls [.ref na_1, .ref bl])
    refine g_callV (na := 1) X (c_AL_add1 B0 hA3 hAl (LBb_ob hx3).1 ⟨_, _, _, fN3, Or.inl rfl⟩) rfl fbl3 rfl ⟨⟨tw_222, tw_4⟩, ⟨by decide, by decide, by decide +kernel⟩, by decide, by decide⟩ tw_219 tw_220 tw_221 rfl hl.1 (Nat.le_of_ble_eq_true rfl) ⟨by decide, by decide⟩ d_LB_block_38 (fun v h4 hp => ?_)
    obtain ⟨rfl, hA5, hk5⟩ := hp
    have hx4 := LBb_addA hx3 hb3 hfr.1 hA5 hk5
    have hkC : kp P_LB h h4 := kp_tr hkB (kpA_LB hA3 hk5)
    obtain ⟨bl4, yl4, fX4, hA4, -⟩ := id hx4
    obtain ⟨eb4, mb4, fbl4, -⟩ := id hA4
    refine g_widen (k' := 0 + 1 + 3 + 1) (n' := 0 + 7 + 363 + 1600) (by decide) (by decide) ?_
    show G D s0 p l e _ s m _ below meth c h4 _ _ _ (F0 m 41 ls [.int (iZ (1))])
    refine g_1 (fun w => lv_pop X.1 X.2.1 d_LB_block_41 rfl w) ?_
    refine g_1 (fun w => lv_aload_n X.1 X.2.1 d_LB_block_42 rfl (lv_at hl 0 rfl) w) ?_
    refine g_get X (ci := 0) rfl fX4 0 (by decide) ⟨rfl, rfl⟩ tw_55 (Or.inl rfl) rfl d_LB_block_43 ?_
    refine g_callV (na := 0) X (c_AL_size B0 hA4) rfl fbl4 rfl ⟨⟨tw_87, tw_4⟩, ⟨by decide, by decide, by decide +kernel⟩, by decide, by decide⟩ tw_84 tw_85 tw_86 rfl hl.1 (Nat.le_of_ble_eq_true rfl) ⟨by decide, by decide⟩ d_LB_block_46 (fun v h' hp => ?_)
    obtain ⟨rfl, rfl⟩ := hp
    refine g_widen (k' := 0 + 1 + 3 + 1) (n' := 0 + 7 + 363 + 1600) (by decide) (by decide) ?_
    show G D s0 p l e _ s m _ below meth c h4 _ _ _ (F0 m 49 ls [.int (iZ ((A ++ [na_1]).length))])
    refine g_1 (fun w => lv_iconst (v := iZ 1) X.1 X.2.1 d_LB_block_49 rfl w) ?_
    refine g_isub X d_LB_block_50 ?_
    exact g_rx (g_iret X (⟨by omega, g_ei (by simp), _, hx4, hkC⟩) (by decide) (by decide) d_LB_block_51)
  · exact g_throw X hfl hxt (i1 := 33) (i2 := 35) (i3 := 37) g_oa_IS (by decide +kernel) tw_120 tw_121 tw_11 (tx := "there are 1024 blocks") (by decide) (⟨rfl, by omega, rfl⟩) hl.1 (by decide) (by decide) ⟨by decide, by decide⟩ ⟨by decide, by decide⟩ d_LB_block_13 d_LB_block_16 d_LB_block_17 d_LB_block_19 d_LB_block_22

set_option maxHeartbeats 4000000 in
set_option maxRecDepth 100000 in
theorem c_LB_pass {D : va_G} {s0 : State} {l : Launch} {h : gH} (B0 : gB D s0) (hfl : l.flags = flags0) {x : Nat} {A Y : List Nat} {bs : Nat → Blk} {ys : Nat → Lay} {pn tb : Int} (hx : isLB D h x A bs Y ys pn tb) (hAl : A.length ≤ 1024) (hYl : Y.length ≤ 64) (hbo : ∀ i, i < A.length → okB (bs i)) (hE : Y.length = 0 → tb = 0 ∧ ∀ i, i < A.length → bT (bs i) = 0 ∧ bL (bs i) = 0) {i n g : Int} (hi : i_ok i) (hn : i_ok n) (hg : l_ok g) (hpn : 0 ≤ pn ∧ pn ≤ 16384) (hap : ∀ b, b < A.length → bP (bs b) < 120 → 0 ≤ n → n + bB (bs b) (bP (bs b)) ≤ 65535 → -274877906944 ≤ g → g ≤ 274877906944 → okB (grown (rst (bs b)) n g) ∧ ∀ j, j < bS (bs b) → bB (grown (rst (bs b)) n g) (bC (bs b) j) ≤ bB (grown (rst (bs b)) n g) (bC (bs b) (j + 1)) ∧ bB (grown (rst (bs b)) n g) (bC (bs b) j) ≤ bB (grown (rst (bs b)) n g) (bP (bs b) + 1)) : gMetX D s0 l y_LB_pass b_LB_pass 6 (some .int) ({ frames := 6, cells := 1, slots := 6, locals := 117 } : Room) [.ref x, .int (iZ (i)), .int (iZ (n)), .long (lZ (g))] h (fun v h' => ∃ b : Nat, (b : Int) = i ∧ b < A.length ∧ 0 ≤ n ∧ -274877906944 ≤ g ∧ g ≤ 274877906944 ∧ pn < 16384 ∧ (bP (bs b) < 120 ∧ n + bB (bs b) (bP (bs b)) ≤ 65535) ∧ some (.int (iZ (bP (bs b) + 1))) = v ∧ isLB D h' x A (va_up (fun j => rst (bs j)) b (renew (grown (rst (bs b)) n g))) [] ys (pn + 1) 0 ∧ kp P_LB h h') (fun C h' => ((C = "java/lang/IllegalArgumentException" ∧ B_bad A i n g) ∨ (C = "java/lang/IllegalStateException" ∧ ¬ B_bad A i n g ∧ ∃ b : Nat, (b : Int) = i ∧ b < A.length ∧ B_full (bs b) n pn)) ∧ h = h') := by
  obtain ⟨bl, yl, fX, hA, hY, hbs, hys, hnd, hnd2⟩ := id hx
  obtain ⟨eb, mb, fbl, -⟩ := id hA
  obtain ⟨ey, my, fyl, -⟩ := id hY
  obtain ⟨hi1, hi2⟩ := id hi
  obtain ⟨hn1, hn2⟩ := id hn
  obtain ⟨hg1, hg2⟩ := id hg
  obtain ⟨hp1, hp2⟩ := id hpn
  refine g_enterX B0 (plainFor_of_name (by decide)) (Nat.le_of_ble_eq_true rfl) (fun p e s m below meth c ls X hxt hnm hl => ?_)
  have hl : lv_has ls 6 [(0, .ref x), (1, .int (iZ (i))), (2, .int (iZ (n))), (3, .long (lZ (g)))] := hl
  refine g_1 (fun w => lv_aload_n X.1 X.2.1 d_LB_pass_0 rfl (lv_at hl 0 rfl) w) ?_
  refine g_1 (fun w => lv_iload_n X.1 X.2.1 d_LB_pass_1 rfl (lv_at hl 1 rfl) w) ?_
  refine g_callV (na := 1) X (c_LB_hasBlock B0 hx hAl hYl ⟨by omega, by omega⟩) rfl fX rfl ⟨⟨tw_285, tw_1⟩, ⟨by decide, by decide, by decide +kernel⟩, by decide, by decide⟩ tw_282 tw_284 ts_LB_hasBlock rfl hl.1 (Nat.le_of_ble_eq_true rfl) ⟨by decide, by decide⟩ d_LB_pass_2 (fun v h' hp => ?_)
  obtain ⟨rfl, rfl⟩ := hp
  refine g_widen (k' := 0) (n' := 0) (by decide) (by decide) ?_
  show G D s0 p l e _ s m _ below meth c h _ _ _ (F0 m 5 ls [.int (iZ (if 0 ≤ i ∧ i < A.length then 1 else 0))])
  refine g_if_ne (tgt := 18) X (by first | (split <;> exact ⟨by omega, by omega⟩) | exact ⟨by omega, by omega⟩ | exact cmpZ_ok _ _) d_LB_pass_5 (by decide) (fun c5 => ?_) (fun c5 => ?_)
  · have hir := if_1 c5
    refine g_1 (fun w => lv_iload_n X.1 X.2.1 d_LB_pass_18 rfl (lv_at hl 2 rfl) w) ?_
    refine g_if_ge (tgt := 32) X (by first | (split <;> exact ⟨by omega, by omega⟩) | exact ⟨by omega, by omega⟩ | exact cmpZ_ok _ _) d_LB_pass_19 (by decide) (fun c19 => ?_) (fun c19 => ?_)
    · refine g_1 (fun w => lv_lload_n X.1 X.2.1 d_LB_pass_32 rfl (lv_at hl 3 rfl) w) ?_
      refine g_1 (fun w => lv_ldc2 X.1 X.2.1 X.2.2.2.2.2.1 (X.w tw_303 rfl) d_LB_pass_33 w) ?_
      refine g_tl (show _ = lZ (-274877906944) by decide) ?_
      refine g_lcmp X (by first | (split <;> exact ⟨by omega, by omega⟩) | exact ⟨by omega, by omega⟩ | exact cmpZ_ok _ _) (by first | (split <;> exact ⟨by omega, by omega⟩) | exact ⟨by omega, by omega⟩ | exact cmpZ_ok _ _) d_LB_pass_36 ?_
      refine g_if_lt (tgt := 48) X (cmpZ_ok _ _) d_LB_pass_37 (by decide) (fun c37 => ?_) (fun c37 => ?_)
      · exact g_throw X hfl hxt (i1 := 51) (i2 := 62) (i3 := 55) g_oa_IA (by decide +kernel) tw_286 tw_287 tw_17 (tx := "gain not within -2^38 .. 2^38") (by decide) (⟨Or.inl ⟨rfl, Or.inr (Or.inr (by first | exact Or.inr (cmpZ_gt.mp (by omega)) | exact Or.inl (by rcases (show g < -274877906944 ∨ -274877906944 ≤ g by omega) with z | z; exact z; have y := cmpZ_ge.mpr z; omega)))⟩, rfl⟩) hl.1 (by decide) (by decide) ⟨by decide, by decide⟩ ⟨by decide, by decide⟩ d_LB_pass_48 d_LB_pass_51 d_LB_pass_52 d_LB_pass_54 d_LB_pass_57
      · have hg3 : -274877906944 ≤ g := by have z := cmpZ_ge.mp c37; omega
        refine g_1 (fun w => lv_lload_n X.1 X.2.1 d_LB_pass_40 rfl (lv_at hl 3 rfl) w) ?_
        refine g_1 (fun w => lv_ldc2 X.1 X.2.1 X.2.2.2.2.2.1 (X.w tw_304 rfl) d_LB_pass_41 w) ?_
        refine g_tl (show _ = lZ (274877906944) by decide) ?_
        refine g_lcmp X (by first | (split <;> exact ⟨by omega, by omega⟩) | exact ⟨by omega, by omega⟩ | exact cmpZ_ok _ _) (by first | (split <;> exact ⟨by omega, by omega⟩) | exact ⟨by omega, by omega⟩ | exact cmpZ_ok _ _) d_LB_pass_44 ?_
        refine g_if_le (tgt := 58) X (cmpZ_ok _ _) d_LB_pass_45 (by decide) (fun c45 => ?_) (fun c45 => ?_)
        · have hg4 : g ≤ 274877906944 := by
            rcases (show 274877906944 < g ∨ g ≤ 274877906944 by omega) with z | z
            · have y := cmpZ_gt.mpr z; omega
            · exact z
          obtain ⟨bi, rfl, hbi⟩ : ∃ bi : Nat, (bi : Int) = i ∧ bi < A.length := ⟨i.toNat, by have z := if_1 c5; omega, by have z := if_1 c5; omega⟩
          obtain ⟨p1, p2, p3, fb, fB, fG, fC⟩ := id (hbs bi hbi)
          obtain ⟨k1, k2, k3, k4, k5, k6, k7, k8⟩ := id (hbo bi hbi)
          refine g_1 (fun w => lv_aload_n X.1 X.2.1 d_LB_pass_58 rfl (lv_at hl 0 rfl) w) ?_
          refine g_get X (ci := 0) rfl fX 0 (by decide) ⟨rfl, rfl⟩ tw_55 (Or.inl rfl) rfl d_LB_pass_59 ?_
          refine g_1 (fun w => lv_iload_n X.1 X.2.1 d_LB_pass_62 rfl (lv_at hl 1 rfl) w) ?_
          refine g_callV (na := 1) X (c_AL_get B0 hA bi (by omega)) rfl fbl rfl ⟨⟨tw_91, tw_4⟩, ⟨by decide, by decide, by decide +kernel⟩, by decide, by decide⟩ tw_88 tw_89 tw_90 rfl hl.1 (Nat.le_of_ble_eq_true rfl) ⟨by decide, by decide⟩ d_LB_pass_63 (fun v h' hp => ?_)
          obtain ⟨rfl, rfl⟩ := hp
          refine g_widen (k' := 0) (n' := 0) (by decide) (by decide) ?_
          show G D s0 p l e _ s m _ below meth c h _ _ _ (F0 m 66 ls [.ref (A.getD bi 0)])
          refine g_cast X fb rfl tw_102 tw_652 d_LB_pass_66 ?_
          refine g_s (fun kk => lv_astore (lv' := [(5, .ref (A.getD bi 0)), (0, .ref x), (1, .int (iZ (bi))), (2, .int (iZ (n))), (3, .long (lZ (g)))]) X.1 X.2.1 d_LB_pass_69 hl (by decide) rfl kk) (fun ls hl => ?_)
          refine g_1 (fun w => lv_aload_n X.1 X.2.1 d_LB_pass_71 rfl (lv_at hl 1 rfl) w) ?_
          refine g_get X (ci := 0) rfl fX 2 (by decide) ⟨rfl, rfl⟩ tw_57 (Or.inl rfl) rfl d_LB_pass_72 ?_
          refine g_1 (fun w => lv_sipush (v := iZ 16384) X.1 X.2.1 d_LB_pass_75 (by decide) w) ?_
          refine g_icmp_ge (tgt := 90) X (by first | (split <;> exact ⟨by omega, by omega⟩) | exact ⟨by omega, by omega⟩ | exact cmpZ_ok _ _) (by first | (split <;> exact ⟨by omega, by omega⟩) | exact ⟨by omega, by omega⟩ | exact cmpZ_ok _ _) d_LB_pass_78 (by decide) (fun c78 => ?_) (fun c78 => ?_)
          · exact g_throw X hfl hxt (i1 := 33) (i2 := 71) (i3 := 37) g_oa_IS (by decide +kernel) tw_120 tw_121 tw_11 (tx := "too many passes or bytes") (by decide) (⟨Or.inr ⟨rfl, by omega, bi, rfl, hbi, by first | exact Or.inl (by omega) | exact Or.inr (if_0 c87)⟩, rfl⟩) hl.1 (by decide) (by decide) ⟨by decide, by decide⟩ ⟨by decide, by decide⟩ d_LB_pass_90 d_LB_pass_93 d_LB_pass_94 d_LB_pass_96 d_LB_pass_99
          · refine g_1 (fun w => lv_aload X.1 X.2.1 d_LB_pass_81 (lv_at hl 0 rfl) w) ?_
            refine g_1 (fun w => lv_iload_n X.1 X.2.1 d_LB_pass_83 rfl (lv_at hl 3 rfl) w) ?_
            refine g_callVN (na := 1) X (c_BK_hasRoomFor B0 (hbs bi hbi) (hbo bi hbi) ⟨by omega, by omega⟩) rfl fb rfl ⟨⟨tw_309, tw_12⟩, ⟨by decide, by decide, by decide +kernel⟩, by decide, by decide⟩ tw_306 tw_308 ts_BK_hasRoomFor rfl hl.1 (Nat.le_of_ble_eq_true rfl) ⟨by decide, by decide⟩ d_LB_pass_84 (fun v h' hp => ?_)
            obtain ⟨rfl, rfl⟩ := hp
            refine g_widen (k' := 0) (n' := 0) (by decide) (by decide) ?_
            show G D s0 p l e _ s m _ below meth c h _ _ _ (F0 m 87 ls [.int (iZ (if bP (bs bi) < 120 ∧ n + bB (bs bi) (bP (bs bi)) ≤ 65535 then 1 else 0))])
            refine g_if_ne (tgt := 100) X (by first | (split <;> exact ⟨by omega, by omega⟩) | exact ⟨by omega, by omega⟩ | exact cmpZ_ok _ _) d_LB_pass_87 (by decide) (fun c87 => ?_) (fun c87 => ?_)
            · have hr := if_1 c87
              refine g_1 (fun w => lv_aload_n X.1 X.2.1 d_LB_pass_100 rfl (lv_at hl 1 rfl) w) ?_
              refine g_callV (na := 0) X (c_LB_dropLayers B0 hx hAl hYl hbo hE) rfl fX rfl ⟨⟨tw_75, tw_1⟩, ⟨by decide, by decide, by decide +kernel⟩, by decide, by decide⟩ tw_72 tw_74 ts_LB_dropLayers rfl hl.1 (Nat.le_of_ble_eq_true rfl) ⟨by decide, by decide⟩ d_LB_pass_101 (fun v h' hp => ?_)
              obtain ⟨rfl, hx1, hk1⟩ := hp
              obtain ⟨bl, yl, fX, hA, hY, hbs, hys, hnd, hnd2⟩ := id hx1
              obtain ⟨eb, mb, fbl, -⟩ := id hA
              obtain ⟨ey, my, fyl, -⟩ := id hY
              refine g_widen (k' := 0) (n' := 0) (by decide) (by decide) ?_
              show G D s0 p l e _ s m _ below meth c h' _ _ _ (F0 m 104 ls [])
              refine g_1 (fun w => lv_aload_n X.1 X.2.1 d_LB_pass_104 rfl (lv_at hl 1 rfl) w) ?_
              refine g_1 (fun w => lv_dup X.1 X.2.1 d_LB_pass_105 rfl w) ?_
              refine g_get X (ci := 0) rfl fX 2 (by decide) ⟨rfl, rfl⟩ tw_57 (Or.inl rfl) rfl d_LB_pass_106 ?_
              refine g_1 (fun w => lv_iconst (v := iZ 1) X.1 X.2.1 d_LB_pass_109 rfl w) ?_
              refine g_iadd X d_LB_pass_110 ?_
              refine g_put X (ci := 0) rfl fX (Nat.succ_ne_zero _) 2 (by decide) ⟨rfl, rfl⟩ tw_57 (Or.inl rfl) rfl rfl rfl (Nat.le_of_ble_eq_true rfl) d_LB_pass_111 ?_
              obtain ⟨h_1, eh_1⟩ : ∃ z, z = g_up h' x ((3, 0), .inr (0, [.ref bl, .ref yl, .int (iZ (pn + 1)), .int (iZ (0))])) := ⟨_, rfl⟩
              refine g_h (h' := h_1) eh_1.symm ?_
              have f_2 : h_1 x = some ((3, 0), .inr (0, [.ref bl, .ref yl, .int (iZ (pn + 1)), .int (iZ (0))])) := by rw [eh_1]; exact g_us
              have f_3 : h_1 bl = some ((5, 0), .inr (3, [.ref eb, .int (iZ (A.length)), .int (iZ (mb))])) := by rw [eh_1]; exact g_uk fbl fX (show (5 : Nat) ≠ 3 by decide)
              have f_4 : h_1 yl = some ((5, 1), .inr (3, [.ref ey, .int (iZ (([] : List Nat).length)), .int (iZ (my))])) := by rw [eh_1]; exact g_uk fyl fX (show (5 : Nat) ≠ 3 by decide)
              have hk_5 := kp_up (hk1) eh_1 fX (⟨Nat.le_of_ble_eq_true rfl, Nat.le_of_ble_eq_true rfl⟩)
              have hx2 := hx1.setX fX eh_1
              obtain ⟨bl2, yl2, -, -, -, hbs2, -⟩ := id hx2
              have hb2 : isBk D h_1 (A.getD bi 0) (rst (bs bi)) := hbs2 bi hbi
              obtain ⟨v1, v2, v3, fb2, -⟩ := id hb2
              refine g_1 (fun w => lv_aload X.1 X.2.1 d_LB_pass_114 (lv_at hl 0 rfl) w) ?_
              refine g_1 (fun w => lv_iload_n X.1 X.2.1 d_LB_pass_116 rfl (lv_at hl 3 rfl) w) ?_
              refine g_1 (fun w => lv_lload_n X.1 X.2.1 d_LB_pass_117 rfl (lv_at hl 4 rfl) w) ?_
              refine g_callVN (na := 2) X (c_BK_append B0 hb2 (okB_rst (hbo bi hbi)) hr.1 (hap bi hbi hr.1 c19 hr.2 hg3 hg4).1 (hap bi hbi hr.1 c19 hr.2 hg3 hg4).2) rfl fb2 rfl ⟨⟨tw_315, tw_12⟩, ⟨by decide, by decide, by decide +kernel⟩, by decide, by decide⟩ tw_312 tw_314 ts_BK_append rfl hl.1 (Nat.le_of_ble_eq_true rfl) ⟨by decide, by decide⟩ d_LB_pass_118 (fun v h3 hp => ?_)
              obtain ⟨rfl, hb3, hk3⟩ := hp
              have hx3 := hx2.setB hbi hb3 hk3
              have hk9 : kp P_LB h h3 := kp_tr hk_5 (kpB_LB hb2 hk3)
              obtain ⟨w1, w2, w3, fb3, -⟩ := id hb3
              refine g_widen (k' := 0) (n' := 0) (by decide) (by decide) ?_
              show G D s0 p l e _ s m _ below meth c h3 _ _ _ (F0 m 121 ls [])
              refine g_1 (fun w => lv_aload X.1 X.2.1 d_LB_pass_121 (lv_at hl 0 rfl) w) ?_
              refine g_getN X (ci := 1) rfl fb3 3 (by decide) ⟨rfl, rfl⟩ tw_196 rfl d_LB_pass_123 ?_
              exact g_rx (g_iret X (⟨bi, rfl, hbi, c19, hg3, hg4, by omega, hr, g_ei (by rw [renew_P]; rfl), hx3, hk9⟩) (by decide) (by decide) d_LB_pass_126)
            · exact g_throw X hfl hxt (i1 := 33) (i2 := 71) (i3 := 37) g_oa_IS (by decide +kernel) tw_120 tw_121 tw_11 (tx := "too many passes or bytes") (by decide) (⟨Or.inr ⟨rfl, by omega, bi, rfl, hbi, by first | exact Or.inl (by omega) | exact Or.inr (if_0 c87)⟩, rfl⟩) hl.1 (by decide) (by decide) ⟨by decide, by decide⟩ ⟨by decide, by decide⟩ d_LB_pass_90 d_LB_pass_93 d_LB_pass_94 d_LB_pass_96 d_LB_pass_99
        · exact g_throw X hfl hxt (i1 := 51) (i2 := 62) (i3 := 55) g_oa_IA (by decide +kernel) tw_286 tw_287 tw_17 (tx := "gain not within -2^38 .. 2^38") (by decide) (⟨Or.inl ⟨rfl, Or.inr (Or.inr (by first | exact Or.inr (cmpZ_gt.mp (by omega)) | exact Or.inl (by rcases (show g < -274877906944 ∨ -274877906944 ≤ g by omega) with z | z; exact z; have y := cmpZ_ge.mpr z; omega)))⟩, rfl⟩) hl.1 (by decide) (by decide) ⟨by decide, by decide⟩ ⟨by decide, by decide⟩ d_LB_pass_48 d_LB_pass_51 d_LB_pass_52 d_LB_pass_54 d_LB_pass_57
    · exact g_throw X hfl hxt (i1 := 51) (i2 := 56) (i3 := 55) g_oa_IA (by decide +kernel) tw_286 tw_287 tw_17 (tx := "bytes below 0") (by decide) (⟨Or.inl ⟨rfl, Or.inr (Or.inl (by omega))⟩, rfl⟩) hl.1 (by decide) (by decide) ⟨by decide, by decide⟩ ⟨by decide, by decide⟩ d_LB_pass_22 d_LB_pass_25 d_LB_pass_26 d_LB_pass_28 d_LB_pass_31
  · exact g_throw X hfl hxt (i1 := 51) (i2 := 53) (i3 := 55) g_oa_IA (by decide +kernel) tw_286 tw_287 tw_17 (tx := "no such block") (by decide) (⟨Or.inl ⟨rfl, Or.inl (if_0 c5)⟩, rfl⟩) hl.1 (by decide) (by decide) ⟨by decide, by decide⟩ ⟨by decide, by decide⟩ d_LB_pass_8 d_LB_pass_11 d_LB_pass_12 d_LB_pass_14 d_LB_pass_17
end
section
/-! A LAYER'S TAKING, as pure functions of the blocks -/
abbrev hN (b : Blk) : Prop := bT b < bS b
abbrev nG (b : Blk) : Int := bG b (bC b (bT b + 1)) - bG b (bC b (bT b))
abbrev nB (b : Blk) : Int := bB b (bC b (bT b + 1)) - bB b (bC b (bT b))
/-- the steepest block and 1; 0: none -/
def stp (bs : Nat → Blk) : Nat → Nat
  | 0 => 0
  | n + 1 => if hN (bs n) ∧ (stp bs n = 0 ∨ nG (bs (stp bs n - 1)) * nB (bs n) < nG (bs n) * nB (bs (stp bs n - 1))) then n + 1 else stp bs n
theorem stp_t {bs : Nat → Blk} {n : Nat} (h1 : hN (bs n)) (h2 : stp bs n = 0 ∨ nG (bs (stp bs n - 1)) * nB (bs n) < nG (bs n) * nB (bs (stp bs n - 1))) : stp bs (n + 1) = n + 1 := if_pos ⟨h1, h2⟩
theorem stp_f {bs : Nat → Blk} {n : Nat} (h : ¬ (hN (bs n) ∧ (stp bs n = 0 ∨ nG (bs (stp bs n - 1)) * nB (bs n) < nG (bs n) * nB (bs (stp bs n - 1))))) : stp bs (n + 1) = stp bs n := if_neg h
theorem stp_le (bs : Nat → Blk) : ∀ n, stp bs n ≤ n
  | 0 => Nat.le_refl 0
  | n + 1 => by
    unfold stp
    split
    · exact Nat.le_refl _
    · exact Nat.le_succ_of_le (stp_le bs n)
theorem stp_has (bs : Nat → Blk) : ∀ n, stp bs n ≠ 0 → hN (bs (stp bs n - 1))
  | 0, h => absurd rfl h
  | n + 1, h => by
    unfold stp at h ⊢
    split
    · rename_i z
      exact z.1
    · rename_i z
      rw [if_neg z] at h
      exact stp_has bs n h
abbrev eqS (sg sb : Int) (b : Blk) : Prop := bT b < bS b ∧ cmpZ (nG b * sb) (sg * nB b) = 0
def cst (bs : Nat → Blk) (sg sb : Int) (n : Nat) : Int := sm (fun j => if eqS sg sb (bs j) then nB (bs j) else 0) n
def tkS (sg sb : Int) (b : Blk) : Blk := if eqS sg sb b then tkn b else b
/-- state of a layer's taking: blocks, bytes, threshold -/
abbrev Tkg : Type := (Nat → Blk) × Int × Int × Int
abbrev bst (q : Tkg) (n : Nat) : Blk := q.1 (stp q.1 n - 1)
def tss (n : Nat) (bud : Int) : Nat → Tkg → Tkg
  | 0, q => q
  | k + 1, q => if stp q.1 n = 0 then q else if bud < q.2.1 + cst q.1 (nG (bst q n)) (nB (bst q n)) n then q else tss n bud k (fun j => tkS (nG (bst q n)) (nB (bst q n)) (q.1 j), q.2.1 + cst q.1 (nG (bst q n)) (nB (bst q n)) n, nG (bst q n), nB (bst q n))
/-- a block in good order -/
def wfB (b : Blk) : Prop := okB b ∧ bC b 0 = 0 ∧ (∀ i, i < bS b → bC b i < bC b (i + 1) ∧ bC b (i + 1) ≤ bP b) ∧ (bT b < bS b → bL b = bC b (bT b))
theorem wfB.mo {b : Blk} (h : wfB b) (ht : bT b < bS b) : bB b (bC b (bT b)) ≤ bB b (bC b (bT b + 1)) := by
  obtain ⟨⟨-, -, -, -, -, -, -, h8⟩, -, h2, -⟩ := h
  have z := h2 _ ht
  exact h8 _ _ (by omega) z.2
theorem wfB_rst {b : Blk} (h : wfB b) : wfB (rst b) := ⟨okB_rst h.1, h.2.1, h.2.2.1, fun _ => h.2.1.symm⟩
theorem wfB_tka {b : Blk} (h : wfB b) : wfB (tka b) := ⟨okB_tka h.1, h.2.1, h.2.2.1, fun z => absurd z (Nat.lt_irrefl _)⟩
theorem wfB_tkn {b : Blk} (h : wfB b) (ht : bT b < bS b) : wfB (tkn b) := ⟨⟨h.1.1, h.1.2.1, ht, (h.2.2.1 _ ht).2, h.1.2.2.2.2⟩, h.2.1, h.2.2.1, fun _ => rfl⟩
theorem wfB_tkS {b : Blk} {sg sb : Int} (h : wfB b) : wfB (tkS sg sb b) := by
  unfold tkS
  split
  · rename_i z
    exact wfB_tkn h z.1
  · exact h
theorem nB_bd {b : Blk} (h : wfB b) : (bT b < bS b → 0 ≤ nB b) ∧ nB b ≤ 65535 ∧ -65970697666560 ≤ nG b ∧ nG b ≤ 65970697666560 := by
  obtain ⟨⟨-, -, -, -, -, h6, h7, -⟩, -⟩ := id h
  have a1 := h6 (bC b (bT b + 1))
  have a2 := h6 (bC b (bT b))
  have a3 := h7 (bC b (bT b + 1))
  have a4 := h7 (bC b (bT b))
  refine ⟨fun ht => ?_, ?_, ?_, ?_⟩
  · have := h.mo ht
    show 0 ≤ bB b (bC b (bT b + 1)) - bB b (bC b (bT b))
    omega
  · show bB b (bC b (bT b + 1)) - bB b (bC b (bT b)) ≤ _
    omega
  · show _ ≤ bG b (bC b (bT b + 1)) - bG b (bC b (bT b))
    omega
  · show bG b (bC b (bT b + 1)) - bG b (bC b (bT b)) ≤ _
    omega
theorem sm_congr {f g : Nat → Int} : ∀ {n : Nat}, (∀ i, i < n → f i = g i) → sm f n = sm g n
  | 0, _ => rfl
  | n + 1, h => by
    unfold sm
    rw [sm_congr (fun i hi => h i (Nat.lt_succ_of_lt hi)), h n (Nat.lt_succ_self n)]
theorem sm_bd {f : Nat → Int} {c : Int} : ∀ {n : Nat}, (∀ i, i < n → 0 ≤ f i ∧ f i ≤ c) → 0 ≤ sm f n ∧ sm f n ≤ c * n
  | 0, _ => ⟨Int.le_refl 0, by show (0 : Int) ≤ c * ((0 : Nat) : Int); simp⟩
  | n + 1, h => by
    have a := sm_bd (fun i hi => h i (Nat.lt_succ_of_lt hi))
    have b := h n (Nat.lt_succ_self n)
    have e : c * ((n + 1 : Nat) : Int) = c * n + c := by
      rw [Int.natCast_add, Int.mul_add]
      simp
    unfold sm
    rw [e]
    omega
theorem cst_bd {bs : Nat → Blk} {sg sb : Int} {n : Nat} (h : ∀ i, i < n → wfB (bs i)) : 0 ≤ cst bs sg sb n ∧ cst bs sg sb n ≤ 65535 * n := by
  refine sm_bd (fun i hi => ?_)
  have z := nB_bd (h i hi)
  show 0 ≤ (if eqS sg sb (bs i) then nB (bs i) else 0) ∧ (if eqS sg sb (bs i) then nB (bs i) else 0) ≤ _
  split
  · rename_i y
    exact ⟨z.1 y.1, z.2.1⟩
  · exact ⟨Int.le_refl 0, by decide⟩
/-- bytes of all blocks up to their cuts -/
def totB (bs : Nat → Blk) (n : Nat) : Int := sm (fun j => bB (bs j) (bL (bs j))) n
theorem totB_bd {bs : Nat → Blk} {n : Nat} (h : ∀ i, i < n → wfB (bs i)) : 0 ≤ totB bs n ∧ totB bs n ≤ 65535 * n := by
  refine sm_bd (fun i hi => ?_)
  obtain ⟨⟨-, -, -, -, -, h6, -⟩, -⟩ := h i hi
  exact h6 _
theorem totB_tkS {bs : Nat → Blk} {sg sb : Int} : ∀ {n : Nat}, (∀ i, i < n → wfB (bs i)) → totB (fun j => tkS sg sb (bs j)) n = totB bs n + cst bs sg sb n
  | 0, _ => rfl
  | n + 1, h => by
    have a := totB_tkS (sg := sg) (sb := sb) (fun i hi => h i (Nat.lt_succ_of_lt hi))
    have b := h n (Nat.lt_succ_self n)
    unfold totB cst at a ⊢
    unfold sm
    rw [a]
    have e : bB (tkS sg sb (bs n)) (bL (tkS sg sb (bs n))) = bB (bs n) (bL (bs n)) + (if eqS sg sb (bs n) then nB (bs n) else 0) := by
      unfold tkS
      split
      · rename_i z
        show bB (bs n) (bC (bs n) (bT (bs n) + 1)) = bB (bs n) (bL (bs n)) + (bB (bs n) (bC (bs n) (bT (bs n) + 1)) - bB (bs n) (bC (bs n) (bT (bs n))))
        rw [b.2.2.2 z.1]
        omega
      · omega
    show _ + bB (tkS sg sb (bs n)) (bL (tkS sg sb (bs n))) = _
    rw [e]
    omega
theorem cst_t {bs : Nat → Blk} {sg sb : Int} {i : Nat} (h : eqS sg sb (bs i)) : cst bs sg sb (i + 1) = cst bs sg sb i + nB (bs i) := by
  show _ + (if eqS sg sb (bs i) then nB (bs i) else 0) = _
  rw [if_pos h]
  rfl
theorem cst_f {bs : Nat → Blk} {sg sb : Int} {i : Nat} (h : ¬ eqS sg sb (bs i)) : cst bs sg sb (i + 1) = cst bs sg sb i := by
  show _ + (if eqS sg sb (bs i) then nB (bs i) else 0) = _
  rw [if_neg h]
  exact Int.add_zero _
theorem upto_stay {f : Blk → Blk} {bs : Nat → Blk} {i : Nat} (h : f (bs i) = bs i) : upto f bs (i + 1) = upto f bs i := by
  rw [← upto_succ, h]
  funext j
  by_cases e : j = i
  · subst e
    rw [va_up_self, upto_at]
  · rw [va_up_ne _ _ e]
theorem tkS_t {sg sb : Int} {b : Blk} (h : eqS sg sb b) : tkS sg sb b = tkn b := if_pos h
theorem tkS_f {sg sb : Int} {b : Blk} (h : ¬ eqS sg sb b) : tkS sg sb b = b := if_neg h
theorem tss_0 {n k : Nat} {bud : Int} {q : Tkg} (h : stp q.1 n = 0) : tss n bud (k + 1) q = q := if_pos h
theorem tss_b {n k si : Nat} {bud : Int} {q : Tkg} (h : stp q.1 n = si + 1) (h2 : bud < q.2.1 + cst q.1 (nG (q.1 si)) (nB (q.1 si)) n) : tss n bud (k + 1) q = q := by
  have e : bst q n = q.1 si := by show q.1 (stp q.1 n - 1) = _; rw [h]; rfl
  unfold tss
  rw [if_neg (by omega), e, if_pos h2]
theorem tss_s {n k si : Nat} {bud : Int} {q : Tkg} (h : stp q.1 n = si + 1) (h2 : ¬ bud < q.2.1 + cst q.1 (nG (q.1 si)) (nB (q.1 si)) n) : tss n bud (k + 1) q = tss n bud k (fun j => tkS (nG (q.1 si)) (nB (q.1 si)) (q.1 j), q.2.1 + cst q.1 (nG (q.1 si)) (nB (q.1 si)) n, nG (q.1 si), nB (q.1 si)) := by
  have e : bst q n = q.1 si := by show q.1 (stp q.1 n - 1) = _; rw [h]; rfl
  conv => lhs; unfold tss
  rw [if_neg (by omega), e, if_neg h2]
def layQ (n N : Nat) (bud : Int) (bs : Nat → Blk) (tb : Int) : Tkg := if bud = -1 then (fun j => tka (bs j), sm (fun j => bB (bs j) (bP (bs j))) n, -1, -1) else tss n bud N (bs, tb, -1, -1)
end
section
set_option maxHeartbeats 4000000 in
set_option maxRecDepth 100000 in
theorem c_LB_takeAllPasses {D : va_G} {s0 : State} {l : Launch} {h : gH} (B0 : gB D s0) {x : Nat} {A Y : List Nat} {bs : Nat → Blk} {ys : Nat → Lay} {pn tb : Int} (hx : isLB D h x A bs Y ys pn tb) (hAl : A.length ≤ 1024) (hYl : Y.length ≤ 64) (hwf : ∀ i, i < A.length → wfB (bs i)) : gMet D s0 l y_LB_takeAllPasses b_LB_takeAllPasses 3 none ({ frames := 3, cells := 0, slots := 0, locals := 64 } : Room) [.ref x] h (fun v h' => none = v ∧ isLB D h' x A (fun j => tka (bs j)) Y ys pn (sm (fun j => bB (bs j) (bP (bs j))) A.length) ∧ kp P_XB h h') := by
  obtain ⟨bl, yl, fX, hA, hY, hbs, hys, hnd, hnd2⟩ := id hx
  obtain ⟨eb, mb, fbl, -⟩ := id hA
  obtain ⟨ey, my, fyl, -⟩ := id hY
  refine g_enter B0 (plainFor_of_name (by decide)) (Nat.le_of_ble_eq_true rfl) (fun p e s m below meth c ls X hnm hl => ?_)
  have hl : lv_has ls 3 [(0, .ref x)] := hl
  have loop : ∀ (d i : Nat) (hh : gH) (ls : Array Slot), i + d = A.length → isLB D hh x A (upto tka bs i) Y ys pn (sm (fun j => bB (bs j) (bP (bs j))) i) → kp P_XB h hh → lv_has ls 3 [(1, .int (iZ (i))), (0, .ref x)] → G D s0 p l e ({ frames := 3, cells := 0, slots := 0, locals := 64 } : Room) s m ([.ref x] : List Value).toArray below meth c hh 0 0 (MQ below (gQ D s0 (fun v h' => none = v ∧ isLB D h' x A (fun j => tka (bs j)) Y ys pn (sm (fun j => bB (bs j) (bP (bs j))) A.length) ∧ kp P_XB h h')) ([.ref x] : List Value).toArray s 0 0 (fun q => s0.heap.size ≤ q)) (F0 m 7 ls []) := by
    intro d
    induction d with
    | zero =>
      intro i hh ls hi hx2 hkk hl
      obtain ⟨bl, yl, fX, hA, hY, hbs, hys, hnd, hnd2⟩ := id hx2
      obtain ⟨eb, mb, fbl, -⟩ := id hA
      obtain ⟨ey, my, fyl, -⟩ := id hY
      refine g_1 (fun w => lv_iload_n X.1 X.2.1 d_LB_takeAllPasses_7 rfl (lv_at hl 0 rfl) w) ?_
      refine g_1 (fun w => lv_aload_n X.1 X.2.1 d_LB_takeAllPasses_8 rfl (lv_at hl 1 rfl) w) ?_
      refine g_get X (ci := 0) rfl fX 0 (by decide) ⟨rfl, rfl⟩ tw_55 (Or.inl rfl) rfl d_LB_takeAllPasses_9 ?_
      refine g_callV (na := 0) X (c_AL_size B0 hA) rfl fbl rfl ⟨⟨tw_87, tw_4⟩, ⟨by decide, by decide, by decide +kernel⟩, by decide, by decide⟩ tw_84 tw_85 tw_86 rfl hl.1 (Nat.le_of_ble_eq_true rfl) ⟨by decide, by decide⟩ d_LB_takeAllPasses_12 (fun v h' hp => ?_)
      obtain ⟨rfl, rfl⟩ := hp
      refine g_widen (k' := 0) (n' := 0) (by decide) (by decide) ?_
      show G D s0 p l e _ s m _ below meth c hh _ _ _ (F0 m 15 ls [.int (iZ (A.length)), .int (iZ (i))])
      refine g_icmp_ge (tgt := 53) X (by first | (split <;> exact ⟨by omega, by omega⟩) | exact ⟨by omega, by omega⟩ | exact cmpZ_ok _ _) (by first | (split <;> exact ⟨by omega, by omega⟩) | exact ⟨by omega, by omega⟩ | exact cmpZ_ok _ _) d_LB_takeAllPasses_15 (by decide) (fun c15 => ?_) (fun c15 => ?_)
      · have hei : i = A.length := by omega
        subst hei
        have hfin := hx2.congr (bs2 := fun j => tka (bs j)) (fun j hj => upto_lt hj)
        exact g_vret X (⟨rfl, hfin, hkk⟩) (by decide) (by decide) d_LB_takeAllPasses_53
      · exfalso
        omega
    | succ d ih =>
      intro i hh ls hi hx2 hkk hl
      obtain ⟨bl, yl, fX, hA, hY, hbs, hys, hnd, hnd2⟩ := id hx2
      obtain ⟨eb, mb, fbl, -⟩ := id hA
      obtain ⟨ey, my, fyl, -⟩ := id hY
      have hb1 : isBk D hh (A.getD i 0) (bs i) := by have z := hbs i (by omega); rw [upto_at] at z; exact z
      obtain ⟨p1, p2, p3, fb, -⟩ := id hb1
      refine g_1 (fun w => lv_iload_n X.1 X.2.1 d_LB_takeAllPasses_7 rfl (lv_at hl 0 rfl) w) ?_
      refine g_1 (fun w => lv_aload_n X.1 X.2.1 d_LB_takeAllPasses_8 rfl (lv_at hl 1 rfl) w) ?_
      refine g_get X (ci := 0) rfl fX 0 (by decide) ⟨rfl, rfl⟩ tw_55 (Or.inl rfl) rfl d_LB_takeAllPasses_9 ?_
      refine g_callV (na := 0) X (c_AL_size B0 hA) rfl fbl rfl ⟨⟨tw_87, tw_4⟩, ⟨by decide, by decide, by decide +kernel⟩, by decide, by decide⟩ tw_84 tw_85 tw_86 rfl hl.1 (Nat.le_of_ble_eq_true rfl) ⟨by decide, by decide⟩ d_LB_takeAllPasses_12 (fun v h' hp => ?_)
      obtain ⟨rfl, rfl⟩ := hp
      refine g_widen (k' := 0) (n' := 0) (by decide) (by decide) ?_
      show G D s0 p l e _ s m _ below meth c hh _ _ _ (F0 m 15 ls [.int (iZ (A.length)), .int (iZ (i))])
      refine g_icmp_ge (tgt := 53) X (by first | (split <;> exact ⟨by omega, by omega⟩) | exact ⟨by omega, by omega⟩ | exact cmpZ_ok _ _) (by first | (split <;> exact ⟨by omega, by omega⟩) | exact ⟨by omega, by omega⟩ | exact cmpZ_ok _ _) d_LB_takeAllPasses_15 (by decide) (fun c15 => ?_) (fun c15 => ?_)
      · exfalso
        omega
      · refine g_1 (fun w => lv_aload_n X.1 X.2.1 d_LB_takeAllPasses_18 rfl (lv_at hl 1 rfl) w) ?_
        refine g_get X (ci := 0) rfl fX 0 (by decide) ⟨rfl, rfl⟩ tw_55 (Or.inl rfl) rfl d_LB_takeAllPasses_19 ?_
        refine g_1 (fun w => lv_iload_n X.1 X.2.1 d_LB_takeAllPasses_22 rfl (lv_at hl 0 rfl) w) ?_
        refine g_callV (na := 1) X (c_AL_get B0 hA i (by omega)) rfl fbl rfl ⟨⟨tw_91, tw_4⟩, ⟨by decide, by decide, by decide +kernel⟩, by decide, by decide⟩ tw_88 tw_89 tw_90 rfl hl.1 (Nat.le_of_ble_eq_true rfl) ⟨by decide, by decide⟩ d_LB_takeAllPasses_23 (fun v h' hp => ?_)
        obtain ⟨rfl, rfl⟩ := hp
        refine g_widen (k' := 0) (n' := 0) (by decide) (by decide) ?_
        show G D s0 p l e _ s m _ below meth c hh _ _ _ (F0 m 26 ls [.ref (A.getD i 0)])
        refine g_cast X fb rfl tw_102 tw_652 d_LB_takeAllPasses_26 ?_
        refine g_s (fun kk => lv_astore_n (lv' := [(2, .ref (A.getD i 0)), (1, .int (iZ (i))), (0, .ref x)]) X.1 X.2.1 d_LB_takeAllPasses_29 rfl hl (by decide) rfl kk) (fun ls hl => ?_)
        refine g_1 (fun w => lv_aload_n X.1 X.2.1 d_LB_takeAllPasses_30 rfl (lv_at hl 0 rfl) w) ?_
        refine g_callVN (na := 0) X (c_BK_takeEverything B0 hb1 (hwf i (by omega)).1) rfl fb rfl ⟨⟨tw_419, tw_12⟩, ⟨by decide, by decide, by decide +kernel⟩, by decide, by decide⟩ tw_416 tw_418 ts_BK_takeEverything rfl hl.1 (Nat.le_of_ble_eq_true rfl) ⟨by decide, by decide⟩ d_LB_takeAllPasses_31 (fun v h' hp => ?_)
        obtain ⟨rfl, hb2, hk2⟩ := hp
        have hx3 : isLB D h' x A (upto tka bs (i + 1)) Y ys pn (sm (fun j => bB (bs j) (bP (bs j))) i) := by rw [← upto_succ]; exact hx2.setB (by omega) hb2 hk2
        have hk3 := kp_tr hkk (BB_XB (kpB_BB hb1 hk2))
        obtain ⟨bl, yl, fX, hA, hY, hbs, hys, hnd, hnd2⟩ := id hx3
        obtain ⟨eb, mb, fbl, -⟩ := id hA
        obtain ⟨ey, my, fyl, -⟩ := id hY
        obtain ⟨p1, p2, p3, fb, -⟩ := id hb2
        refine g_widen (k' := 0) (n' := 0) (by decide) (by decide) ?_
        show G D s0 p l e _ s m _ below meth c h' _ _ _ (F0 m 34 ls [])
        refine g_1 (fun w => lv_aload_n X.1 X.2.1 d_LB_takeAllPasses_34 rfl (lv_at hl 2 rfl) w) ?_
        refine g_1 (fun w => lv_dup X.1 X.2.1 d_LB_takeAllPasses_35 rfl w) ?_
        refine g_get X (ci := 0) rfl fX 3 (by decide) ⟨rfl, rfl⟩ tw_58 (Or.inl rfl) rfl d_LB_takeAllPasses_36 ?_
        refine g_1 (fun w => lv_aload_n X.1 X.2.1 d_LB_takeAllPasses_39 rfl (lv_at hl 0 rfl) w) ?_
        refine g_callVN (na := 0) X (c_BK_allBytes B0 hb2 (okB_tka (hwf i (by omega)).1)) rfl fb rfl ⟨⟨tw_423, tw_12⟩, ⟨by decide, by decide, by decide +kernel⟩, by decide, by decide⟩ tw_420 tw_422 ts_BK_allBytes rfl hl.1 (Nat.le_of_ble_eq_true rfl) ⟨by decide, by decide⟩ d_LB_takeAllPasses_40 (fun v h' hp => ?_)
        obtain ⟨rfl, rfl⟩ := hp
        refine g_widen (k' := 0) (n' := 0) (by decide) (by decide) ?_
        show G D s0 p l e _ s m _ below meth c h' _ _ _ (F0 m 43 ls [.int (iZ (bB (bs i) (bP (bs i)))), .int (iZ (sm (fun j => bB (bs j) (bP (bs j))) i)), .ref x])
        refine g_iadd X d_LB_takeAllPasses_43 ?_
        refine g_put X (ci := 0) rfl fX (Nat.succ_ne_zero _) 3 (by decide) ⟨rfl, rfl⟩ tw_58 (Or.inl rfl) rfl rfl rfl (Nat.le_of_ble_eq_true rfl) d_LB_takeAllPasses_44 ?_
        obtain ⟨h_1, eh_1⟩ : ∃ z, z = g_up h' x ((3, 0), .inr (0, [.ref bl, .ref yl, .int (iZ (pn)), .int (iZ (sm (fun j => bB (bs j) (bP (bs j))) i + (bB (bs i) (bP (bs i)))))])) := ⟨_, rfl⟩
        refine g_h (h' := h_1) eh_1.symm ?_
        have f_2 : h_1 x = some ((3, 0), .inr (0, [.ref bl, .ref yl, .int (iZ (pn)), .int (iZ (sm (fun j => bB (bs j) (bP (bs j))) i + (bB (bs i) (bP (bs i)))))])) := by rw [eh_1]; exact g_us
        have f_3 : h_1 bl = some ((5, 0), .inr (3, [.ref eb, .int (iZ (A.length)), .int (iZ (mb))])) := by rw [eh_1]; exact g_uk fbl fX (show (5 : Nat) ≠ 3 by decide)
        have f_4 : h_1 yl = some ((5, 1), .inr (3, [.ref ey, .int (iZ (Y.length)), .int (iZ (my))])) := by rw [eh_1]; exact g_uk fyl fX (show (5 : Nat) ≠ 3 by decide)
        have f_5 : h_1 (A.getD i 0) = some ((1, 0), .inr (1, [.ref p1, .ref p2, .ref p3, .int (iZ (bP (bs i))), .int (iZ (bS (bs i))), .int (iZ (bS (bs i))), .int (iZ (bP (bs i)))])) := by rw [eh_1]; exact g_uk fb fX (show (1 : Nat) ≠ 3 by decide)
        have hk_6 := kp_up (hk3) eh_1 fX (Or.inr (Or.inl rfl))
        refine g_s (fun kk => lv_iinc (v := iZ (i + 1)) (lv' := [(1, .int (iZ (i + 1))), (2, .ref (A.getD i 0)), (0, .ref x)]) X.1 X.2.1 d_LB_takeAllPasses_47 hl (k := 1) rfl (iZ_add _ _) (by decide) rfl kk) (fun ls hl => ?_)
        refine g_goto (tgt := 7) X d_LB_takeAllPasses_50 (by decide) ?_
        exact ih (i + 1) h_1 ls (by omega) (hx3.setX fX eh_1) hk_6 (lv_sub hl [0, 2] rfl)
  refine g_1 (fun w => lv_aload_n X.1 X.2.1 d_LB_takeAllPasses_0 rfl (lv_at hl 0 rfl) w) ?_
  refine g_1 (fun w => lv_iconst (v := iZ 0) X.1 X.2.1 d_LB_takeAllPasses_1 rfl w) ?_
  refine g_put X (ci := 0) rfl fX (Nat.succ_ne_zero _) 3 (by decide) ⟨rfl, rfl⟩ tw_58 (Or.inl rfl) rfl rfl rfl (Nat.le_of_ble_eq_true rfl) d_LB_takeAllPasses_2 ?_
  obtain ⟨h_1, eh_1⟩ : ∃ z, z = g_up h x ((3, 0), .inr (0, [.ref bl, .ref yl, .int (iZ (pn)), .int (iZ (0))])) := ⟨_, rfl⟩
  refine g_h (h' := h_1) eh_1.symm ?_
  have f_2 : h_1 x = some ((3, 0), .inr (0, [.ref bl, .ref yl, .int (iZ (pn)), .int (iZ (0))])) := by rw [eh_1]; exact g_us
  have f_3 : h_1 bl = some ((5, 0), .inr (3, [.ref eb, .int (iZ (A.length)), .int (iZ (mb))])) := by rw [eh_1]; exact g_uk fbl fX (show (5 : Nat) ≠ 3 by decide)
  have f_4 : h_1 yl = some ((5, 1), .inr (3, [.ref ey, .int (iZ (Y.length)), .int (iZ (my))])) := by rw [eh_1]; exact g_uk fyl fX (show (5 : Nat) ≠ 3 by decide)
  have hk_5 := kp_up (kp_rf (P := P_XB) (h := h)) eh_1 fX (Or.inr (Or.inl rfl))
  refine g_1 (fun w => lv_iconst (v := iZ 0) X.1 X.2.1 d_LB_takeAllPasses_5 rfl w) ?_
  refine g_s (fun kk => lv_istore_n (lv' := [(1, .int (iZ (0))), (0, .ref x)]) X.1 X.2.1 d_LB_takeAllPasses_6 rfl hl (by decide) rfl kk) (fun ls hl => ?_)
  exact loop A.length 0 h_1 ls (by omega) (by rw [upto_0]; exact hx.setX fX eh_1) hk_5 (lv_sub hl [0, 1] rfl)

set_option maxHeartbeats 4000000 in
set_option maxRecDepth 100000 in
theorem c_LB_steepestBlock {D : va_G} {s0 : State} {l : Launch} {h : gH} (B0 : gB D s0) {x : Nat} {A Y : List Nat} {bs : Nat → Blk} {ys : Nat → Lay} {pn tb : Int} (hx : isLB D h x A bs Y ys pn tb) (hAl : A.length ≤ 1024) (hYl : Y.length ≤ 64) (hwf : ∀ i, i < A.length → wfB (bs i)) : gMet D s0 l y_LB_steepestBlock b_LB_steepestBlock 10 (some .int) ({ frames := 3, cells := 0, slots := 0, locals := 64 } : Room) [.ref x] h (fun v h' => some (.int (iZ ((stp bs A.length : Int) - 1))) = v ∧ h = h') := by
  obtain ⟨bl, yl, fX, hA, hY, hbs, hys, hnd, hnd2⟩ := id hx
  obtain ⟨eb, mb, fbl, -⟩ := id hA
  obtain ⟨ey, my, fyl, -⟩ := id hY
  refine g_enter B0 (plainFor_of_name (by decide)) (Nat.le_of_ble_eq_true rfl) (fun p e s m below meth c ls X hnm hl => ?_)
  have hl : lv_has ls 10 [(0, .ref x)] := hl
  have loop : ∀ (d i r : Nat) (g1 n1 : Int) (ls : Array Slot), i + d = A.length → stp bs i = r → (r ≠ 0 → g1 = nG (bs (r - 1)) ∧ n1 = nB (bs (r - 1))) → (-65970697666560 ≤ g1 ∧ g1 ≤ 65970697666560 ∧ 0 ≤ n1 ∧ n1 ≤ 65535) → lv_has ls 10 [(5, .int (iZ (i))), (1, .int (iZ ((r : Int) - 1))), (2, .long (lZ (g1))), (4, .int (iZ (n1))), (0, .ref x)] → G D s0 p l e ({ frames := 3, cells := 0, slots := 0, locals := 64 } : Room) s m ([.ref x] : List Value).toArray below meth c h 0 0 (MQ below (gQ D s0 (fun v h' => some (.int (iZ ((stp bs A.length : Int) - 1))) = v ∧ h = h')) ([.ref x] : List Value).toArray s 0 0 (fun q => s0.heap.size ≤ q)) (F0 m 10 ls []) := by
    intro d
    induction d with
    | zero =>
      intro i r g1 n1 ls hi er eg hgb hl
      have hr := stp_le bs i
      refine g_1 (fun w => lv_iload X.1 X.2.1 d_LB_steepestBlock_10 (lv_at hl 0 rfl) w) ?_
      refine g_1 (fun w => lv_aload_n X.1 X.2.1 d_LB_steepestBlock_12 rfl (lv_at hl 4 rfl) w) ?_
      refine g_get X (ci := 0) rfl fX 0 (by decide) ⟨rfl, rfl⟩ tw_55 (Or.inl rfl) rfl d_LB_steepestBlock_13 ?_
      refine g_callV (na := 0) X (c_AL_size B0 hA) rfl fbl rfl ⟨⟨tw_87, tw_4⟩, ⟨by decide, by decide, by decide +kernel⟩, by decide, by decide⟩ tw_84 tw_85 tw_86 rfl hl.1 (Nat.le_of_ble_eq_true rfl) ⟨by decide, by decide⟩ d_LB_steepestBlock_16 (fun v h' hp => ?_)
      obtain ⟨rfl, rfl⟩ := hp
      refine g_widen (k' := 0) (n' := 0) (by decide) (by decide) ?_
      show G D s0 p l e _ s m _ below meth c h _ _ _ (F0 m 19 ls [.int (iZ (A.length)), .int (iZ (i))])
      refine g_icmp_ge (tgt := 95) X (by first | (split <;> exact ⟨by omega, by omega⟩) | exact ⟨by omega, by omega⟩ | exact cmpZ_ok _ _) (by first | (split <;> exact ⟨by omega, by omega⟩) | exact ⟨by omega, by omega⟩ | exact cmpZ_ok _ _) d_LB_steepestBlock_19 (by decide) (fun c19 => ?_) (fun c19 => ?_)
      · refine g_1 (fun w => lv_iload_n X.1 X.2.1 d_LB_steepestBlock_95 rfl (lv_at hl 1 rfl) w) ?_
        exact g_iret X (⟨by rw [show A.length = i by omega, er], rfl⟩) (by decide) (by decide) d_LB_steepestBlock_96
      · exfalso
        omega
    | succ d ih =>
      intro i r g1 n1 ls hi er eg hgb hl
      obtain ⟨gb1, gb2, gb3, gb4⟩ := id hgb
      have hr := stp_le bs i
      have hb1 := hbs i (by omega)
      have hw1 := hwf i (by omega)
      have wb := nB_bd hw1
      have ht := hw1.1.2.2.1
      have hs := hw1.1.2.1
      have hp0 := hw1.1.1
      obtain ⟨p1, p2, p3, fb, -⟩ := id hb1
      refine g_1 (fun w => lv_iload X.1 X.2.1 d_LB_steepestBlock_10 (lv_at hl 0 rfl) w) ?_
      refine g_1 (fun w => lv_aload_n X.1 X.2.1 d_LB_steepestBlock_12 rfl (lv_at hl 4 rfl) w) ?_
      refine g_get X (ci := 0) rfl fX 0 (by decide) ⟨rfl, rfl⟩ tw_55 (Or.inl rfl) rfl d_LB_steepestBlock_13 ?_
      refine g_callV (na := 0) X (c_AL_size B0 hA) rfl fbl rfl ⟨⟨tw_87, tw_4⟩, ⟨by decide, by decide, by decide +kernel⟩, by decide, by decide⟩ tw_84 tw_85 tw_86 rfl hl.1 (Nat.le_of_ble_eq_true rfl) ⟨by decide, by decide⟩ d_LB_steepestBlock_16 (fun v h' hp => ?_)
      obtain ⟨rfl, rfl⟩ := hp
      refine g_widen (k' := 0) (n' := 0) (by decide) (by decide) ?_
      show G D s0 p l e _ s m _ below meth c h _ _ _ (F0 m 19 ls [.int (iZ (A.length)), .int (iZ (i))])
      refine g_icmp_ge (tgt := 95) X (by first | exact cmpZ_ok _ _ | (split <;> exact ⟨by omega, by omega⟩) | exact ⟨by omega, by omega⟩) (by first | exact cmpZ_ok _ _ | (split <;> exact ⟨by omega, by omega⟩) | exact ⟨by omega, by omega⟩) d_LB_steepestBlock_19 (by decide) (fun c19 => ?_) (fun c19 => ?_)
      · exfalso
        omega
      · refine g_1 (fun w => lv_aload_n X.1 X.2.1 d_LB_steepestBlock_22 rfl (lv_at hl 4 rfl) w) ?_
        refine g_get X (ci := 0) rfl fX 0 (by decide) ⟨rfl, rfl⟩ tw_55 (Or.inl rfl) rfl d_LB_steepestBlock_23 ?_
        refine g_1 (fun w => lv_iload X.1 X.2.1 d_LB_steepestBlock_26 (lv_at hl 0 rfl) w) ?_
        refine g_callV (na := 1) X (c_AL_get B0 hA i (by omega)) rfl fbl rfl ⟨⟨tw_91, tw_4⟩, ⟨by decide, by decide, by decide +kernel⟩, by decide, by decide⟩ tw_88 tw_89 tw_90 rfl hl.1 (Nat.le_of_ble_eq_true rfl) ⟨by decide, by decide⟩ d_LB_steepestBlock_28 (fun v h' hp => ?_)
        obtain ⟨rfl, rfl⟩ := hp
        refine g_widen (k' := 0) (n' := 0) (by decide) (by decide) ?_
        show G D s0 p l e _ s m _ below meth c h _ _ _ (F0 m 31 ls [.ref (A.getD i 0)])
        refine g_cast X fb rfl tw_102 tw_652 d_LB_steepestBlock_31 ?_
        refine g_s (fun kk => lv_astore (lv' := [(6, .ref (A.getD i 0)), (5, .int (iZ (i))), (1, .int (iZ ((r : Int) - 1))), (2, .long (lZ (g1))), (4, .int (iZ (n1))), (0, .ref x)]) X.1 X.2.1 d_LB_steepestBlock_34 hl (by decide) rfl kk) (fun ls hl => ?_)
        refine g_1 (fun w => lv_aload X.1 X.2.1 d_LB_steepestBlock_36 (lv_at hl 0 rfl) w) ?_
        refine g_callVN (na := 0) X (c_BK_hasNext B0 hb1 hw1.1) rfl fb rfl ⟨⟨tw_435, tw_12⟩, ⟨by decide, by decide, by decide +kernel⟩, by decide, by decide⟩ tw_432 tw_434 ts_BK_hasNext rfl hl.1 (Nat.le_of_ble_eq_true rfl) ⟨by decide, by decide⟩ d_LB_steepestBlock_38 (fun v h' hp => ?_)
        obtain ⟨rfl, rfl⟩ := hp
        refine g_widen (k' := 0) (n' := 0) (by decide) (by decide) ?_
        show G D s0 p l e _ s m _ below meth c h _ _ _ (F0 m 41 ls [.int (iZ (if bT (bs i) < bS (bs i) then 1 else 0))])
        refine g_if_ne (tgt := 47) X (by first | exact cmpZ_ok _ _ | (split <;> exact ⟨by omega, by omega⟩) | exact ⟨by omega, by omega⟩) d_LB_steepestBlock_41 (by decide) (fun c41 => ?_) (fun c41 => ?_)
        · have c41 : hN (bs i) := if_1 c41
          have w0 := wb.1 c41
          refine g_1 (fun w => lv_aload X.1 X.2.1 d_LB_steepestBlock_47 (lv_at hl 0 rfl) w) ?_
          refine g_callVN (na := 0) X (c_BK_nextGain B0 hb1 hw1.1 (by omega)) rfl fb rfl ⟨⟨tw_439, tw_12⟩, ⟨by decide, by decide, by decide +kernel⟩, by decide, by decide⟩ tw_436 tw_438 ts_BK_nextGain rfl hl.1 (Nat.le_of_ble_eq_true rfl) ⟨by decide, by decide⟩ d_LB_steepestBlock_49 (fun v h' hp => ?_)
          obtain ⟨rfl, rfl⟩ := hp
          refine g_widen (k' := 0) (n' := 0) (by decide) (by decide) ?_
          show G D s0 p l e _ s m _ below meth c h _ _ _ (F0 m 52 ls [.long (lZ (nG (bs i)))])
          refine g_s (fun kk => lv_lstore (lv' := [(7, .long (lZ (nG (bs i)))), (6, .ref (A.getD i 0)), (5, .int (iZ (i))), (1, .int (iZ ((r : Int) - 1))), (2, .long (lZ (g1))), (4, .int (iZ (n1))), (0, .ref x)]) X.1 X.2.1 d_LB_steepestBlock_52 hl (by decide) rfl kk) (fun ls hl => ?_)
          refine g_1 (fun w => lv_aload X.1 X.2.1 d_LB_steepestBlock_54 (lv_at hl 1 rfl) w) ?_
          refine g_callVN (na := 0) X (c_BK_nextBytes B0 hb1 hw1.1 (by omega)) rfl fb rfl ⟨⟨tw_443, tw_12⟩, ⟨by decide, by decide, by decide +kernel⟩, by decide, by decide⟩ tw_440 tw_442 ts_BK_nextBytes rfl hl.1 (Nat.le_of_ble_eq_true rfl) ⟨by decide, by decide⟩ d_LB_steepestBlock_56 (fun v h' hp => ?_)
          obtain ⟨rfl, rfl⟩ := hp
          refine g_widen (k' := 0) (n' := 0) (by decide) (by decide) ?_
          show G D s0 p l e _ s m _ below meth c h _ _ _ (F0 m 59 ls [.int (iZ (nB (bs i)))])
          refine g_s (fun kk => lv_istore (lv' := [(9, .int (iZ (nB (bs i)))), (7, .long (lZ (nG (bs i)))), (6, .ref (A.getD i 0)), (5, .int (iZ (i))), (1, .int (iZ ((r : Int) - 1))), (2, .long (lZ (g1))), (4, .int (iZ (n1))), (0, .ref x)]) X.1 X.2.1 d_LB_steepestBlock_59 hl (by decide) rfl kk) (fun ls hl => ?_)
          refine g_1 (fun w => lv_iload_n X.1 X.2.1 d_LB_steepestBlock_61 rfl (lv_at hl 4 rfl) w) ?_
          refine g_1 (fun w => lv_iconst (v := iZ (-1)) X.1 X.2.1 d_LB_steepestBlock_62 rfl w) ?_
          refine g_icmp_eq (tgt := 79) X (by first | exact cmpZ_ok _ _ | (split <;> exact ⟨by omega, by omega⟩) | exact ⟨by omega, by omega⟩) (by first | exact cmpZ_ok _ _ | (split <;> exact ⟨by omega, by omega⟩) | exact ⟨by omega, by omega⟩) d_LB_steepestBlock_63 (by decide) (fun c63 => ?_) (fun c63 => ?_)
          · refine g_1 (fun w => lv_iload X.1 X.2.1 d_LB_steepestBlock_79 (lv_at hl 3 rfl) w) ?_
            refine g_s (fun kk => lv_istore_n (lv' := [(1, .int (iZ (i))), (9, .int (iZ (nB (bs i)))), (7, .long (lZ (nG (bs i)))), (6, .ref (A.getD i 0)), (5, .int (iZ (i))), (2, .long (lZ (g1))), (4, .int (iZ (n1))), (0, .ref x)]) X.1 X.2.1 d_LB_steepestBlock_81 rfl hl (by decide) rfl kk) (fun ls hl => ?_)
            refine g_1 (fun w => lv_lload X.1 X.2.1 d_LB_steepestBlock_82 (lv_at hl 2 rfl) w) ?_
            refine g_s (fun kk => lv_lstore_n (lv' := [(2, .long (lZ (nG (bs i)))), (1, .int (iZ (i))), (9, .int (iZ (nB (bs i)))), (7, .long (lZ (nG (bs i)))), (6, .ref (A.getD i 0)), (5, .int (iZ (i))), (4, .int (iZ (n1))), (0, .ref x)]) X.1 X.2.1 d_LB_steepestBlock_84 rfl hl (by decide) rfl kk) (fun ls hl => ?_)
            refine g_1 (fun w => lv_iload X.1 X.2.1 d_LB_steepestBlock_85 (lv_at hl 2 rfl) w) ?_
            refine g_s (fun kk => lv_istore (lv' := [(4, .int (iZ (nB (bs i)))), (2, .long (lZ (nG (bs i)))), (1, .int (iZ (i))), (9, .int (iZ (nB (bs i)))), (7, .long (lZ (nG (bs i)))), (6, .ref (A.getD i 0)), (5, .int (iZ (i))), (0, .ref x)]) X.1 X.2.1 d_LB_steepestBlock_87 hl (by decide) rfl kk) (fun ls hl => ?_)
            refine g_s (fun kk => lv_iinc (v := iZ (i + 1)) (lv' := [(5, .int (iZ (i + 1))), (4, .int (iZ (nB (bs i)))), (2, .long (lZ (nG (bs i)))), (1, .int (iZ (i))), (9, .int (iZ (nB (bs i)))), (7, .long (lZ (nG (bs i)))), (6, .ref (A.getD i 0)), (0, .ref x)]) X.1 X.2.1 d_LB_steepestBlock_89 hl (k := 6) rfl (iZ_add _ _) (by decide) rfl kk) (fun ls hl => ?_)
            refine g_goto (tgt := 10) X d_LB_steepestBlock_92 (by decide) ?_
            have e9 : stp bs (i + 1) = i + 1 := stp_t c41 (by first | exact Or.inl (by omega) | exact Or.inr (by
              have z := cmpZ_gt.mp c76
              have y := eg (by omega)
              rw [er, ← y.1, ← y.2]
              exact z))
            have hl := lv_sub hl [0, 3, 2, 1, 7] rfl
            have hl : lv_has ls 10 [(5, .int (iZ ((i + 1 : Nat) : Int))), (1, .int (iZ (((i + 1 : Nat) : Int) - 1))), (2, .long (lZ (nG (bs i)))), (4, .int (iZ (nB (bs i)))), (0, .ref x)] := by rw [show (((i + 1 : Nat) : Int) - 1) = i by omega]; exact hl
            exact ih (i + 1) (i + 1) (nG (bs i)) (nB (bs i)) ls (by omega) e9 (fun _ => ⟨rfl, rfl⟩) ⟨by omega, by omega, by omega, by omega⟩ hl
          · refine g_1 (fun w => lv_lload X.1 X.2.1 d_LB_steepestBlock_66 (lv_at hl 1 rfl) w) ?_
            refine g_1 (fun w => lv_iload X.1 X.2.1 d_LB_steepestBlock_68 (lv_at hl 0 rfl) w) ?_
            refine g_1 (fun w => lv_lload_n X.1 X.2.1 d_LB_steepestBlock_70 rfl (lv_at hl 5 rfl) w) ?_
            refine g_1 (fun w => lv_iload X.1 X.2.1 d_LB_steepestBlock_71 (lv_at hl 6 rfl) w) ?_
            refine g_callS (na := 4) X (c_LB_compareSlopes B0 ⟨by omega, by omega⟩ ⟨by omega, by omega⟩ (mul_ok (by omega) (by omega) (by omega) (by omega)) (mul_ok (by omega) (by omega) (by omega) (by omega))) rfl ⟨⟨tw_334, tw_1⟩, ⟨by decide, by decide, by decide +kernel⟩, by decide, by decide⟩ tw_444 tw_333 rfl hl.1 (Nat.le_of_ble_eq_true rfl) ⟨by decide, by decide⟩ d_LB_steepestBlock_73 (fun v h' hp => ?_)
            obtain ⟨rfl, rfl⟩ := hp
            refine g_widen (k' := 0) (n' := 0) (by decide) (by decide) ?_
            show G D s0 p l e _ s m _ below meth c h _ _ _ (F0 m 76 ls [.int (iZ (cmpZ (nG (bs i) * n1) (g1 * nB (bs i))))])
            refine g_if_le (tgt := 89) X (cmpZ_ok _ _) d_LB_steepestBlock_76 (by decide) (fun c76 => ?_) (fun c76 => ?_)
            · refine g_s (fun kk => lv_iinc (v := iZ (i + 1)) (lv' := [(5, .int (iZ (i + 1))), (9, .int (iZ (nB (bs i)))), (7, .long (lZ (nG (bs i)))), (6, .ref (A.getD i 0)), (1, .int (iZ ((r : Int) - 1))), (2, .long (lZ (g1))), (4, .int (iZ (n1))), (0, .ref x)]) X.1 X.2.1 d_LB_steepestBlock_89 hl (k := 3) rfl (iZ_add _ _) (by decide) rfl kk) (fun ls hl => ?_)
              refine g_goto (tgt := 10) X d_LB_steepestBlock_92 (by decide) ?_
              have e9 : stp bs (i + 1) = r := (stp_f (fun w => by first | exact absurd w.1 c41 | (rcases w.2 with w2 | w2; omega; have y := eg (by omega); rw [er, ← y.1, ← y.2] at w2; have z := cmpZ_gt.mpr w2; omega))).trans er
              exact ih (i + 1) r g1 n1 ls (by omega) e9 eg hgb (lv_sub hl [0, 4, 5, 6, 7] rfl)
            · refine g_1 (fun w => lv_iload X.1 X.2.1 d_LB_steepestBlock_79 (lv_at hl 3 rfl) w) ?_
              refine g_s (fun kk => lv_istore_n (lv' := [(1, .int (iZ (i))), (9, .int (iZ (nB (bs i)))), (7, .long (lZ (nG (bs i)))), (6, .ref (A.getD i 0)), (5, .int (iZ (i))), (2, .long (lZ (g1))), (4, .int (iZ (n1))), (0, .ref x)]) X.1 X.2.1 d_LB_steepestBlock_81 rfl hl (by decide) rfl kk) (fun ls hl => ?_)
              refine g_1 (fun w => lv_lload X.1 X.2.1 d_LB_steepestBlock_82 (lv_at hl 2 rfl) w) ?_
              refine g_s (fun kk => lv_lstore_n (lv' := [(2, .long (lZ (nG (bs i)))), (1, .int (iZ (i))), (9, .int (iZ (nB (bs i)))), (7, .long (lZ (nG (bs i)))), (6, .ref (A.getD i 0)), (5, .int (iZ (i))), (4, .int (iZ (n1))), (0, .ref x)]) X.1 X.2.1 d_LB_steepestBlock_84 rfl hl (by decide) rfl kk) (fun ls hl => ?_)
              refine g_1 (fun w => lv_iload X.1 X.2.1 d_LB_steepestBlock_85 (lv_at hl 2 rfl) w) ?_
              refine g_s (fun kk => lv_istore (lv' := [(4, .int (iZ (nB (bs i)))), (2, .long (lZ (nG (bs i)))), (1, .int (iZ (i))), (9, .int (iZ (nB (bs i)))), (7, .long (lZ (nG (bs i)))), (6, .ref (A.getD i 0)), (5, .int (iZ (i))), (0, .ref x)]) X.1 X.2.1 d_LB_steepestBlock_87 hl (by decide) rfl kk) (fun ls hl => ?_)
              refine g_s (fun kk => lv_iinc (v := iZ (i + 1)) (lv' := [(5, .int (iZ (i + 1))), (4, .int (iZ (nB (bs i)))), (2, .long (lZ (nG (bs i)))), (1, .int (iZ (i))), (9, .int (iZ (nB (bs i)))), (7, .long (lZ (nG (bs i)))), (6, .ref (A.getD i 0)), (0, .ref x)]) X.1 X.2.1 d_LB_steepestBlock_89 hl (k := 6) rfl (iZ_add _ _) (by decide) rfl kk) (fun ls hl => ?_)
              refine g_goto (tgt := 10) X d_LB_steepestBlock_92 (by decide) ?_
              have e9 : stp bs (i + 1) = i + 1 := stp_t c41 (by first | exact Or.inl (by omega) | exact Or.inr (by
                have z := cmpZ_gt.mp c76
                have y := eg (by omega)
                rw [er, ← y.1, ← y.2]
                exact z))
              have hl := lv_sub hl [0, 3, 2, 1, 7] rfl
              have hl : lv_has ls 10 [(5, .int (iZ ((i + 1 : Nat) : Int))), (1, .int (iZ (((i + 1 : Nat) : Int) - 1))), (2, .long (lZ (nG (bs i)))), (4, .int (iZ (nB (bs i)))), (0, .ref x)] := by rw [show (((i + 1 : Nat) : Int) - 1) = i by omega]; exact hl
              exact ih (i + 1) (i + 1) (nG (bs i)) (nB (bs i)) ls (by omega) e9 (fun _ => ⟨rfl, rfl⟩) ⟨by omega, by omega, by omega, by omega⟩ hl
        · have c41 : ¬ hN (bs i) := if_0 c41
          refine g_goto (tgt := 89) X d_LB_steepestBlock_44 (by decide) ?_
          refine g_s (fun kk => lv_iinc (v := iZ (i + 1)) (lv' := [(5, .int (iZ (i + 1))), (6, .ref (A.getD i 0)), (1, .int (iZ ((r : Int) - 1))), (2, .long (lZ (g1))), (4, .int (iZ (n1))), (0, .ref x)]) X.1 X.2.1 d_LB_steepestBlock_89 hl (k := 1) rfl (iZ_add _ _) (by decide) rfl kk) (fun ls hl => ?_)
          refine g_goto (tgt := 10) X d_LB_steepestBlock_92 (by decide) ?_
          have e9 : stp bs (i + 1) = r := (stp_f (fun w => by first | exact absurd w.1 c41 | (rcases w.2 with w2 | w2; omega; have y := eg (by omega); rw [er, ← y.1, ← y.2] at w2; have z := cmpZ_gt.mpr w2; omega))).trans er
          exact ih (i + 1) r g1 n1 ls (by omega) e9 eg hgb (lv_sub hl [0, 2, 3, 4, 5] rfl)
  refine g_1 (fun w => lv_iconst (v := iZ (-1)) X.1 X.2.1 d_LB_steepestBlock_0 rfl w) ?_
  refine g_s (fun kk => lv_istore_n (lv' := [(1, .int (iZ ((-1)))), (0, .ref x)]) X.1 X.2.1 d_LB_steepestBlock_1 rfl hl (by decide) rfl kk) (fun ls hl => ?_)
  refine g_1 (fun w => lv_lconst (v := lZ 0) X.1 X.2.1 d_LB_steepestBlock_2 (by decide) w) ?_
  refine g_s (fun kk => lv_lstore_n (lv' := [(2, .long (lZ (0))), (1, .int (iZ ((-1)))), (0, .ref x)]) X.1 X.2.1 d_LB_steepestBlock_3 rfl hl (by decide) rfl kk) (fun ls hl => ?_)
  refine g_1 (fun w => lv_iconst (v := iZ 0) X.1 X.2.1 d_LB_steepestBlock_4 rfl w) ?_
  refine g_s (fun kk => lv_istore (lv' := [(4, .int (iZ (0))), (2, .long (lZ (0))), (1, .int (iZ ((-1)))), (0, .ref x)]) X.1 X.2.1 d_LB_steepestBlock_5 hl (by decide) rfl kk) (fun ls hl => ?_)
  refine g_1 (fun w => lv_iconst (v := iZ 0) X.1 X.2.1 d_LB_steepestBlock_7 rfl w) ?_
  refine g_s (fun kk => lv_istore (lv' := [(5, .int (iZ (0))), (4, .int (iZ (0))), (2, .long (lZ (0))), (1, .int (iZ ((-1)))), (0, .ref x)]) X.1 X.2.1 d_LB_steepestBlock_8 hl (by decide) rfl kk) (fun ls hl => ?_)
  exact loop A.length 0 0 0 0 ls (by omega) rfl (fun z => absurd rfl z) ⟨by decide, by decide, by decide, by decide⟩ (lv_sub hl [0, 3, 2, 1, 4] rfl)
end
section
set_option maxHeartbeats 4000000 in
set_option maxRecDepth 100000 in
theorem c_LB_bytesOfSlope {D : va_G} {s0 : State} {l : Launch} {h : gH} (B0 : gB D s0) {x : Nat} {A Y : List Nat} {bs : Nat → Blk} {ys : Nat → Lay} {pn tb : Int} (hx : isLB D h x A bs Y ys pn tb) (hAl : A.length ≤ 1024) (hYl : Y.length ≤ 64) (hwf : ∀ i, i < A.length → wfB (bs i)) {sg sb : Int} (hg1 : -65970697666560 ≤ sg) (hg2 : sg ≤ 65970697666560) (hb1 : 0 ≤ sb) (hb2 : sb ≤ 65535) : gMet D s0 l y_LB_bytesOfSlope b_LB_bytesOfSlope 7 (some .int) ({ frames := 3, cells := 0, slots := 0, locals := 71 } : Room) [.ref x, .long (lZ (sg)), .int (iZ (sb))] h (fun v h' => some (.int (iZ (cst bs sg sb A.length))) = v ∧ h = h') := by
  obtain ⟨bl, yl, fX, hA, hY, hbs, hys, hnd, hnd2⟩ := id hx
  obtain ⟨eb, mb, fbl, -⟩ := id hA
  obtain ⟨ey, my, fyl, -⟩ := id hY
  refine g_enter B0 (plainFor_of_name (by decide)) (Nat.le_of_ble_eq_true rfl) (fun p e s m below meth c ls X hnm hl => ?_)
  have hl : lv_has ls 7 [(0, .ref x), (1, .long (lZ (sg))), (3, .int (iZ (sb)))] := hl
  have loop : ∀ (d i : Nat) (ls : Array Slot), i + d = A.length → lv_has ls 7 [(4, .int (iZ (cst bs sg sb i))), (5, .int (iZ (i))), (3, .int (iZ (sb))), (1, .long (lZ (sg))), (0, .ref x)] → G D s0 p l e ({ frames := 3, cells := 0, slots := 0, locals := 71 } : Room) s m ([.ref x, .long (lZ (sg)), .int (iZ (sb))] : List Value).toArray below meth c h 0 0 (MQ below (gQ D s0 (fun v h' => some (.int (iZ (cst bs sg sb A.length))) = v ∧ h = h')) ([.ref x, .long (lZ (sg)), .int (iZ (sb))] : List Value).toArray s 0 0 (fun q => s0.heap.size ≤ q)) (F0 m 6 ls []) := by
    intro d
    induction d with
    | zero =>
      intro i ls hi hl
      refine g_1 (fun w => lv_iload X.1 X.2.1 d_LB_bytesOfSlope_6 (lv_at hl 1 rfl) w) ?_
      refine g_1 (fun w => lv_aload_n X.1 X.2.1 d_LB_bytesOfSlope_8 rfl (lv_at hl 4 rfl) w) ?_
      refine g_get X (ci := 0) rfl fX 0 (by decide) ⟨rfl, rfl⟩ tw_55 (Or.inl rfl) rfl d_LB_bytesOfSlope_9 ?_
      refine g_callV (na := 0) X (c_AL_size B0 hA) rfl fbl rfl ⟨⟨tw_87, tw_4⟩, ⟨by decide, by decide, by decide +kernel⟩, by decide, by decide⟩ tw_84 tw_85 tw_86 rfl hl.1 (Nat.le_of_ble_eq_true rfl) ⟨by decide, by decide⟩ d_LB_bytesOfSlope_12 (fun v h' hp => ?_)
      obtain ⟨rfl, rfl⟩ := hp
      refine g_widen (k' := 0) (n' := 0) (by decide) (by decide) ?_
      show G D s0 p l e _ s m _ below meth c h _ _ _ (F0 m 15 ls [.int (iZ (A.length)), .int (iZ (i))])
      refine g_icmp_ge (tgt := 58) X (by first | (split <;> exact ⟨by omega, by omega⟩) | exact ⟨by omega, by omega⟩ | exact cmpZ_ok _ _) (by first | (split <;> exact ⟨by omega, by omega⟩) | exact ⟨by omega, by omega⟩ | exact cmpZ_ok _ _) d_LB_bytesOfSlope_15 (by decide) (fun c15 => ?_) (fun c15 => ?_)
      · refine g_1 (fun w => lv_iload X.1 X.2.1 d_LB_bytesOfSlope_58 (lv_at hl 0 rfl) w) ?_
        exact g_iret X (⟨by rw [show A.length = i by omega], rfl⟩) (by decide) (by decide) d_LB_bytesOfSlope_60
      · exfalso
        omega
    | succ d ih =>
      intro i ls hi hl
      have hk1 := hbs i (by omega)
      have hw1 := hwf i (by omega)
      have ht := hw1.1.2.2.1
      have hs := hw1.1.2.1
      have hp0 := hw1.1.1
      obtain ⟨p1, p2, p3, fb, -⟩ := id hk1
      refine g_1 (fun w => lv_iload X.1 X.2.1 d_LB_bytesOfSlope_6 (lv_at hl 1 rfl) w) ?_
      refine g_1 (fun w => lv_aload_n X.1 X.2.1 d_LB_bytesOfSlope_8 rfl (lv_at hl 4 rfl) w) ?_
      refine g_get X (ci := 0) rfl fX 0 (by decide) ⟨rfl, rfl⟩ tw_55 (Or.inl rfl) rfl d_LB_bytesOfSlope_9 ?_
      refine g_callV (na := 0) X (c_AL_size B0 hA) rfl fbl rfl ⟨⟨tw_87, tw_4⟩, ⟨by decide, by decide, by decide +kernel⟩, by decide, by decide⟩ tw_84 tw_85 tw_86 rfl hl.1 (Nat.le_of_ble_eq_true rfl) ⟨by decide, by decide⟩ d_LB_bytesOfSlope_12 (fun v h' hp => ?_)
      obtain ⟨rfl, rfl⟩ := hp
      refine g_widen (k' := 0) (n' := 0) (by decide) (by decide) ?_
      show G D s0 p l e _ s m _ below meth c h _ _ _ (F0 m 15 ls [.int (iZ (A.length)), .int (iZ (i))])
      refine g_icmp_ge (tgt := 58) X (by first | (split <;> exact ⟨by omega, by omega⟩) | exact ⟨by omega, by omega⟩ | exact cmpZ_ok _ _) (by first | (split <;> exact ⟨by omega, by omega⟩) | exact ⟨by omega, by omega⟩ | exact cmpZ_ok _ _) d_LB_bytesOfSlope_15 (by decide) (fun c15 => ?_) (fun c15 => ?_)
      · exfalso
        omega
      · refine g_1 (fun w => lv_aload_n X.1 X.2.1 d_LB_bytesOfSlope_18 rfl (lv_at hl 4 rfl) w) ?_
        refine g_get X (ci := 0) rfl fX 0 (by decide) ⟨rfl, rfl⟩ tw_55 (Or.inl rfl) rfl d_LB_bytesOfSlope_19 ?_
        refine g_1 (fun w => lv_iload X.1 X.2.1 d_LB_bytesOfSlope_22 (lv_at hl 1 rfl) w) ?_
        refine g_callV (na := 1) X (c_AL_get B0 hA i (by omega)) rfl fbl rfl ⟨⟨tw_91, tw_4⟩, ⟨by decide, by decide, by decide +kernel⟩, by decide, by decide⟩ tw_88 tw_89 tw_90 rfl hl.1 (Nat.le_of_ble_eq_true rfl) ⟨by decide, by decide⟩ d_LB_bytesOfSlope_24 (fun v h' hp => ?_)
        obtain ⟨rfl, rfl⟩ := hp
        refine g_widen (k' := 0) (n' := 0) (by decide) (by decide) ?_
        show G D s0 p l e _ s m _ below meth c h _ _ _ (F0 m 27 ls [.ref (A.getD i 0)])
        refine g_cast X fb rfl tw_102 tw_652 d_LB_bytesOfSlope_27 ?_
        refine g_s (fun kk => lv_astore (lv' := [(6, .ref (A.getD i 0)), (4, .int (iZ (cst bs sg sb i))), (5, .int (iZ (i))), (3, .int (iZ (sb))), (1, .long (lZ (sg))), (0, .ref x)]) X.1 X.2.1 d_LB_bytesOfSlope_30 hl (by decide) rfl kk) (fun ls hl => ?_)
        refine g_1 (fun w => lv_aload X.1 X.2.1 d_LB_bytesOfSlope_32 (lv_at hl 0 rfl) w) ?_
        refine g_1 (fun w => lv_lload_n X.1 X.2.1 d_LB_bytesOfSlope_34 rfl (lv_at hl 4 rfl) w) ?_
        refine g_1 (fun w => lv_iload_n X.1 X.2.1 d_LB_bytesOfSlope_35 rfl (lv_at hl 3 rfl) w) ?_
        refine g_callVN (na := 2) X (c_BK_nextHasSlope B0 hk1 hw1.1 hg1 hg2 hb1 hb2 (fun z => hw1.mo z)) rfl fb rfl ⟨⟨tw_452, tw_12⟩, ⟨by decide, by decide, by decide +kernel⟩, by decide, by decide⟩ tw_449 tw_451 ts_BK_nextHasSlope rfl hl.1 (Nat.le_of_ble_eq_true rfl) ⟨by decide, by decide⟩ d_LB_bytesOfSlope_36 (fun v h' hp => ?_)
        obtain ⟨rfl, rfl⟩ := hp
        refine g_widen (k' := 0) (n' := 0) (by decide) (by decide) ?_
        show G D s0 p l e _ s m _ below meth c h _ _ _ (F0 m 39 ls [.int (iZ (if eqS sg sb (bs i) then 1 else 0))])
        refine g_if_eq (tgt := 52) X (by first | (split <;> exact ⟨by omega, by omega⟩) | exact ⟨by omega, by omega⟩ | exact cmpZ_ok _ _) d_LB_bytesOfSlope_39 (by decide) (fun c39 => ?_) (fun c39 => ?_)
        · refine g_s (fun kk => lv_iinc (v := iZ (i + 1)) (lv' := [(5, .int (iZ (i + 1))), (6, .ref (A.getD i 0)), (4, .int (iZ (cst bs sg sb i))), (3, .int (iZ (sb))), (1, .long (lZ (sg))), (0, .ref x)]) X.1 X.2.1 d_LB_bytesOfSlope_52 hl (k := 2) rfl (iZ_add _ _) (by decide) rfl kk) (fun ls hl => ?_)
          refine g_goto (tgt := 6) X d_LB_bytesOfSlope_55 (by decide) ?_
          have e9 := cst_f (if_0 c39)
          have hl := lv_sub hl [2, 0, 3, 4, 5] rfl
          rw [← e9] at hl
          exact ih (i + 1) ls (by omega) hl
        · have c39t := (if_1 c39).1
          refine g_1 (fun w => lv_iload X.1 X.2.1 d_LB_bytesOfSlope_42 (lv_at hl 1 rfl) w) ?_
          refine g_1 (fun w => lv_aload X.1 X.2.1 d_LB_bytesOfSlope_44 (lv_at hl 0 rfl) w) ?_
          refine g_callVN (na := 0) X (c_BK_nextBytes B0 hk1 hw1.1 (by omega)) rfl fb rfl ⟨⟨tw_443, tw_12⟩, ⟨by decide, by decide, by decide +kernel⟩, by decide, by decide⟩ tw_440 tw_442 ts_BK_nextBytes rfl hl.1 (Nat.le_of_ble_eq_true rfl) ⟨by decide, by decide⟩ d_LB_bytesOfSlope_46 (fun v h' hp => ?_)
          obtain ⟨rfl, rfl⟩ := hp
          refine g_widen (k' := 0) (n' := 0) (by decide) (by decide) ?_
          show G D s0 p l e _ s m _ below meth c h _ _ _ (F0 m 49 ls [.int (iZ (nB (bs i))), .int (iZ (cst bs sg sb i))])
          refine g_iadd X d_LB_bytesOfSlope_49 ?_
          refine g_s (fun kk => lv_istore (lv' := [(4, .int (iZ (cst bs sg sb i + (nB (bs i))))), (6, .ref (A.getD i 0)), (5, .int (iZ (i))), (3, .int (iZ (sb))), (1, .long (lZ (sg))), (0, .ref x)]) X.1 X.2.1 d_LB_bytesOfSlope_50 hl (by decide) rfl kk) (fun ls hl => ?_)
          refine g_s (fun kk => lv_iinc (v := iZ (i + 1)) (lv' := [(5, .int (iZ (i + 1))), (4, .int (iZ (cst bs sg sb i + (nB (bs i))))), (6, .ref (A.getD i 0)), (3, .int (iZ (sb))), (1, .long (lZ (sg))), (0, .ref x)]) X.1 X.2.1 d_LB_bytesOfSlope_52 hl (k := 2) rfl (iZ_add _ _) (by decide) rfl kk) (fun ls hl => ?_)
          refine g_goto (tgt := 6) X d_LB_bytesOfSlope_55 (by decide) ?_
          have e9 := cst_t (if_1 c39)
          have hl := lv_sub hl [1, 0, 3, 4, 5] rfl
          rw [← e9] at hl
          exact ih (i + 1) ls (by omega) hl
  refine g_1 (fun w => lv_iconst (v := iZ 0) X.1 X.2.1 d_LB_bytesOfSlope_0 rfl w) ?_
  refine g_s (fun kk => lv_istore (lv' := [(4, .int (iZ (0))), (0, .ref x), (1, .long (lZ (sg))), (3, .int (iZ (sb)))]) X.1 X.2.1 d_LB_bytesOfSlope_1 hl (by decide) rfl kk) (fun ls hl => ?_)
  refine g_1 (fun w => lv_iconst (v := iZ 0) X.1 X.2.1 d_LB_bytesOfSlope_3 rfl w) ?_
  refine g_s (fun kk => lv_istore (lv' := [(5, .int (iZ (0))), (4, .int (iZ (0))), (0, .ref x), (1, .long (lZ (sg))), (3, .int (iZ (sb)))]) X.1 X.2.1 d_LB_bytesOfSlope_4 hl (by decide) rfl kk) (fun ls hl => ?_)
  exact loop A.length 0 ls (by omega) (lv_sub hl [1, 0, 4, 3, 2] rfl)

set_option maxHeartbeats 4000000 in
set_option maxRecDepth 100000 in
theorem c_LB_takeSlope {D : va_G} {s0 : State} {l : Launch} {h : gH} (B0 : gB D s0) {x : Nat} {A Y : List Nat} {bs : Nat → Blk} {ys : Nat → Lay} {pn tb : Int} (hx : isLB D h x A bs Y ys pn tb) (hAl : A.length ≤ 1024) (hYl : Y.length ≤ 64) (hwf : ∀ i, i < A.length → wfB (bs i)) {sg sb : Int} (hg1 : -65970697666560 ≤ sg) (hg2 : sg ≤ 65970697666560) (hb1 : 0 ≤ sb) (hb2 : sb ≤ 65535) : gMet D s0 l y_LB_takeSlope b_LB_takeSlope 6 none ({ frames := 3, cells := 0, slots := 0, locals := 71 } : Room) [.ref x, .long (lZ (sg)), .int (iZ (sb))] h (fun v h' => none = v ∧ isLB D h' x A (fun j => tkS sg sb (bs j)) Y ys pn tb ∧ kp P_BB h h') := by
  obtain ⟨bl, yl, fX, hA, hY, hbs, hys, hnd, hnd2⟩ := id hx
  obtain ⟨eb, mb, fbl, -⟩ := id hA
  obtain ⟨ey, my, fyl, -⟩ := id hY
  refine g_enter B0 (plainFor_of_name (by decide)) (Nat.le_of_ble_eq_true rfl) (fun p e s m below meth c ls X hnm hl => ?_)
  have hl : lv_has ls 6 [(0, .ref x), (1, .long (lZ (sg))), (3, .int (iZ (sb)))] := hl
  have loop : ∀ (d i : Nat) (hh : gH) (ls : Array Slot), i + d = A.length → isLB D hh x A (upto (tkS sg sb) bs i) Y ys pn tb → kp P_BB h hh → lv_has ls 6 [(4, .int (iZ (i))), (3, .int (iZ (sb))), (1, .long (lZ (sg))), (0, .ref x)] → G D s0 p l e ({ frames := 3, cells := 0, slots := 0, locals := 71 } : Room) s m ([.ref x, .long (lZ (sg)), .int (iZ (sb))] : List Value).toArray below meth c hh 0 0 (MQ below (gQ D s0 (fun v h' => none = v ∧ isLB D h' x A (fun j => tkS sg sb (bs j)) Y ys pn tb ∧ kp P_BB h h')) ([.ref x, .long (lZ (sg)), .int (iZ (sb))] : List Value).toArray s 0 0 (fun q => s0.heap.size ≤ q)) (F0 m 3 ls []) := by
    intro d
    induction d with
    | zero =>
      intro i hh ls hi hx2 hkk hl
      obtain ⟨bl, yl, fX, hA, hY, hbs, hys, hnd, hnd2⟩ := id hx2
      obtain ⟨eb, mb, fbl, -⟩ := id hA
      obtain ⟨ey, my, fyl, -⟩ := id hY
      refine g_1 (fun w => lv_iload X.1 X.2.1 d_LB_takeSlope_3 (lv_at hl 0 rfl) w) ?_
      refine g_1 (fun w => lv_aload_n X.1 X.2.1 d_LB_takeSlope_5 rfl (lv_at hl 3 rfl) w) ?_
      refine g_get X (ci := 0) rfl fX 0 (by decide) ⟨rfl, rfl⟩ tw_55 (Or.inl rfl) rfl d_LB_takeSlope_6 ?_
      refine g_callV (na := 0) X (c_AL_size B0 hA) rfl fbl rfl ⟨⟨tw_87, tw_4⟩, ⟨by decide, by decide, by decide +kernel⟩, by decide, by decide⟩ tw_84 tw_85 tw_86 rfl hl.1 (Nat.le_of_ble_eq_true rfl) ⟨by decide, by decide⟩ d_LB_takeSlope_9 (fun v h' hp => ?_)
      obtain ⟨rfl, rfl⟩ := hp
      refine g_widen (k' := 0) (n' := 0) (by decide) (by decide) ?_
      show G D s0 p l e _ s m _ below meth c hh _ _ _ (F0 m 12 ls [.int (iZ (A.length)), .int (iZ (i))])
      refine g_icmp_ge (tgt := 50) X (by first | (split <;> exact ⟨by omega, by omega⟩) | exact ⟨by omega, by omega⟩ | exact cmpZ_ok _ _) (by first | (split <;> exact ⟨by omega, by omega⟩) | exact ⟨by omega, by omega⟩ | exact cmpZ_ok _ _) d_LB_takeSlope_12 (by decide) (fun c12 => ?_) (fun c12 => ?_)
      · have hei : i = A.length := by omega
        subst hei
        have hfin := hx2.congr (bs2 := fun j => tkS sg sb (bs j)) (fun j hj => upto_lt hj)
        exact g_vret X (⟨rfl, hfin, hkk⟩) (by decide) (by decide) d_LB_takeSlope_50
      · exfalso
        omega
    | succ d ih =>
      intro i hh ls hi hx2 hkk hl
      obtain ⟨bl, yl, fX, hA, hY, hbs, hys, hnd, hnd2⟩ := id hx2
      obtain ⟨eb, mb, fbl, -⟩ := id hA
      obtain ⟨ey, my, fyl, -⟩ := id hY
      have hk1 : isBk D hh (A.getD i 0) (bs i) := by have z := hbs i (by omega); rw [upto_at] at z; exact z
      have hw1 := hwf i (by omega)
      have ht := hw1.1.2.2.1
      have hs := hw1.1.2.1
      have hp0 := hw1.1.1
      obtain ⟨p1, p2, p3, fb, -⟩ := id hk1
      refine g_1 (fun w => lv_iload X.1 X.2.1 d_LB_takeSlope_3 (lv_at hl 0 rfl) w) ?_
      refine g_1 (fun w => lv_aload_n X.1 X.2.1 d_LB_takeSlope_5 rfl (lv_at hl 3 rfl) w) ?_
      refine g_get X (ci := 0) rfl fX 0 (by decide) ⟨rfl, rfl⟩ tw_55 (Or.inl rfl) rfl d_LB_takeSlope_6 ?_
      refine g_callV (na := 0) X (c_AL_size B0 hA) rfl fbl rfl ⟨⟨tw_87, tw_4⟩, ⟨by decide, by decide, by decide +kernel⟩, by decide, by decide⟩ tw_84 tw_85 tw_86 rfl hl.1 (Nat.le_of_ble_eq_true rfl) ⟨by decide, by decide⟩ d_LB_takeSlope_9 (fun v h' hp => ?_)
      obtain ⟨rfl, rfl⟩ := hp
      refine g_widen (k' := 0) (n' := 0) (by decide) (by decide) ?_
      show G D s0 p l e _ s m _ below meth c hh _ _ _ (F0 m 12 ls [.int (iZ (A.length)), .int (iZ (i))])
      refine g_icmp_ge (tgt := 50) X (by first | (split <;> exact ⟨by omega, by omega⟩) | exact ⟨by omega, by omega⟩ | exact cmpZ_ok _ _) (by first | (split <;> exact ⟨by omega, by omega⟩) | exact ⟨by omega, by omega⟩ | exact cmpZ_ok _ _) d_LB_takeSlope_12 (by decide) (fun c12 => ?_) (fun c12 => ?_)
      · exfalso
        omega
      · refine g_1 (fun w => lv_aload_n X.1 X.2.1 d_LB_takeSlope_15 rfl (lv_at hl 3 rfl) w) ?_
        refine g_get X (ci := 0) rfl fX 0 (by decide) ⟨rfl, rfl⟩ tw_55 (Or.inl rfl) rfl d_LB_takeSlope_16 ?_
        refine g_1 (fun w => lv_iload X.1 X.2.1 d_LB_takeSlope_19 (lv_at hl 0 rfl) w) ?_
        refine g_callV (na := 1) X (c_AL_get B0 hA i (by omega)) rfl fbl rfl ⟨⟨tw_91, tw_4⟩, ⟨by decide, by decide, by decide +kernel⟩, by decide, by decide⟩ tw_88 tw_89 tw_90 rfl hl.1 (Nat.le_of_ble_eq_true rfl) ⟨by decide, by decide⟩ d_LB_takeSlope_21 (fun v h' hp => ?_)
        obtain ⟨rfl, rfl⟩ := hp
        refine g_widen (k' := 0) (n' := 0) (by decide) (by decide) ?_
        show G D s0 p l e _ s m _ below meth c hh _ _ _ (F0 m 24 ls [.ref (A.getD i 0)])
        refine g_cast X fb rfl tw_102 tw_652 d_LB_takeSlope_24 ?_
        refine g_s (fun kk => lv_astore (lv' := [(5, .ref (A.getD i 0)), (4, .int (iZ (i))), (3, .int (iZ (sb))), (1, .long (lZ (sg))), (0, .ref x)]) X.1 X.2.1 d_LB_takeSlope_27 hl (by decide) rfl kk) (fun ls hl => ?_)
        refine g_1 (fun w => lv_aload X.1 X.2.1 d_LB_takeSlope_29 (lv_at hl 0 rfl) w) ?_
        refine g_1 (fun w => lv_lload_n X.1 X.2.1 d_LB_takeSlope_31 rfl (lv_at hl 3 rfl) w) ?_
        refine g_1 (fun w => lv_iload_n X.1 X.2.1 d_LB_takeSlope_32 rfl (lv_at hl 2 rfl) w) ?_
        refine g_callVN (na := 2) X (c_BK_nextHasSlope B0 hk1 hw1.1 hg1 hg2 hb1 hb2 (fun z => hw1.mo z)) rfl fb rfl ⟨⟨tw_452, tw_12⟩, ⟨by decide, by decide, by decide +kernel⟩, by decide, by decide⟩ tw_449 tw_451 ts_BK_nextHasSlope rfl hl.1 (Nat.le_of_ble_eq_true rfl) ⟨by decide, by decide⟩ d_LB_takeSlope_33 (fun v h' hp => ?_)
        obtain ⟨rfl, rfl⟩ := hp
        refine g_widen (k' := 0) (n' := 0) (by decide) (by decide) ?_
        show G D s0 p l e _ s m _ below meth c hh _ _ _ (F0 m 36 ls [.int (iZ (if eqS sg sb (bs i) then 1 else 0))])
        refine g_if_eq (tgt := 44) X (by first | (split <;> exact ⟨by omega, by omega⟩) | exact ⟨by omega, by omega⟩ | exact cmpZ_ok _ _) d_LB_takeSlope_36 (by decide) (fun c36 => ?_) (fun c36 => ?_)
        · refine g_s (fun kk => lv_iinc (v := iZ (i + 1)) (lv' := [(4, .int (iZ (i + 1))), (5, .ref (A.getD i 0)), (3, .int (iZ (sb))), (1, .long (lZ (sg))), (0, .ref x)]) X.1 X.2.1 d_LB_takeSlope_44 hl (k := 1) rfl (iZ_add _ _) (by decide) rfl kk) (fun ls hl => ?_)
          refine g_goto (tgt := 3) X d_LB_takeSlope_47 (by decide) ?_
          exact ih (i + 1) hh ls (by omega) (by rw [upto_stay (tkS_f (if_0 c36))]; exact hx2) hkk (lv_sub hl [0, 2, 3, 4] rfl)
        · have c36 := if_1 c36
          have c36t := c36.1
          refine g_1 (fun w => lv_aload X.1 X.2.1 d_LB_takeSlope_39 (lv_at hl 0 rfl) w) ?_
          refine g_callVN (na := 0) X (c_BK_takeNext B0 hk1 hw1.1 (by omega)) rfl fb rfl ⟨⟨tw_463, tw_12⟩, ⟨by decide, by decide, by decide +kernel⟩, by decide, by decide⟩ tw_460 tw_462 ts_BK_takeNext rfl hl.1 (Nat.le_of_ble_eq_true rfl) ⟨by decide, by decide⟩ d_LB_takeSlope_41 (fun v h' hp => ?_)
          obtain ⟨rfl, hb5, hk5⟩ := hp
          have hx3 : isLB D h' x A (upto (tkS sg sb) bs (i + 1)) Y ys pn tb := by rw [← upto_succ, tkS_t c36]; exact hx2.setB (by omega) hb5 hk5
          have hk3 := kp_tr hkk (kpB_BB hk1 hk5)
          refine g_widen (k' := 0) (n' := 0) (by decide) (by decide) ?_
          show G D s0 p l e _ s m _ below meth c h' _ _ _ (F0 m 44 ls [])
          refine g_s (fun kk => lv_iinc (v := iZ (i + 1)) (lv' := [(4, .int (iZ (i + 1))), (5, .ref (A.getD i 0)), (3, .int (iZ (sb))), (1, .long (lZ (sg))), (0, .ref x)]) X.1 X.2.1 d_LB_takeSlope_44 hl (k := 1) rfl (iZ_add _ _) (by decide) rfl kk) (fun ls hl => ?_)
          refine g_goto (tgt := 3) X d_LB_takeSlope_47 (by decide) ?_
          exact ih (i + 1) h' ls (by omega) hx3 hk3 (lv_sub hl [0, 2, 3, 4] rfl)
  refine g_1 (fun w => lv_iconst (v := iZ 0) X.1 X.2.1 d_LB_takeSlope_0 rfl w) ?_
  refine g_s (fun kk => lv_istore (lv' := [(4, .int (iZ (0))), (0, .ref x), (1, .long (lZ (sg))), (3, .int (iZ (sb)))]) X.1 X.2.1 d_LB_takeSlope_1 hl (by decide) rfl kk) (fun ls hl => ?_)
  exact loop A.length 0 h ls (by omega) (by rw [upto_0]; exact hx) kp_rf (lv_sub hl [0, 3, 2, 1] rfl)

theorem mk_LB {h h' : gH} {mk : Nat} {e : va_E} (hm : h mk = some ((2, 0), e)) (hk : kp (fun q u => q = mk ∨ u = (15, mk)) h h') : kp P_LB h h' := by
  intro q z hq hn
  refine hk q z hq (fun y => ?_)
  rcases y with y | y
  · subst y
    cases hm.symm.trans hq
    exact hn ⟨Nat.le_of_ble_eq_true rfl, Nat.le_of_ble_eq_true rfl⟩
  · exact hn ⟨by rw [y]; exact Nat.le_of_ble_eq_true rfl, by rw [y]; exact Nat.le_of_ble_eq_true rfl⟩

set_option maxHeartbeats 4000000 in
set_option maxRecDepth 100000 in
theorem c_LB_recordCuts {D : va_G} {s0 : State} {l : Launch} {h : gH} (B0 : gB D s0) {x : Nat} {A Y : List Nat} {bs : Nat → Blk} {ys : Nat → Lay} {pn tb : Int} (hx : isLB D h x A bs Y ys pn tb) (hAl : A.length ≤ 1024) (hYl : Y.length ≤ 64) (hwf : ∀ i, i < A.length → wfB (bs i)) {mk : Nat} {y : Lay} (hm : isLy D h mk y) (hmY : mk ∉ Y) (hy : y.1 = A.length) : gMet D s0 l y_LB_recordCuts b_LB_recordCuts 3 none ({ frames := 3, cells := 0, slots := 0, locals := 64 } : Room) [.ref x, .ref mk] h (fun v h' => none = v ∧ ∃ cf : Nat → Int, (∀ j, j < A.length → cf j = bL (bs j)) ∧ isLB D h' x A bs Y ys pn tb ∧ isLy D h' mk (A.length, cf, tb, y.2.2.2.1, y.2.2.2.2) ∧ kp P_LB h h') := by
  obtain ⟨bl, yl, fX, hA, hY, hbs, hys, hnd, hnd2⟩ := id hx
  obtain ⟨eb, mb, fbl, -⟩ := id hA
  obtain ⟨ey, my, fyl, -⟩ := id hY
  refine g_enter B0 (plainFor_of_name (by decide)) (Nat.le_of_ble_eq_true rfl) (fun p e s m below meth c ls X hnm hl => ?_)
  have hl : lv_has ls 3 [(0, .ref x), (1, .ref mk)] := hl
  have loop : ∀ (d i : Nat) (hh : gH) (cf : Nat → Int) (ls : Array Slot), i + d = A.length → (∀ j, j < i → cf j = bL (bs j)) → isLB D hh x A bs Y ys pn tb → isLy D hh mk (A.length, cf, y.2.2.1, y.2.2.2.1, y.2.2.2.2) → kp P_LB h hh → lv_has ls 3 [(2, .int (iZ (i))), (1, .ref mk), (0, .ref x)] → G D s0 p l e ({ frames := 3, cells := 0, slots := 0, locals := 64 } : Room) s m ([.ref x, .ref mk] : List Value).toArray below meth c hh 0 0 (MQ below (gQ D s0 (fun v h' => none = v ∧ ∃ cf : Nat → Int, (∀ j, j < A.length → cf j = bL (bs j)) ∧ isLB D h' x A bs Y ys pn tb ∧ isLy D h' mk (A.length, cf, tb, y.2.2.2.1, y.2.2.2.2) ∧ kp P_LB h h')) ([.ref x, .ref mk] : List Value).toArray s 0 0 (fun q => s0.heap.size ≤ q)) (F0 m 2 ls []) := by
    intro d
    induction d with
    | zero =>
      intro i hh cf ls hi hcf hx2 hm2 hkk hl
      obtain ⟨bl, yl, fX, hA, hY, hbs, hys, hnd, hnd2⟩ := id hx2
      obtain ⟨eb, mb, fbl, -⟩ := id hA
      obtain ⟨ey, my, fyl, -⟩ := id hY
      obtain ⟨q1, fm, fq⟩ := id hm2
      have hmA := LY_neA (D := D) ⟨fX, hA, hY, hbs, hys, hnd, hnd2⟩ fm
      refine g_1 (fun w => lv_iload_n X.1 X.2.1 d_LB_recordCuts_2 rfl (lv_at hl 0 rfl) w) ?_
      refine g_1 (fun w => lv_aload_n X.1 X.2.1 d_LB_recordCuts_3 rfl (lv_at hl 2 rfl) w) ?_
      refine g_get X (ci := 0) rfl fX 0 (by decide) ⟨rfl, rfl⟩ tw_55 (Or.inl rfl) rfl d_LB_recordCuts_4 ?_
      refine g_callV (na := 0) X (c_AL_size B0 hA) rfl fbl rfl ⟨⟨tw_87, tw_4⟩, ⟨by decide, by decide, by decide +kernel⟩, by decide, by decide⟩ tw_84 tw_85 tw_86 rfl hl.1 (Nat.le_of_ble_eq_true rfl) ⟨by decide, by decide⟩ d_LB_recordCuts_7 (fun v h' hp => ?_)
      obtain ⟨rfl, rfl⟩ := hp
      refine g_widen (k' := 0) (n' := 0) (by decide) (by decide) ?_
      show G D s0 p l e _ s m _ below meth c hh _ _ _ (F0 m 10 ls [.int (iZ (A.length)), .int (iZ (i))])
      refine g_icmp_ge (tgt := 48) X (by first | (split <;> exact ⟨by omega, by omega⟩) | exact ⟨by omega, by omega⟩ | exact cmpZ_ok _ _) (by first | (split <;> exact ⟨by omega, by omega⟩) | exact ⟨by omega, by omega⟩ | exact cmpZ_ok _ _) d_LB_recordCuts_10 (by decide) (fun c10 => ?_) (fun c10 => ?_)
      · refine g_1 (fun w => lv_aload_n X.1 X.2.1 d_LB_recordCuts_48 rfl (lv_at hl 1 rfl) w) ?_
        refine g_1 (fun w => lv_aload_n X.1 X.2.1 d_LB_recordCuts_49 rfl (lv_at hl 2 rfl) w) ?_
        refine g_get X (ci := 0) rfl fX 3 (by decide) ⟨rfl, rfl⟩ tw_58 (Or.inl rfl) rfl d_LB_recordCuts_50 ?_
        refine g_putN X (ci := 2) rfl fm (Nat.succ_ne_zero _) 1 (by decide) ⟨rfl, rfl⟩ tw_398 rfl rfl rfl (Nat.le_of_ble_eq_true rfl) d_LB_recordCuts_53 ?_
        obtain ⟨h_1, eh_1⟩ : ∃ z, z = g_up hh mk ((2, 0), .inr (2, [.ref q1, .int (iZ (tb)), .long (lZ (y.2.2.2.1)), .int (iZ (y.2.2.2.2))])) := ⟨_, rfl⟩
        refine g_h (h' := h_1) eh_1.symm ?_
        have f_2 : h_1 x = some ((3, 0), .inr (0, [.ref bl, .ref yl, .int (iZ (pn)), .int (iZ (tb))])) := by rw [eh_1]; exact g_uk fX fm (show (3 : Nat) ≠ 2 by decide)
        have f_3 : h_1 bl = some ((5, 0), .inr (3, [.ref eb, .int (iZ (A.length)), .int (iZ (mb))])) := by rw [eh_1]; exact g_uk fbl fm (show (5 : Nat) ≠ 2 by decide)
        have f_4 : h_1 yl = some ((5, 1), .inr (3, [.ref ey, .int (iZ (Y.length)), .int (iZ (my))])) := by rw [eh_1]; exact g_uk fyl fm (show (5 : Nat) ≠ 2 by decide)
        have f_5 : h_1 mk = some ((2, 0), .inr (2, [.ref q1, .int (iZ (tb)), .long (lZ (y.2.2.2.1)), .int (iZ (y.2.2.2.2))])) := by rw [eh_1]; exact g_us
        have f_6 : h_1 q1 = some ((15, mk), gI D A.length (cf)) := by rw [eh_1]; exact g_uk fq fm (show (15 : Nat) ≠ 2 by decide)
        have hk_7 := kp_up (kp_rf (P := (fun q u => q = mk ∨ u = (15, mk))) (h := hh)) eh_1 fm (Or.inl rfl)
        have hx3 : LBb D h_1 x bl yl A bs Y ys pn tb := LBb_out ⟨fX, hA, hY, hbs, hys, hnd, hnd2⟩ fm hmA hmY (Or.inr rfl) hk_7
        have hkC : kp P_LB h h_1 := kp_tr hkk (mk_LB fm hk_7)
        exact g_vret X (⟨rfl, cf, fun j hj => hcf j (by omega), ⟨bl, yl, hx3⟩, ⟨q1, f_5, f_6⟩, hkC⟩) (by decide) (by decide) d_LB_recordCuts_56
      · exfalso
        omega
    | succ d ih =>
      intro i hh cf ls hi hcf hx2 hm2 hkk hl
      obtain ⟨bl, yl, fX, hA, hY, hbs, hys, hnd, hnd2⟩ := id hx2
      obtain ⟨eb, mb, fbl, -⟩ := id hA
      obtain ⟨ey, my, fyl, -⟩ := id hY
      obtain ⟨q1, fm, fq⟩ := id hm2
      have hmA := LY_neA (D := D) ⟨fX, hA, hY, hbs, hys, hnd, hnd2⟩ fm
      have hk1 := hbs i (by omega)
      have hw1 := hwf i (by omega)
      have ht := hw1.1.2.2.1
      have hs := hw1.1.2.1
      have hp0 := hw1.1.1
      obtain ⟨p1, p2, p3, fb, -⟩ := id hk1
      refine g_1 (fun w => lv_iload_n X.1 X.2.1 d_LB_recordCuts_2 rfl (lv_at hl 0 rfl) w) ?_
      refine g_1 (fun w => lv_aload_n X.1 X.2.1 d_LB_recordCuts_3 rfl (lv_at hl 2 rfl) w) ?_
      refine g_get X (ci := 0) rfl fX 0 (by decide) ⟨rfl, rfl⟩ tw_55 (Or.inl rfl) rfl d_LB_recordCuts_4 ?_
      refine g_callV (na := 0) X (c_AL_size B0 hA) rfl fbl rfl ⟨⟨tw_87, tw_4⟩, ⟨by decide, by decide, by decide +kernel⟩, by decide, by decide⟩ tw_84 tw_85 tw_86 rfl hl.1 (Nat.le_of_ble_eq_true rfl) ⟨by decide, by decide⟩ d_LB_recordCuts_7 (fun v h' hp => ?_)
      obtain ⟨rfl, rfl⟩ := hp
      refine g_widen (k' := 0) (n' := 0) (by decide) (by decide) ?_
      show G D s0 p l e _ s m _ below meth c hh _ _ _ (F0 m 10 ls [.int (iZ (A.length)), .int (iZ (i))])
      refine g_icmp_ge (tgt := 48) X (by first | (split <;> exact ⟨by omega, by omega⟩) | exact ⟨by omega, by omega⟩ | exact cmpZ_ok _ _) (by first | (split <;> exact ⟨by omega, by omega⟩) | exact ⟨by omega, by omega⟩ | exact cmpZ_ok _ _) d_LB_recordCuts_10 (by decide) (fun c10 => ?_) (fun c10 => ?_)
      · exfalso
        omega
      · refine g_1 (fun w => lv_iload_n X.1 X.2.1 d_LB_recordCuts_13 rfl (lv_at hl 0 rfl) w) ?_
        refine g_1 (fun w => lv_aload_n X.1 X.2.1 d_LB_recordCuts_14 rfl (lv_at hl 1 rfl) w) ?_
        refine g_getN X (ci := 2) rfl fm 0 (by decide) ⟨rfl, rfl⟩ tw_397 rfl d_LB_recordCuts_15 ?_
        refine g_aleni X fq d_LB_recordCuts_18 ?_
        refine g_icmp_ge (tgt := 48) X (by first | (split <;> exact ⟨by omega, by omega⟩) | exact ⟨by omega, by omega⟩ | exact cmpZ_ok _ _) (by first | (split <;> exact ⟨by omega, by omega⟩) | exact ⟨by omega, by omega⟩ | exact cmpZ_ok _ _) d_LB_recordCuts_19 (by decide) (fun c19 => ?_) (fun c19 => ?_)
        · exfalso
          omega
        · refine g_1 (fun w => lv_aload_n X.1 X.2.1 d_LB_recordCuts_22 rfl (lv_at hl 1 rfl) w) ?_
          refine g_getN X (ci := 2) rfl fm 0 (by decide) ⟨rfl, rfl⟩ tw_397 rfl d_LB_recordCuts_23 ?_
          refine g_1 (fun w => lv_iload_n X.1 X.2.1 d_LB_recordCuts_26 rfl (lv_at hl 0 rfl) w) ?_
          refine g_1 (fun w => lv_aload_n X.1 X.2.1 d_LB_recordCuts_27 rfl (lv_at hl 2 rfl) w) ?_
          refine g_get X (ci := 0) rfl fX 0 (by decide) ⟨rfl, rfl⟩ tw_55 (Or.inl rfl) rfl d_LB_recordCuts_28 ?_
          refine g_1 (fun w => lv_iload_n X.1 X.2.1 d_LB_recordCuts_31 rfl (lv_at hl 0 rfl) w) ?_
          refine g_callV (na := 1) X (c_AL_get B0 hA i (by omega)) rfl fbl rfl ⟨⟨tw_91, tw_4⟩, ⟨by decide, by decide, by decide +kernel⟩, by decide, by decide⟩ tw_88 tw_89 tw_90 rfl hl.1 (Nat.le_of_ble_eq_true rfl) ⟨by decide, by decide⟩ d_LB_recordCuts_32 (fun v h' hp => ?_)
          obtain ⟨rfl, rfl⟩ := hp
          refine g_widen (k' := 0) (n' := 0) (by decide) (by decide) ?_
          show G D s0 p l e _ s m _ below meth c hh _ _ _ (F0 m 35 ls [.ref (A.getD i 0), .int (iZ (i)), .ref q1])
          refine g_cast X fb rfl tw_102 tw_652 d_LB_recordCuts_35 ?_
          refine g_getN X (ci := 1) rfl fb 6 (by decide) ⟨rfl, rfl⟩ tw_201 rfl d_LB_recordCuts_38 ?_
          refine g_ist X fq (Nat.succ_ne_zero _) (i) (rfl) (by omega) (by omega) d_LB_recordCuts_41 ?_
          obtain ⟨h_1, eh_1⟩ : ∃ z, z = g_up hh q1 ((15, mk), gI D A.length (va_up (cf) (i) (bL (bs i)))) := ⟨_, rfl⟩
          refine g_h (h' := h_1) eh_1.symm ?_
          have f_2 : h_1 x = some ((3, 0), .inr (0, [.ref bl, .ref yl, .int (iZ (pn)), .int (iZ (tb))])) := by rw [eh_1]; exact g_uk fX fq (show (3 : Nat) ≠ 15 by decide)
          have f_3 : h_1 bl = some ((5, 0), .inr (3, [.ref eb, .int (iZ (A.length)), .int (iZ (mb))])) := by rw [eh_1]; exact g_uk fbl fq (show (5 : Nat) ≠ 15 by decide)
          have f_4 : h_1 yl = some ((5, 1), .inr (3, [.ref ey, .int (iZ (Y.length)), .int (iZ (my))])) := by rw [eh_1]; exact g_uk fyl fq (show (5 : Nat) ≠ 15 by decide)
          have f_5 : h_1 (A.getD i 0) = some ((1, 0), .inr (1, [.ref p1, .ref p2, .ref p3, .int (iZ (bP (bs i))), .int (iZ (bS (bs i))), .int (iZ (bT (bs i))), .int (iZ (bL (bs i)))])) := by rw [eh_1]; exact g_uk fb fq (show (1 : Nat) ≠ 15 by decide)
          have f_6 : h_1 mk = some ((2, 0), .inr (2, [.ref q1, .int (iZ (y.2.2.1)), .long (lZ (y.2.2.2.1)), .int (iZ (y.2.2.2.2))])) := by rw [eh_1]; exact g_uk fm fq (show (2 : Nat) ≠ 15 by decide)
          have f_7 : h_1 q1 = some ((15, mk), gI D A.length (va_up (cf) (i) (bL (bs i)))) := by rw [eh_1]; exact g_us
          have hk_8 := kp_up (kp_rf (P := (fun q u => q = mk ∨ u = (15, mk))) (h := hh)) eh_1 fq (Or.inr rfl)
          refine g_s (fun kk => lv_iinc (v := iZ (i + 1)) (lv' := [(2, .int (iZ (i + 1))), (1, .ref mk), (0, .ref x)]) X.1 X.2.1 d_LB_recordCuts_42 hl (k := 0) rfl (iZ_add _ _) (by decide) rfl kk) (fun ls hl => ?_)
          refine g_goto (tgt := 2) X d_LB_recordCuts_45 (by decide) ?_
          have hx3 : LBb D h_1 x bl yl A bs Y ys pn tb := LBb_out ⟨fX, hA, hY, hbs, hys, hnd, hnd2⟩ fm hmA hmY (Or.inr rfl) hk_8
          exact ih (i + 1) h_1 (va_up cf i (bL (bs i))) ls (by omega) (fun j hj => by
            by_cases e : j = i
            · rw [e, va_up_self]
            · rw [va_up_ne _ _ e]; exact hcf j (by omega)) ⟨bl, yl, hx3⟩ ⟨q1, f_6, f_7⟩ (kp_tr hkk (mk_LB fm hk_8)) (lv_sub hl [0, 1, 2] rfl)
  refine g_1 (fun w => lv_iconst (v := iZ 0) X.1 X.2.1 d_LB_recordCuts_0 rfl w) ?_
  refine g_s (fun kk => lv_istore_n (lv' := [(2, .int (iZ (0))), (0, .ref x), (1, .ref mk)]) X.1 X.2.1 d_LB_recordCuts_1 rfl hl (by decide) rfl kk) (fun ls hl => ?_)
  exact loop A.length 0 h y.2.1 ls (by omega) (fun j hj => absurd hj (Nat.not_lt_zero _)) hx (by rw [← hy]; exact hm) kp_rf (lv_sub hl [0, 2, 1] rfl)
end
section
set_option maxHeartbeats 4000000 in
set_option maxRecDepth 100000 in
theorem c_LB_takeSteepestSteps {D : va_G} {s0 : State} {l : Launch} {h : gH} (B0 : gB D s0) {x : Nat} {A Y : List Nat} {bs : Nat → Blk} {ys : Nat → Lay} {pn tb : Int} (hx : isLB D h x A bs Y ys pn tb) (hAl : A.length ≤ 1024) (hYl : Y.length ≤ 64) (hwf : ∀ i, i < A.length → wfB (bs i)) {mk : Nat} {y : Lay} (hm : isLy D h mk y) (hmY : mk ∉ Y) {N : Nat} (hpn : pn = N) (hNl : N ≤ 16384) (htb : tb = totB bs A.length) {bud : Int} (hbu : i_ok bud) {QQ : Tkg} (hQQ : QQ = tss A.length bud N (bs, tb, y.2.2.2.1, y.2.2.2.2)) : gMet D s0 l y_LB_takeSteepestSteps b_LB_takeSteepestSteps 9 none ({ frames := 4, cells := 0, slots := 0, locals := 97 } : Room) [.ref x, .int (iZ (bud)), .ref mk] h (fun v h' => none = v ∧ isLB D h' x A (QQ).1 Y ys pn (QQ).2.1 ∧ isLy D h' mk (y.1, y.2.1, y.2.2.1, (QQ).2.2.1, (QQ).2.2.2) ∧ kp P_LB h h') := by
  obtain ⟨bl, yl, fX, hA, hY, hbs, hys, hnd, hnd2⟩ := id hx
  obtain ⟨eb, mb, fbl, -⟩ := id hA
  obtain ⟨ey, my, fyl, -⟩ := id hY
  obtain ⟨hbu1, hbu2⟩ := id hbu
  subst hpn
  refine g_enter B0 (plainFor_of_name (by decide)) (Nat.le_of_ble_eq_true rfl) (fun p e s m below meth c ls X hnm hl => ?_)
  have hl : lv_has ls 9 [(0, .ref x), (1, .int (iZ (bud))), (2, .ref mk)] := hl
  have loop : ∀ (d r : Nat) (hh : gH) (q : Tkg) (ls : Array Slot), r + d = N → (∀ i, i < A.length → wfB (q.1 i)) → q.2.1 = totB q.1 A.length → isLB D hh x A q.1 Y ys (N : Int) q.2.1 → isLy D hh mk (y.1, y.2.1, y.2.2.1, q.2.2.1, q.2.2.2) → kp P_LB h hh → tss A.length bud d q = QQ → lv_has ls 9 [(3, .int (iZ (r))), (2, .ref mk), (1, .int (iZ (bud))), (0, .ref x)] → G D s0 p l e ({ frames := 4, cells := 0, slots := 0, locals := 97 } : Room) s m ([.ref x, .int (iZ (bud)), .ref mk] : List Value).toArray below meth c hh 0 0 (MQ below (gQ D s0 (fun v h' => none = v ∧ isLB D h' x A (QQ).1 Y ys (N : Int) (QQ).2.1 ∧ isLy D h' mk (y.1, y.2.1, y.2.2.1, (QQ).2.2.1, (QQ).2.2.2) ∧ kp P_LB h h')) ([.ref x, .int (iZ (bud)), .ref mk] : List Value).toArray s 0 0 (fun q => s0.heap.size ≤ q)) (F0 m 2 ls []) := by
    intro d
    induction d with
    | zero =>
      intro r hh q ls hi hwq htq hx2 hm2 hkk hQ hl
      obtain ⟨bl, yl, fX, hA, hY, hbs, hys, hnd, hnd2⟩ := id hx2
      obtain ⟨eb, mb, fbl, -⟩ := id hA
      obtain ⟨ey, my, fyl, -⟩ := id hY
      obtain ⟨q1, fm, fq⟩ := id hm2
      have hQ : q = QQ := hQ
      refine g_1 (fun w => lv_iload_n X.1 X.2.1 d_LB_takeSteepestSteps_2 rfl (lv_at hl 0 rfl) w) ?_
      refine g_1 (fun w => lv_aload_n X.1 X.2.1 d_LB_takeSteepestSteps_3 rfl (lv_at hl 3 rfl) w) ?_
      refine g_get X (ci := 0) rfl fX 2 (by decide) ⟨rfl, rfl⟩ tw_57 (Or.inl rfl) rfl d_LB_takeSteepestSteps_4 ?_
      refine g_icmp_ge (tgt := 116) X (by first | (split <;> exact ⟨by omega, by omega⟩) | exact ⟨by omega, by omega⟩ | exact cmpZ_ok _ _) (by first | (split <;> exact ⟨by omega, by omega⟩) | exact ⟨by omega, by omega⟩ | exact cmpZ_ok _ _) d_LB_takeSteepestSteps_7 (by decide) (fun c7 => ?_) (fun c7 => ?_)
      · exact g_vret X (⟨rfl, by rw [← hQ]; exact hx2, by rw [← hQ]; exact hm2, hkk⟩) (by decide) (by decide) d_LB_takeSteepestSteps_116
      · exfalso
        omega
    | succ d ih =>
      intro r hh q ls hi hwq htq hx2 hm2 hkk hQ hl
      obtain ⟨bl, yl, fX, hA, hY, hbs, hys, hnd, hnd2⟩ := id hx2
      obtain ⟨eb, mb, fbl, -⟩ := id hA
      obtain ⟨ey, my, fyl, -⟩ := id hY
      obtain ⟨q1, fm, fq⟩ := id hm2
      have hsl0 := stp_le q.1 A.length
      refine g_1 (fun w => lv_iload_n X.1 X.2.1 d_LB_takeSteepestSteps_2 rfl (lv_at hl 0 rfl) w) ?_
      refine g_1 (fun w => lv_aload_n X.1 X.2.1 d_LB_takeSteepestSteps_3 rfl (lv_at hl 3 rfl) w) ?_
      refine g_get X (ci := 0) rfl fX 2 (by decide) ⟨rfl, rfl⟩ tw_57 (Or.inl rfl) rfl d_LB_takeSteepestSteps_4 ?_
      refine g_icmp_ge (tgt := 116) X (by first | (split <;> exact ⟨by omega, by omega⟩) | exact ⟨by omega, by omega⟩ | exact cmpZ_ok _ _) (by first | (split <;> exact ⟨by omega, by omega⟩) | exact ⟨by omega, by omega⟩ | exact cmpZ_ok _ _) d_LB_takeSteepestSteps_7 (by decide) (fun c7 => ?_) (fun c7 => ?_)
      · exfalso
        omega
      · refine g_1 (fun w => lv_aload_n X.1 X.2.1 d_LB_takeSteepestSteps_10 rfl (lv_at hl 3 rfl) w) ?_
        refine g_callV (na := 0) X (c_LB_steepestBlock B0 hx2 hAl hYl hwq) rfl fX rfl ⟨⟨tw_431, tw_1⟩, ⟨by decide, by decide, by decide +kernel⟩, by decide, by decide⟩ tw_428 tw_430 ts_LB_steepestBlock rfl hl.1 (Nat.le_of_ble_eq_true rfl) ⟨by decide, by decide⟩ d_LB_takeSteepestSteps_11 (fun v h' hp => ?_)
        obtain ⟨rfl, rfl⟩ := hp
        refine g_widen (k' := 0) (n' := 0) (by decide) (by decide) ?_
        show G D s0 p l e _ s m _ below meth c hh _ _ _ (F0 m 14 ls [.int (iZ ((stp q.1 A.length : Int) - 1))])
        refine g_s (fun kk => lv_istore (lv' := [(4, .int (iZ ((stp q.1 A.length : Int) - 1))), (3, .int (iZ (r))), (2, .ref mk), (1, .int (iZ (bud))), (0, .ref x)]) X.1 X.2.1 d_LB_takeSteepestSteps_14 hl (by decide) rfl kk) (fun ls hl => ?_)
        refine g_1 (fun w => lv_iload X.1 X.2.1 d_LB_takeSteepestSteps_16 (lv_at hl 0 rfl) w) ?_
        refine g_1 (fun w => lv_iconst (v := iZ (-1)) X.1 X.2.1 d_LB_takeSteepestSteps_18 rfl w) ?_
        refine g_icmp_ne (tgt := 23) X (by first | (split <;> exact ⟨by omega, by omega⟩) | exact ⟨by omega, by omega⟩ | exact cmpZ_ok _ _) (by first | (split <;> exact ⟨by omega, by omega⟩) | exact ⟨by omega, by omega⟩ | exact cmpZ_ok _ _) d_LB_takeSteepestSteps_19 (by decide) (fun c19 => ?_) (fun c19 => ?_)
        · obtain ⟨si, hsi⟩ : ∃ si, stp q.1 A.length = si + 1 := ⟨stp q.1 A.length - 1, by omega⟩
          have hsl : si < A.length := by omega
          have hl : lv_has ls 9 [(4, .int (iZ (si))), (3, .int (iZ (r))), (2, .ref mk), (1, .int (iZ (bud))), (0, .ref x)] := by rw [show ((si : Nat) : Int) = (stp q.1 A.length : Int) - 1 by omega]; exact hl
          have hk1 := hbs si hsl
          have hw1 := hwq si hsl
          have ht := hw1.1.2.2.1
          have hs := hw1.1.2.1
          have hp0 := hw1.1.1
          obtain ⟨p1, p2, p3, fb, -⟩ := id hk1
          have hhn : hN (q.1 si) := by have z := stp_has q.1 A.length (by omega); rw [hsi] at z; exact z
          have wb := nB_bd hw1
          have w0 := wb.1 hhn
          have hcb := cst_bd (sg := nG (q.1 si)) (sb := nB (q.1 si)) hwq
          have htt := totB_bd hwq
          refine g_1 (fun w => lv_aload_n X.1 X.2.1 d_LB_takeSteepestSteps_23 rfl (lv_at hl 4 rfl) w) ?_
          refine g_get X (ci := 0) rfl fX 0 (by decide) ⟨rfl, rfl⟩ tw_55 (Or.inl rfl) rfl d_LB_takeSteepestSteps_24 ?_
          refine g_1 (fun w => lv_iload X.1 X.2.1 d_LB_takeSteepestSteps_27 (lv_at hl 0 rfl) w) ?_
          refine g_callV (na := 1) X (c_AL_get B0 hA si (by omega)) rfl fbl rfl ⟨⟨tw_91, tw_4⟩, ⟨by decide, by decide, by decide +kernel⟩, by decide, by decide⟩ tw_88 tw_89 tw_90 rfl hl.1 (Nat.le_of_ble_eq_true rfl) ⟨by decide, by decide⟩ d_LB_takeSteepestSteps_29 (fun v h' hp => ?_)
          obtain ⟨rfl, rfl⟩ := hp
          refine g_widen (k' := 0) (n' := 0) (by decide) (by decide) ?_
          show G D s0 p l e _ s m _ below meth c hh _ _ _ (F0 m 32 ls [.ref (A.getD si 0)])
          refine g_cast X fb rfl tw_102 tw_652 d_LB_takeSteepestSteps_32 ?_
          refine g_callVN (na := 0) X (c_BK_nextGain B0 hk1 hw1.1 (by omega)) rfl fb rfl ⟨⟨tw_439, tw_12⟩, ⟨by decide, by decide, by decide +kernel⟩, by decide, by decide⟩ tw_436 tw_438 ts_BK_nextGain rfl hl.1 (Nat.le_of_ble_eq_true rfl) ⟨by decide, by decide⟩ d_LB_takeSteepestSteps_35 (fun v h' hp => ?_)
          obtain ⟨rfl, rfl⟩ := hp
          refine g_widen (k' := 0) (n' := 0) (by decide) (by decide) ?_
          show G D s0 p l e _ s m _ below meth c hh _ _ _ (F0 m 38 ls [.long (lZ (nG (q.1 si)))])
          refine g_s (fun kk => lv_lstore (lv' := [(5, .long (lZ (nG (q.1 si)))), (4, .int (iZ (si))), (3, .int (iZ (r))), (2, .ref mk), (1, .int (iZ (bud))), (0, .ref x)]) X.1 X.2.1 d_LB_takeSteepestSteps_38 hl (by decide) rfl kk) (fun ls hl => ?_)
          refine g_1 (fun w => lv_aload_n X.1 X.2.1 d_LB_takeSteepestSteps_40 rfl (lv_at hl 5 rfl) w) ?_
          refine g_get X (ci := 0) rfl fX 0 (by decide) ⟨rfl, rfl⟩ tw_55 (Or.inl rfl) rfl d_LB_takeSteepestSteps_41 ?_
          refine g_1 (fun w => lv_iload X.1 X.2.1 d_LB_takeSteepestSteps_44 (lv_at hl 1 rfl) w) ?_
          refine g_callV (na := 1) X (c_AL_get B0 hA si (by omega)) rfl fbl rfl ⟨⟨tw_91, tw_4⟩, ⟨by decide, by decide, by decide +kernel⟩, by decide, by decide⟩ tw_88 tw_89 tw_90 rfl hl.1 (Nat.le_of_ble_eq_true rfl) ⟨by decide, by decide⟩ d_LB_takeSteepestSteps_46 (fun v h' hp => ?_)
          obtain ⟨rfl, rfl⟩ := hp
          refine g_widen (k' := 0) (n' := 0) (by decide) (by decide) ?_
          show G D s0 p l e _ s m _ below meth c hh _ _ _ (F0 m 49 ls [.ref (A.getD si 0)])
          refine g_cast X fb rfl tw_102 tw_652 d_LB_takeSteepestSteps_49 ?_
          refine g_callVN (na := 0) X (c_BK_nextBytes B0 hk1 hw1.1 (by omega)) rfl fb rfl ⟨⟨tw_443, tw_12⟩, ⟨by decide, by decide, by decide +kernel⟩, by decide, by decide⟩ tw_440 tw_442 ts_BK_nextBytes rfl hl.1 (Nat.le_of_ble_eq_true rfl) ⟨by decide, by decide⟩ d_LB_takeSteepestSteps_52 (fun v h' hp => ?_)
          obtain ⟨rfl, rfl⟩ := hp
          refine g_widen (k' := 0) (n' := 0) (by decide) (by decide) ?_
          show G D s0 p l e _ s m _ below meth c hh _ _ _ (F0 m 55 ls [.int (iZ (nB (q.1 si)))])
          refine g_s (fun kk => lv_istore (lv' := [(7, .int (iZ (nB (q.1 si)))), (5, .long (lZ (nG (q.1 si)))), (4, .int (iZ (si))), (3, .int (iZ (r))), (2, .ref mk), (1, .int (iZ (bud))), (0, .ref x)]) X.1 X.2.1 d_LB_takeSteepestSteps_55 hl (by decide) rfl kk) (fun ls hl => ?_)
          refine g_1 (fun w => lv_aload_n X.1 X.2.1 d_LB_takeSteepestSteps_57 rfl (lv_at hl 6 rfl) w) ?_
          refine g_1 (fun w => lv_lload X.1 X.2.1 d_LB_takeSteepestSteps_58 (lv_at hl 1 rfl) w) ?_
          refine g_1 (fun w => lv_iload X.1 X.2.1 d_LB_takeSteepestSteps_60 (lv_at hl 0 rfl) w) ?_
          refine g_callV (na := 2) X (c_LB_bytesOfSlope B0 hx2 hAl hYl hwq wb.2.2.1 wb.2.2.2 w0 wb.2.1) rfl fX rfl ⟨⟨tw_448, tw_1⟩, ⟨by decide, by decide, by decide +kernel⟩, by decide, by decide⟩ tw_445 tw_447 ts_LB_bytesOfSlope rfl hl.1 (Nat.le_of_ble_eq_true rfl) ⟨by decide, by decide⟩ d_LB_takeSteepestSteps_62 (fun v h' hp => ?_)
          obtain ⟨rfl, rfl⟩ := hp
          refine g_widen (k' := 0) (n' := 0) (by decide) (by decide) ?_
          show G D s0 p l e _ s m _ below meth c hh _ _ _ (F0 m 65 ls [.int (iZ (cst q.1 (nG (q.1 si)) (nB (q.1 si)) A.length))])
          refine g_s (fun kk => lv_istore (lv' := [(8, .int (iZ (cst q.1 (nG (q.1 si)) (nB (q.1 si)) A.length))), (7, .int (iZ (nB (q.1 si)))), (5, .long (lZ (nG (q.1 si)))), (4, .int (iZ (si))), (3, .int (iZ (r))), (2, .ref mk), (1, .int (iZ (bud))), (0, .ref x)]) X.1 X.2.1 d_LB_takeSteepestSteps_65 hl (by decide) rfl kk) (fun ls hl => ?_)
          refine g_1 (fun w => lv_aload_n X.1 X.2.1 d_LB_takeSteepestSteps_67 rfl (lv_at hl 7 rfl) w) ?_
          refine g_get X (ci := 0) rfl fX 3 (by decide) ⟨rfl, rfl⟩ tw_58 (Or.inl rfl) rfl d_LB_takeSteepestSteps_68 ?_
          refine g_1 (fun w => lv_iload X.1 X.2.1 d_LB_takeSteepestSteps_71 (lv_at hl 0 rfl) w) ?_
          refine g_iadd X d_LB_takeSteepestSteps_73 ?_
          refine g_1 (fun w => lv_iload_n X.1 X.2.1 d_LB_takeSteepestSteps_74 rfl (lv_at hl 6 rfl) w) ?_
          refine g_icmp_le (tgt := 79) X (by first | (split <;> exact ⟨by omega, by omega⟩) | exact ⟨by omega, by omega⟩ | exact cmpZ_ok _ _) (by first | (split <;> exact ⟨by omega, by omega⟩) | exact ⟨by omega, by omega⟩ | exact cmpZ_ok _ _) d_LB_takeSteepestSteps_75 (by decide) (fun c75 => ?_) (fun c75 => ?_)
          · refine g_1 (fun w => lv_aload_n X.1 X.2.1 d_LB_takeSteepestSteps_79 rfl (lv_at hl 7 rfl) w) ?_
            refine g_1 (fun w => lv_lload X.1 X.2.1 d_LB_takeSteepestSteps_80 (lv_at hl 2 rfl) w) ?_
            refine g_1 (fun w => lv_iload X.1 X.2.1 d_LB_takeSteepestSteps_82 (lv_at hl 1 rfl) w) ?_
            refine g_callV (na := 2) X (c_LB_takeSlope B0 hx2 hAl hYl hwq wb.2.2.1 wb.2.2.2 w0 wb.2.1) rfl fX rfl ⟨⟨tw_459, tw_1⟩, ⟨by decide, by decide, by decide +kernel⟩, by decide, by decide⟩ tw_456 tw_458 ts_LB_takeSlope rfl hl.1 (Nat.le_of_ble_eq_true rfl) ⟨by decide, by decide⟩ d_LB_takeSteepestSteps_84 (fun v h' hp => ?_)
            obtain ⟨rfl, hx3, hk2⟩ := hp
            have hk3 : kp P_LB h h' := kp_tr hkk (XB_LB (BB_XB hk2))
            have hm3 : isLy D h' mk (y.1, y.2.1, y.2.2.1, q.2.2.1, q.2.2.2) := hm2.kp hk2 (fun z => by rcases z with z | z; exact absurd z (show ¬ (2 : Nat) = 1 by decide); exact absurd z.1 (show ¬ (11 : Nat) ≤ 2 by decide)) (fun _ z => by rcases z with z | z; exact absurd z (show ¬ (15 : Nat) = 1 by decide); exact absurd z.2 (show ¬ (15 : Nat) ≤ 13 by decide))
            obtain ⟨bl, yl, fX, hA, hY, hbs, hys, hnd, hnd2⟩ := id hx3
            obtain ⟨eb, mb, fbl, -⟩ := id hA
            obtain ⟨ey, my, fyl, -⟩ := id hY
            obtain ⟨q1, fm, fq⟩ := id hm3
            refine g_widen (k' := 0) (n' := 0) (by decide) (by decide) ?_
            show G D s0 p l e _ s m _ below meth c h' _ _ _ (F0 m 87 ls [])
            refine g_1 (fun w => lv_aload_n X.1 X.2.1 d_LB_takeSteepestSteps_87 rfl (lv_at hl 7 rfl) w) ?_
            refine g_1 (fun w => lv_dup X.1 X.2.1 d_LB_takeSteepestSteps_88 rfl w) ?_
            refine g_get X (ci := 0) rfl fX 3 (by decide) ⟨rfl, rfl⟩ tw_58 (Or.inl rfl) rfl d_LB_takeSteepestSteps_89 ?_
            refine g_1 (fun w => lv_iload X.1 X.2.1 d_LB_takeSteepestSteps_92 (lv_at hl 0 rfl) w) ?_
            refine g_iadd X d_LB_takeSteepestSteps_94 ?_
            refine g_put X (ci := 0) rfl fX (Nat.succ_ne_zero _) 3 (by decide) ⟨rfl, rfl⟩ tw_58 (Or.inl rfl) rfl rfl rfl (Nat.le_of_ble_eq_true rfl) d_LB_takeSteepestSteps_95 ?_
            obtain ⟨h_1, eh_1⟩ : ∃ z, z = g_up h' x ((3, 0), .inr (0, [.ref bl, .ref yl, .int (iZ ((N : Int))), .int (iZ (q.2.1 + (cst q.1 (nG (q.1 si)) (nB (q.1 si)) A.length)))])) := ⟨_, rfl⟩
            refine g_h (h' := h_1) eh_1.symm ?_
            have f_2 : h_1 x = some ((3, 0), .inr (0, [.ref bl, .ref yl, .int (iZ ((N : Int))), .int (iZ (q.2.1 + (cst q.1 (nG (q.1 si)) (nB (q.1 si)) A.length)))])) := by rw [eh_1]; exact g_us
            have f_3 : h_1 bl = some ((5, 0), .inr (3, [.ref eb, .int (iZ (A.length)), .int (iZ (mb))])) := by rw [eh_1]; exact g_uk fbl fX (show (5 : Nat) ≠ 3 by decide)
            have f_4 : h_1 yl = some ((5, 1), .inr (3, [.ref ey, .int (iZ (Y.length)), .int (iZ (my))])) := by rw [eh_1]; exact g_uk fyl fX (show (5 : Nat) ≠ 3 by decide)
            have f_5 : h_1 mk = some ((2, 0), .inr (2, [.ref q1, .int (iZ (y.2.2.1)), .long (lZ (q.2.2.1)), .int (iZ (q.2.2.2))])) := by rw [eh_1]; exact g_uk fm fX (show (2 : Nat) ≠ 3 by decide)
            have f_6 : h_1 q1 = some ((15, mk), gI D y.1 (y.2.1)) := by rw [eh_1]; exact g_uk fq fX (show (15 : Nat) ≠ 3 by decide)
            have hk_7 := kp_up (hk3) eh_1 fX (⟨Nat.le_of_ble_eq_true rfl, Nat.le_of_ble_eq_true rfl⟩)
            have hx4 := hx3.setX fX eh_1
            have hkx := hk_7
            refine g_1 (fun w => lv_aload_n X.1 X.2.1 d_LB_takeSteepestSteps_98 rfl (lv_at hl 5 rfl) w) ?_
            refine g_1 (fun w => lv_lload X.1 X.2.1 d_LB_takeSteepestSteps_99 (lv_at hl 2 rfl) w) ?_
            refine g_putN X (ci := 2) rfl f_5 (Nat.succ_ne_zero _) 2 (by decide) ⟨rfl, rfl⟩ tw_400 rfl rfl rfl (Nat.le_of_ble_eq_true rfl) d_LB_takeSteepestSteps_101 ?_
            obtain ⟨h_8, eh_8⟩ : ∃ z, z = g_up h_1 mk ((2, 0), .inr (2, [.ref q1, .int (iZ (y.2.2.1)), .long (lZ (nG (q.1 si))), .int (iZ (q.2.2.2))])) := ⟨_, rfl⟩
            refine g_h (h' := h_8) eh_8.symm ?_
            have f_9 : h_8 x = some ((3, 0), .inr (0, [.ref bl, .ref yl, .int (iZ ((N : Int))), .int (iZ (q.2.1 + (cst q.1 (nG (q.1 si)) (nB (q.1 si)) A.length)))])) := by rw [eh_8]; exact g_uk f_2 f_5 (show (3 : Nat) ≠ 2 by decide)
            have f_10 : h_8 bl = some ((5, 0), .inr (3, [.ref eb, .int (iZ (A.length)), .int (iZ (mb))])) := by rw [eh_8]; exact g_uk f_3 f_5 (show (5 : Nat) ≠ 2 by decide)
            have f_11 : h_8 yl = some ((5, 1), .inr (3, [.ref ey, .int (iZ (Y.length)), .int (iZ (my))])) := by rw [eh_8]; exact g_uk f_4 f_5 (show (5 : Nat) ≠ 2 by decide)
            have f_12 : h_8 mk = some ((2, 0), .inr (2, [.ref q1, .int (iZ (y.2.2.1)), .long (lZ (nG (q.1 si))), .int (iZ (q.2.2.2))])) := by rw [eh_8]; exact g_us
            have f_13 : h_8 q1 = some ((15, mk), gI D y.1 (y.2.1)) := by rw [eh_8]; exact g_uk f_6 f_5 (show (15 : Nat) ≠ 2 by decide)
            have hk_14 := kp_up (hk_7) eh_8 f_5 (⟨Nat.le_of_ble_eq_true rfl, Nat.le_of_ble_eq_true rfl⟩)
            refine g_1 (fun w => lv_aload_n X.1 X.2.1 d_LB_takeSteepestSteps_104 rfl (lv_at hl 5 rfl) w) ?_
            refine g_1 (fun w => lv_iload X.1 X.2.1 d_LB_takeSteepestSteps_105 (lv_at hl 1 rfl) w) ?_
            refine g_putN X (ci := 2) rfl f_12 (Nat.succ_ne_zero _) 3 (by decide) ⟨rfl, rfl⟩ tw_402 rfl rfl rfl (Nat.le_of_ble_eq_true rfl) d_LB_takeSteepestSteps_107 ?_
            obtain ⟨h_15, eh_15⟩ : ∃ z, z = g_up h_8 mk ((2, 0), .inr (2, [.ref q1, .int (iZ (y.2.2.1)), .long (lZ (nG (q.1 si))), .int (iZ (nB (q.1 si)))])) := ⟨_, rfl⟩
            refine g_h (h' := h_15) eh_15.symm ?_
            have f_16 : h_15 x = some ((3, 0), .inr (0, [.ref bl, .ref yl, .int (iZ ((N : Int))), .int (iZ (q.2.1 + (cst q.1 (nG (q.1 si)) (nB (q.1 si)) A.length)))])) := by rw [eh_15]; exact g_uk f_9 f_12 (show (3 : Nat) ≠ 2 by decide)
            have f_17 : h_15 bl = some ((5, 0), .inr (3, [.ref eb, .int (iZ (A.length)), .int (iZ (mb))])) := by rw [eh_15]; exact g_uk f_10 f_12 (show (5 : Nat) ≠ 2 by decide)
            have f_18 : h_15 yl = some ((5, 1), .inr (3, [.ref ey, .int (iZ (Y.length)), .int (iZ (my))])) := by rw [eh_15]; exact g_uk f_11 f_12 (show (5 : Nat) ≠ 2 by decide)
            have f_19 : h_15 mk = some ((2, 0), .inr (2, [.ref q1, .int (iZ (y.2.2.1)), .long (lZ (nG (q.1 si))), .int (iZ (nB (q.1 si)))])) := by rw [eh_15]; exact g_us
            have f_20 : h_15 q1 = some ((15, mk), gI D y.1 (y.2.1)) := by rw [eh_15]; exact g_uk f_13 f_12 (show (15 : Nat) ≠ 2 by decide)
            have hk_21 := kp_up (hk_14) eh_15 f_12 (⟨Nat.le_of_ble_eq_true rfl, Nat.le_of_ble_eq_true rfl⟩)
            refine g_s (fun kk => lv_iinc (v := iZ (r + 1)) (lv' := [(3, .int (iZ (r + 1))), (8, .int (iZ (cst q.1 (nG (q.1 si)) (nB (q.1 si)) A.length))), (7, .int (iZ (nB (q.1 si)))), (5, .long (lZ (nG (q.1 si)))), (4, .int (iZ (si))), (2, .ref mk), (1, .int (iZ (bud))), (0, .ref x)]) X.1 X.2.1 d_LB_takeSteepestSteps_110 hl (k := 4) rfl (iZ_add _ _) (by decide) rfl kk) (fun ls hl => ?_)
            refine g_goto (tgt := 2) X d_LB_takeSteepestSteps_113 (by decide) ?_
            obtain ⟨bl4, yl4, hx4b⟩ := id hx4
            have hmA := LY_neA hx4b f_5
            have hx5 : LBb D h_15 x bl4 yl4 A _ Y ys _ _ := LBb_out hx4b f_5 hmA hmY (Or.inr rfl) (kp_up (kp_up kp_rf eh_8 f_5 (Or.inl rfl)) eh_15 f_12 (Or.inl rfl))
            exact ih (r + 1) h_15 (fun j => tkS (nG (q.1 si)) (nB (q.1 si)) (q.1 j), q.2.1 + cst q.1 (nG (q.1 si)) (nB (q.1 si)) A.length, nG (q.1 si), nB (q.1 si)) ls (by omega) (fun i hi => wfB_tkS (hwq i hi)) (by show q.2.1 + _ = totB (fun j => tkS (nG (q.1 si)) (nB (q.1 si)) (q.1 j)) A.length; rw [totB_tkS hwq, htq]) ⟨bl4, yl4, hx5⟩ ⟨q1, f_19, f_20⟩ hk_21 ((tss_s hsi (by omega)).symm.trans hQ) (lv_sub hl [0, 5, 6, 7] rfl)
          · have hQe := (tss_b (k := d) (bud := bud) hsi (by omega)).symm.trans hQ
            exact g_vret X (⟨rfl, by rw [← hQe]; exact hx2, by rw [← hQe]; exact hm2, hkk⟩) (by decide) (by decide) d_LB_takeSteepestSteps_78
        · have hQe := (tss_0 (k := d) (bud := bud) (show stp q.1 A.length = 0 by omega)).symm.trans hQ
          exact g_vret X (⟨rfl, by rw [← hQe]; exact hx2, by rw [← hQe]; exact hm2, hkk⟩) (by decide) (by decide) d_LB_takeSteepestSteps_22
  refine g_1 (fun w => lv_iconst (v := iZ 0) X.1 X.2.1 d_LB_takeSteepestSteps_0 rfl w) ?_
  refine g_s (fun kk => lv_istore_n (lv' := [(3, .int (iZ (0))), (0, .ref x), (1, .int (iZ (bud))), (2, .ref mk)]) X.1 X.2.1 d_LB_takeSteepestSteps_1 rfl hl (by decide) rfl kk) (fun ls hl => ?_)
  exact loop N 0 h (bs, tb, y.2.2.2.1, y.2.2.2.2) ls (by omega) hwf htb hx hm kp_rf hQQ.symm (lv_sub hl [0, 3, 2, 1] rfl)

theorem tss_wf {n : Nat} {bud : Int} : ∀ {k : Nat} {q : Tkg}, (∀ i, i < n → wfB (q.1 i)) → ∀ i, i < n → wfB ((tss n bud k q).1 i)
  | 0, _, h => h
  | k + 1, q, h => by
    unfold tss
    split
    · exact h
    · split
      · exact h
      · exact tss_wf (fun i hi => wfB_tkS (h i hi))

set_option maxHeartbeats 4000000 in
set_option maxRecDepth 100000 in
theorem c_LB_layer {D : va_G} {s0 : State} {l : Launch} {h : gH} (B0 : gB D s0) (hfl : l.flags = flags0) {x : Nat} {A Y : List Nat} {bs : Nat → Blk} {ys : Nat → Lay} {pn tb : Int} (hx : isLB D h x A bs Y ys pn tb) (hAl : A.length ≤ 1024) (hYl : Y.length ≤ 64) (hwf : ∀ i, i < A.length → wfB (bs i)) {N : Nat} (hpn : pn = N) (hNl : N ≤ 16384) (htb : tb = totB bs A.length) {bud : Int} (hbu : i_ok bud) {QQ : Tkg} (hQQ : QQ = layQ A.length N bud bs tb) : gMetX D s0 l y_LB_layer b_LB_layer 3 (some .int) ({ frames := 7, cells := 3, slots := 2628, locals := 171 } : Room) [.ref x, .int (iZ (bud))] h (fun v h' => -1 ≤ bud ∧ Y.length < 64 ∧ some (.int (iZ QQ.2.1)) = v ∧ ∃ (b : Nat) (cf : Nat → Int), (∀ j, j < A.length → cf j = bL (QQ.1 j)) ∧ isLB D h' x A QQ.1 (Y ++ [b]) (va_up ys Y.length (A.length, cf, QQ.2.1, QQ.2.2.1, QQ.2.2.2)) pn QQ.2.1 ∧ kp P_LB h h') (fun C h' => ((C = "java/lang/IllegalArgumentException" ∧ bud < -1) ∨ (C = "java/lang/IllegalStateException" ∧ -1 ≤ bud ∧ ¬ Y.length < 64)) ∧ h = h') := by
  obtain ⟨bl, yl, fX, hA, hY, hbs, hys, hnd, hnd2⟩ := id hx
  obtain ⟨eb, mb, fbl, -⟩ := id hA
  obtain ⟨ey, my, fyl, -⟩ := id hY
  obtain ⟨hbu1, hbu2⟩ := id hbu
  subst hpn
  refine g_enterX B0 (plainFor_of_name (by decide)) (Nat.le_of_ble_eq_true rfl) (fun p e s m below meth c ls X hxt hnm hl => ?_)
  have hl : lv_has ls 3 [(0, .ref x), (1, .int (iZ (bud)))] := hl
  refine g_1 (fun w => lv_iload_n X.1 X.2.1 d_LB_layer_0 rfl (lv_at hl 1 rfl) w) ?_
  refine g_1 (fun w => lv_iconst (v := iZ (-1)) X.1 X.2.1 d_LB_layer_1 rfl w) ?_
  refine g_icmp_ge (tgt := 15) X (by first | (split <;> exact ⟨by omega, by omega⟩) | exact ⟨by omega, by omega⟩ | exact cmpZ_ok _ _) (by first | (split <;> exact ⟨by omega, by omega⟩) | exact ⟨by omega, by omega⟩ | exact cmpZ_ok _ _) d_LB_layer_2 (by decide) (fun c2 => ?_) (fun c2 => ?_)
  · refine g_1 (fun w => lv_aload_n X.1 X.2.1 d_LB_layer_15 rfl (lv_at hl 0 rfl) w) ?_
    refine g_get X (ci := 0) rfl fX 1 (by decide) ⟨rfl, rfl⟩ tw_56 (Or.inl rfl) rfl d_LB_layer_16 ?_
    refine g_callV (na := 0) X (c_AL_size B0 hY) rfl fyl rfl ⟨⟨tw_87, tw_4⟩, ⟨by decide, by decide, by decide +kernel⟩, by decide, by decide⟩ tw_84 tw_85 tw_86 rfl hl.1 (Nat.le_of_ble_eq_true rfl) ⟨by decide, by decide⟩ d_LB_layer_19 (fun v h' hp => ?_)
    obtain ⟨rfl, rfl⟩ := hp
    refine g_widen (k' := 0) (n' := 0) (by decide) (by decide) ?_
    show G D s0 p l e _ s m _ below meth c h _ _ _ (F0 m 22 ls [.int (iZ (Y.length))])
    refine g_1 (fun w => lv_bipush (v := iZ 64) X.1 X.2.1 d_LB_layer_22 (by decide) w) ?_
    refine g_icmp_lt (tgt := 37) X (by first | (split <;> exact ⟨by omega, by omega⟩) | exact ⟨by omega, by omega⟩ | exact cmpZ_ok _ _) (by first | (split <;> exact ⟨by omega, by omega⟩) | exact ⟨by omega, by omega⟩ | exact cmpZ_ok _ _) d_LB_layer_24 (by decide) (fun c24 => ?_) (fun c24 => ?_)
    · refine g_new X (ci := 2) rfl tw_389 tw_390 tw_20 (fs := [.null, .int (iZ (0)), .long (lZ (0)), .int (iZ (0))]) (fun j hj => by rcases (show j = 0 ∨ j = 1 ∨ j = 2 ∨ j = 3 by omega) with rfl | rfl | rfl | rfl <;> rfl) (fun z => (2, 0)) (by decide) (by decide) d_LB_layer_37 (fun na_1 hfna_1 => ?_)
      obtain ⟨h_2, eh_2⟩ : ∃ z, z = g_up h na_1 ((2, 0), .inr (2, [.null, .int (iZ (0)), .long (lZ (0)), .int (iZ (0))])) := ⟨_, rfl⟩
      refine g_h (h' := h_2) eh_2.symm ?_
      have f_3 : h_2 x = some ((3, 0), .inr (0, [.ref bl, .ref yl, .int (iZ ((N : Int))), .int (iZ (tb))])) := by rw [eh_2]; exact g_uf fX hfna_1
      have f_4 : h_2 bl = some ((5, 0), .inr (3, [.ref eb, .int (iZ (A.length)), .int (iZ (mb))])) := by rw [eh_2]; exact g_uf fbl hfna_1
      have f_5 : h_2 yl = some ((5, 1), .inr (3, [.ref ey, .int (iZ (Y.length)), .int (iZ (my))])) := by rw [eh_2]; exact g_uf fyl hfna_1
      have f_6 : h_2 na_1 = some ((2, 0), .inr (2, [.null, .int (iZ (0)), .long (lZ (0)), .int (iZ (0))])) := by rw [eh_2]; exact g_us
      have hk_7 := kp_new (kp_rf (P := P_LB) (h := h)) eh_2 hfna_1
      have hxx : LBb D h x bl yl A bs Y ys (N : Int) tb := ⟨fX, hA, hY, hbs, hys, hnd, hnd2⟩
      have hfr := LBb_fr hxx hfna_1
      have hx2 : LBb D h_2 x bl yl A bs Y ys (N : Int) tb := LBb_kp (P := fun _ _ => False) hxx (kp_new kp_rf eh_2 hfna_1) (fun _ _ _ _ z => z)
      have hA := hx2.2.1
      refine g_1 (fun w => lv_dup X.1 X.2.1 d_LB_layer_40 rfl w) ?_
      refine g_1 (fun w => lv_aload_n X.1 X.2.1 d_LB_layer_41 rfl (lv_at hl 0 rfl) w) ?_
      refine g_get X (ci := 0) rfl f_3 0 (by decide) ⟨rfl, rfl⟩ tw_55 (Or.inl rfl) rfl d_LB_layer_42 ?_
      refine g_callV (na := 0) X (c_AL_size B0 hA) rfl f_4 rfl ⟨⟨tw_87, tw_4⟩, ⟨by decide, by decide, by decide +kernel⟩, by decide, by decide⟩ tw_84 tw_85 tw_86 rfl hl.1 (Nat.le_of_ble_eq_true rfl) ⟨by decide, by decide⟩ d_LB_layer_45 (fun v h' hp => ?_)
      obtain ⟨rfl, rfl⟩ := hp
      refine g_widen (k' := 0 + 1) (n' := 0 + 4) (by decide) (by decide) ?_
      show G D s0 p l e _ s m _ below meth c h_2 _ _ _ (F0 m 48 ls [.int (iZ (A.length)), .ref na_1, .ref na_1])
      refine g_callIN (na := 1) X (c_LY_init B0 hAl f_6) rfl rfl ⟨⟨tw_393, tw_20⟩, ⟨by decide, by decide, by decide +kernel⟩, by decide, by decide⟩ tw_391 tw_392 rfl hl.1 (Nat.le_of_ble_eq_true rfl) ⟨by decide, by decide⟩ d_LB_layer_48 (fun v h2 hp => ?_)
      obtain ⟨rfl, hm3, hk3⟩ := hp
      have hx3 := LBb_out hx2 f_6 hfr.1 hfr.2 (Or.inr rfl) (kp_mo hk3 (fun q t z => Or.inl z))
      have hkB : kp P_LB h h2 := fun q z hq hn => hk3 q z (hk_7 q z hq hn) (fun y => g_nz hq hfna_1 y)
      have hx9 : isLB D h2 x A bs Y ys (N : Int) tb := ⟨bl, yl, hx3⟩
      obtain ⟨bl, yl, fX, hA, hY, hbs, hys, hnd, hnd2⟩ := id hx9
      obtain ⟨eb, mb, fbl, -⟩ := id hA
      obtain ⟨ey, my, fyl, -⟩ := id hY
      obtain ⟨q1, fm, fq⟩ := id hm3
      refine g_widen (k' := 0 + 1 + 1) (n' := 0 + 4 + 1024) (by decide) (by decide) ?_
      show G D s0 p l e _ s m _ below meth c h2 _ _ _ (F0 m 51 ls [.ref na_1])
      refine g_s (fun kk => lv_astore_n (lv' := [(2, .ref na_1), (0, .ref x), (1, .int (iZ (bud)))]) X.1 X.2.1 d_LB_layer_51 rfl hl (by decide) rfl kk) (fun ls hl => ?_)
      refine g_1 (fun w => lv_iload_n X.1 X.2.1 d_LB_layer_52 rfl (lv_at hl 2 rfl) w) ?_
      refine g_1 (fun w => lv_iconst (v := iZ (-1)) X.1 X.2.1 d_LB_layer_53 rfl w) ?_
      refine g_icmp_ne (tgt := 64) X (by first | (split <;> exact ⟨by omega, by omega⟩) | exact ⟨by omega, by omega⟩ | exact cmpZ_ok _ _) (by first | (split <;> exact ⟨by omega, by omega⟩) | exact ⟨by omega, by omega⟩ | exact cmpZ_ok _ _) d_LB_layer_54 (by decide) (fun c54 => ?_) (fun c54 => ?_)
      · refine g_1 (fun w => lv_aload_n X.1 X.2.1 d_LB_layer_64 rfl (lv_at hl 1 rfl) w) ?_
        refine g_1 (fun w => lv_iload_n X.1 X.2.1 d_LB_layer_65 rfl (lv_at hl 2 rfl) w) ?_
        refine g_1 (fun w => lv_aload_n X.1 X.2.1 d_LB_layer_66 rfl (lv_at hl 0 rfl) w) ?_
        refine g_callV (na := 2) X (c_LB_takeSteepestSteps B0 hx9 hAl hYl hwf hm3 hfr.2 rfl hNl htb hbu (hQQ.trans (if_neg c54))) rfl fX rfl ⟨⟨tw_427, tw_1⟩, ⟨by decide, by decide, by decide +kernel⟩, by decide, by decide⟩ tw_424 tw_426 ts_LB_takeSteepestSteps rfl hl.1 (Nat.le_of_ble_eq_true rfl) ⟨by decide, by decide⟩ d_LB_layer_67 (fun v h5 hp => ?_)
        obtain ⟨rfl, hx5, hm5, hk5⟩ := hp
        have hkC : kp P_LB h h5 := kp_tr hkB hk5
        have hwq : ∀ i, i < A.length → wfB (QQ.1 i) := by rw [hQQ, show layQ A.length N bud bs tb = _ from if_neg c54]; exact tss_wf hwf
        obtain ⟨bl, yl, fX, hA, hY, hbs, hys, hnd, hnd2⟩ := id hx5
        obtain ⟨eb, mb, fbl, -⟩ := id hA
        obtain ⟨ey, my, fyl, -⟩ := id hY
        obtain ⟨q1, fm, fq⟩ := id hm5
        refine g_widen (k' := 0 + 1 + 1) (n' := 0 + 4 + 1024) (by decide) (by decide) ?_
        show G D s0 p l e _ s m _ below meth c h5 _ _ _ (F0 m 70 ls [])
        refine g_1 (fun w => lv_aload_n X.1 X.2.1 d_LB_layer_70 rfl (lv_at hl 1 rfl) w) ?_
        refine g_1 (fun w => lv_aload_n X.1 X.2.1 d_LB_layer_71 rfl (lv_at hl 0 rfl) w) ?_
        refine g_callV (na := 1) X (c_LB_recordCuts B0 hx5 hAl hYl hwq hm5 hfr.2 rfl) rfl fX rfl ⟨⟨tw_468, tw_1⟩, ⟨by decide, by decide, by decide +kernel⟩, by decide, by decide⟩ tw_465 tw_467 ts_LB_recordCuts rfl hl.1 (Nat.le_of_ble_eq_true rfl) ⟨by decide, by decide⟩ d_LB_layer_72 (fun v h6 hp => ?_)
        obtain ⟨rfl, cf, hcf, hx6, hm6, hk6⟩ := hp
        have hkD : kp P_LB h h6 := kp_tr hkC hk6
        obtain ⟨bl, yl, hx6b⟩ := id hx6
        obtain ⟨fX, hA, hY, -⟩ := id hx6b
        obtain ⟨eb, mb, fbl, -⟩ := id hA
        obtain ⟨ey, my, fyl, -⟩ := id hY
        obtain ⟨q1, fm, fq⟩ := id hm6
        refine g_widen (k' := 0 + 1 + 1) (n' := 0 + 4 + 1024) (by decide) (by decide) ?_
        show G D s0 p l e _ s m _ below meth c h6 _ _ _ (F0 m 75 ls [])
        refine g_1 (fun w => lv_aload_n X.1 X.2.1 d_LB_layer_75 rfl (lv_at hl 1 rfl) w) ?_
        refine g_get X (ci := 0) rfl fX 1 (by decide) ⟨rfl, rfl⟩ tw_56 (Or.inl rfl) rfl d_LB_layer_76 ?_
        refine g_1 (fun w => lv_aload_n X.1 X.2.1 d_LB_layer_79 rfl (lv_at hl 0 rfl) w) ?_
        refine g_callV (na := 1) X (c_AL_add1 B0 hY (by omega) (LBb_ob hx6b).2 ⟨_, _, _, fm, Or.inr rfl⟩) rfl fyl rfl ⟨⟨tw_222, tw_4⟩, ⟨by decide, by decide, by decide +kernel⟩, by decide, by decide⟩ tw_219 tw_220 tw_221 rfl hl.1 (Nat.le_of_ble_eq_true rfl) ⟨by decide, by decide⟩ d_LB_layer_80 (fun v h7 hp => ?_)
        obtain ⟨rfl, hY7, hk7⟩ := hp
        have hx7 := LBb_addY hx6b hm6 hfr.2 hY7 hk7
        have hkE : kp P_LB h h7 := kp_tr hkD (kpA_LB hY hk7)
        obtain ⟨q7, fm7, -⟩ := isLy_al hm6 hY hk7
        refine g_widen (k' := 0 + 1 + 1 + 1) (n' := 0 + 4 + 1024 + 1600) (by decide) (by decide) ?_
        show G D s0 p l e _ s m _ below meth c h7 _ _ _ (F0 m 83 ls [.int (iZ (1))])
        refine g_1 (fun w => lv_pop X.1 X.2.1 d_LB_layer_83 rfl w) ?_
        refine g_1 (fun w => lv_aload_n X.1 X.2.1 d_LB_layer_84 rfl (lv_at hl 0 rfl) w) ?_
        refine g_getN X (ci := 2) rfl fm7 1 (by decide) ⟨rfl, rfl⟩ tw_398 rfl d_LB_layer_85 ?_
        exact g_rx (g_iret X (⟨by omega, by omega, rfl, na_1, cf, hcf, hx7, hkE⟩) (by decide) (by decide) d_LB_layer_88)
      · refine g_1 (fun w => lv_aload_n X.1 X.2.1 d_LB_layer_57 rfl (lv_at hl 1 rfl) w) ?_
        refine g_callV (na := 0) X (c_LB_takeAllPasses B0 hx9 hAl hYl hwf) rfl fX rfl ⟨⟨tw_415, tw_1⟩, ⟨by decide, by decide, by decide +kernel⟩, by decide, by decide⟩ tw_412 tw_414 ts_LB_takeAllPasses rfl hl.1 (Nat.le_of_ble_eq_true rfl) ⟨by decide, by decide⟩ d_LB_layer_58 (fun v h5 hp => ?_)
        obtain ⟨rfl, hx5, hk5⟩ := hp
        have eq5 : (fun j => tka (bs j), sm (fun j => bB (bs j) (bP (bs j))) A.length, -1, -1) = QQ := hQQ ▸ (if_pos c54).symm
        have hx5 : isLB D h5 x A QQ.1 Y ys (N : Int) QQ.2.1 := by rw [← eq5]; exact hx5
        have hm5 : isLy D h5 na_1 (A.length, fun _ => 0, 0, QQ.2.2.1, QQ.2.2.2) := by
          rw [← eq5]
          exact hm3.kp hk5 (fun z => by rcases z with z | z | z; exact absurd z (show ¬ (2 : Nat) = 1 by decide); exact absurd z (show ¬ (2 : Nat) = 3 by decide); exact absurd z.1 (show ¬ (11 : Nat) ≤ 2 by decide)) (fun _ z => by rcases z with z | z | z; exact absurd z (show ¬ (15 : Nat) = 1 by decide); exact absurd z (show ¬ (15 : Nat) = 3 by decide); exact absurd z.2 (show ¬ (15 : Nat) ≤ 13 by decide))
        have hkC : kp P_LB h h5 := kp_tr hkB (XB_LB hk5)
        have hwq : ∀ i, i < A.length → wfB (QQ.1 i) := by rw [← eq5]; exact fun i hi => wfB_tka (hwf i hi)
        obtain ⟨bl, yl, fX, hA, hY, hbs, hys, hnd, hnd2⟩ := id hx5
        obtain ⟨eb, mb, fbl, -⟩ := id hA
        obtain ⟨ey, my, fyl, -⟩ := id hY
        obtain ⟨q1, fm, fq⟩ := id hm5
        refine g_widen (k' := 0 + 1 + 1) (n' := 0 + 4 + 1024) (by decide) (by decide) ?_
        show G D s0 p l e _ s m _ below meth c h5 _ _ _ (F0 m 61 ls [])
        refine g_goto (tgt := 70) X d_LB_layer_61 (by decide) ?_
        refine g_1 (fun w => lv_aload_n X.1 X.2.1 d_LB_layer_70 rfl (lv_at hl 1 rfl) w) ?_
        refine g_1 (fun w => lv_aload_n X.1 X.2.1 d_LB_layer_71 rfl (lv_at hl 0 rfl) w) ?_
        refine g_callV (na := 1) X (c_LB_recordCuts B0 hx5 hAl hYl hwq hm5 hfr.2 rfl) rfl fX rfl ⟨⟨tw_468, tw_1⟩, ⟨by decide, by decide, by decide +kernel⟩, by decide, by decide⟩ tw_465 tw_467 ts_LB_recordCuts rfl hl.1 (Nat.le_of_ble_eq_true rfl) ⟨by decide, by decide⟩ d_LB_layer_72 (fun v h6 hp => ?_)
        obtain ⟨rfl, cf, hcf, hx6, hm6, hk6⟩ := hp
        have hkD : kp P_LB h h6 := kp_tr hkC hk6
        obtain ⟨bl, yl, hx6b⟩ := id hx6
        obtain ⟨fX, hA, hY, -⟩ := id hx6b
        obtain ⟨eb, mb, fbl, -⟩ := id hA
        obtain ⟨ey, my, fyl, -⟩ := id hY
        obtain ⟨q1, fm, fq⟩ := id hm6
        refine g_widen (k' := 0 + 1 + 1) (n' := 0 + 4 + 1024) (by decide) (by decide) ?_
        show G D s0 p l e _ s m _ below meth c h6 _ _ _ (F0 m 75 ls [])
        refine g_1 (fun w => lv_aload_n X.1 X.2.1 d_LB_layer_75 rfl (lv_at hl 1 rfl) w) ?_
        refine g_get X (ci := 0) rfl fX 1 (by decide) ⟨rfl, rfl⟩ tw_56 (Or.inl rfl) rfl d_LB_layer_76 ?_
        refine g_1 (fun w => lv_aload_n X.1 X.2.1 d_LB_layer_79 rfl (lv_at hl 0 rfl) w) ?_
        refine g_callV (na := 1) X (c_AL_add1 B0 hY (by omega) (LBb_ob hx6b).2 ⟨_, _, _, fm, Or.inr rfl⟩) rfl fyl rfl ⟨⟨tw_222, tw_4⟩, ⟨by decide, by decide, by decide +kernel⟩, by decide, by decide⟩ tw_219 tw_220 tw_221 rfl hl.1 (Nat.le_of_ble_eq_true rfl) ⟨by decide, by decide⟩ d_LB_layer_80 (fun v h7 hp => ?_)
        obtain ⟨rfl, hY7, hk7⟩ := hp
        have hx7 := LBb_addY hx6b hm6 hfr.2 hY7 hk7
        have hkE : kp P_LB h h7 := kp_tr hkD (kpA_LB hY hk7)
        obtain ⟨q7, fm7, -⟩ := isLy_al hm6 hY hk7
        refine g_widen (k' := 0 + 1 + 1 + 1) (n' := 0 + 4 + 1024 + 1600) (by decide) (by decide) ?_
        show G D s0 p l e _ s m _ below meth c h7 _ _ _ (F0 m 83 ls [.int (iZ (1))])
        refine g_1 (fun w => lv_pop X.1 X.2.1 d_LB_layer_83 rfl w) ?_
        refine g_1 (fun w => lv_aload_n X.1 X.2.1 d_LB_layer_84 rfl (lv_at hl 0 rfl) w) ?_
        refine g_getN X (ci := 2) rfl fm7 1 (by decide) ⟨rfl, rfl⟩ tw_398 rfl d_LB_layer_85 ?_
        exact g_rx (g_iret X (⟨by omega, by omega, rfl, na_1, cf, hcf, hx7, hkE⟩) (by decide) (by decide) d_LB_layer_88)
    · exact g_throw X hfl hxt (i1 := 33) (i2 := 106) (i3 := 37) g_oa_IS (by decide +kernel) tw_120 tw_121 tw_11 (tx := "there are 64 layers") (by decide) (⟨Or.inr ⟨rfl, by omega, by omega⟩, rfl⟩) hl.1 (by decide) (by decide) ⟨by decide, by decide⟩ ⟨by decide, by decide⟩ d_LB_layer_27 d_LB_layer_30 d_LB_layer_31 d_LB_layer_33 d_LB_layer_36
  · exact g_throw X hfl hxt (i1 := 51) (i2 := 104) (i3 := 55) g_oa_IA (by decide +kernel) tw_286 tw_287 tw_17 (tx := "budget below NONE") (by decide) (⟨Or.inl ⟨rfl, by omega⟩, rfl⟩) hl.1 (by decide) (by decide) ⟨by decide, by decide⟩ ⟨by decide, by decide⟩ d_LB_layer_5 d_LB_layer_8 d_LB_layer_9 d_LB_layer_11 d_LB_layer_14
end
section
theorem isAL_up {D : va_G} {h h1 : gH} {a w x : Nat} {L : List Nat} {t : Nat × Nat} {e : va_E} {y : gE} (ha : isAL D h a w L) (hX : h x = some (t, e)) (h5 : t.1 ≠ 5) (h14 : t.1 ≠ 14) (e1 : h1 = g_up h x y) : isAL D h1 a w L := by
  obtain ⟨e2, mc, f1, hc⟩ := ha
  refine ⟨e2, mc, by rw [e1]; exact (g_un (g_ne f1 hX (fun z => h5 z.symm))).trans f1, ?_⟩
  rcases hc with z | ⟨cap, f, z1, z2⟩
  · exact Or.inl z
  · exact Or.inr ⟨cap, f, by rw [e1]; exact (g_un (g_ne z1 hX (fun z => h14 z.symm))).trans z1, z2⟩
theorem isAL_nw {D : va_G} {h h1 : gH} {a w x : Nat} {L : List Nat} {y : gE} (ha : isAL D h a w L) (hX : h x = none) (e1 : h1 = g_up h x y) : isAL D h1 a w L := by
  obtain ⟨e2, mc, f1, hc⟩ := ha
  refine ⟨e2, mc, by rw [e1]; exact g_uf f1 hX, ?_⟩
  rcases hc with z | ⟨cap, f, z1, z2⟩
  · exact Or.inl z
  · exact Or.inr ⟨cap, f, by rw [e1]; exact g_uf z1 hX, z2⟩
theorem isAL_ot {D : va_G} {h h1 : gH} {a w x w2 : Nat} {L : List Nat} {e : va_E} (ha : isAL D h a w L) (hX : h x = some ((5, w2), e)) (hw : w ≠ w2) (hk : kp (fun q _ => q = x) h h1) : isAL D h1 a w L := by
  obtain ⟨e2, mc, f1, hc⟩ := ha
  refine ⟨e2, mc, hk _ _ f1 (fun z => ?_), ?_⟩
  · subst z
    have y := f1.symm.trans hX
    simp only [Option.some.injEq, Prod.mk.injEq] at y
    exact hw y.1.2
  · rcases hc with z | ⟨cap, f, z1, z2⟩
    · exact Or.inl z
    · exact Or.inr ⟨cap, f, hk _ _ z1 (g_ne z1 hX (show (14 : Nat) ≠ 5 by decide)), z2⟩

set_option maxHeartbeats 4000000 in
set_option maxRecDepth 100000 in
theorem c_LB_init {D : va_G} {s0 : State} {l : Launch} {h : gH} (B0 : gB D s0) {x : Nat} (bs : Nat → Blk) (ys : Nat → Lay) (fA : h x = some ((3, 0), .inr (0, [.null, .null, .int (iZ 0), .int (iZ 0)]))) : gMet D s0 l y_LB_init b_LB_init 1 none ({ frames := 4, cells := 2, slots := 6, locals := 72 } : Room) [.ref x] h (fun v h' => none = v ∧ isLB D h' x [] bs [] ys 0 0 ∧ kp (fun q t => q = x) h h') := by
  refine g_enter B0 (plainFor_of_name (by decide)) (Nat.le_of_ble_eq_true rfl) (fun p e s m below meth c ls X hnm hl => ?_)
  have hl : lv_has ls 1 [(0, .ref x)] := hl
  refine g_1 (fun w => lv_aload_n X.1 X.2.1 d_LB_init_0 rfl (lv_at hl 0 rfl) w) ?_
  refine g_obj X tw_26 hl.1 d_LB_init_1 (by decide) (by decide) ?_
  refine g_1 (fun w => lv_aload_n X.1 X.2.1 d_LB_init_4 rfl (lv_at hl 0 rfl) w) ?_
  refine g_new X (ci := 3) rfl tw_29 tw_30 tw_4 (fs := [.null, .int (iZ (0)), .int (iZ (0))]) (fun j hj => by rcases (show j = 0 ∨ j = 1 ∨ j = 2 by omega) with rfl | rfl | rfl <;> rfl) (fun z => (5, 0)) (by decide) (by decide) d_LB_init_5 (fun na_1 hfna_1 => ?_)
  obtain ⟨h_2, eh_2⟩ : ∃ z, z = g_up h na_1 ((5, 0), .inr (3, [.null, .int (iZ (0)), .int (iZ (0))])) := ⟨_, rfl⟩
  refine g_h (h' := h_2) eh_2.symm ?_
  have f_3 : h_2 x = some ((3, 0), .inr (0, [.null, .null, .int (iZ (0)), .int (iZ (0))])) := by rw [eh_2]; exact g_uf fA hfna_1
  have f_4 : h_2 na_1 = some ((5, 0), .inr (3, [.null, .int (iZ (0)), .int (iZ (0))])) := by rw [eh_2]; exact g_us
  have hk_5 := kp_new (kp_rf (P := (fun q t => q = x)) (h := h)) eh_2 hfna_1
  refine g_1 (fun w => lv_dup X.1 X.2.1 d_LB_init_8 rfl w) ?_
  refine g_callI (na := 0) X (c_AL_init B0 f_4) rfl rfl ⟨⟨tw_33, tw_4⟩, ⟨by decide, by decide, by decide +kernel⟩, by decide, by decide⟩ tw_31 tw_32 rfl hl.1 (Nat.le_of_ble_eq_true rfl) ⟨by decide, by decide⟩ d_LB_init_9 (fun v h2 hp => ?_)
  obtain ⟨rfl, hA0, hq0⟩ := hp
  have gX0 := hq0 _ _ f_3 (g_ne f_3 f_4 (show (3 : Nat) ≠ 5 by decide))
  have hk0 : kp (fun q t => q = x) h h2 := fun q z hq hn => hq0 q z (hk_5 q z hq hn) (fun y => g_nz ((kp_rf (P := (fun q t => q = x)) (h := h)) q z hq hn) hfna_1 y)
  refine g_widen (k' := 0 + 1) (n' := 0 + 3) (by decide) (by decide) ?_
  show G D s0 p l e _ s m _ below meth c h2 _ _ _ (F0 m 12 ls [.ref na_1, .ref x])
  refine g_putF X hnm (ci := 0) rfl gX0 (Nat.succ_ne_zero _) 0 (by decide) ⟨rfl, rfl⟩ rfl tw_55 rfl rfl rfl (Nat.le_of_ble_eq_true rfl) d_LB_init_12 ?_
  obtain ⟨h_6, eh_6⟩ : ∃ z, z = g_up h2 x ((3, 0), .inr (0, [.ref na_1, .null, .int (iZ (0)), .int (iZ (0))])) := ⟨_, rfl⟩
  refine g_h (h' := h_6) eh_6.symm ?_
  have f_7 : h_6 x = some ((3, 0), .inr (0, [.ref na_1, .null, .int (iZ (0)), .int (iZ (0))])) := by rw [eh_6]; exact g_us
  have hk_8 := kp_up (hk0) eh_6 gX0 (rfl)
  have hA0 := isAL_up hA0 gX0 (show (3 : Nat) ≠ 5 by decide) (show (3 : Nat) ≠ 14 by decide) eh_6
  refine g_1 (fun w => lv_aload_n X.1 X.2.1 d_LB_init_15 rfl (lv_at hl 0 rfl) w) ?_
  refine g_new X (ci := 3) rfl tw_29 tw_30 tw_4 (fs := [.null, .int (iZ (0)), .int (iZ (0))]) (fun j hj => by rcases (show j = 0 ∨ j = 1 ∨ j = 2 by omega) with rfl | rfl | rfl <;> rfl) (fun z => (5, 1)) (by decide) (by decide) d_LB_init_16 (fun na_9 hfna_9 => ?_)
  obtain ⟨h_10, eh_10⟩ : ∃ z, z = g_up h_6 na_9 ((5, 1), .inr (3, [.null, .int (iZ (0)), .int (iZ (0))])) := ⟨_, rfl⟩
  refine g_h (h' := h_10) eh_10.symm ?_
  have f_11 : h_10 x = some ((3, 0), .inr (0, [.ref na_1, .null, .int (iZ (0)), .int (iZ (0))])) := by rw [eh_10]; exact g_uf f_7 hfna_9
  have f_12 : h_10 na_9 = some ((5, 1), .inr (3, [.null, .int (iZ (0)), .int (iZ (0))])) := by rw [eh_10]; exact g_us
  have hk_13 := kp_new (hk_8) eh_10 hfna_9
  refine g_1 (fun w => lv_dup X.1 X.2.1 d_LB_init_19 rfl w) ?_
  refine g_callI (na := 0) X (c_AL_init B0 f_12) rfl rfl ⟨⟨tw_33, tw_4⟩, ⟨by decide, by decide, by decide +kernel⟩, by decide, by decide⟩ tw_31 tw_32 rfl hl.1 (Nat.le_of_ble_eq_true rfl) ⟨by decide, by decide⟩ d_LB_init_20 (fun v h3 hp => ?_)
  obtain ⟨rfl, hA1, hq1⟩ := hp
  have gX1 := hq1 _ _ f_11 (g_ne f_11 f_12 (show (3 : Nat) ≠ 5 by decide))
  have hA0 := isAL_nw hA0 hfna_9 eh_10
  have hA0 := isAL_ot hA0 f_12 (by decide) hq1
  have hk1 : kp (fun q t => q = x) h h3 := fun q z hq hn => hq1 q z (hk_13 q z hq hn) (fun y => g_nz (hk_8 q z hq hn) hfna_9 y)
  refine g_widen (k' := 0 + 1 + 1) (n' := 0 + 3 + 3) (by decide) (by decide) ?_
  show G D s0 p l e _ s m _ below meth c h3 _ _ _ (F0 m 23 ls [.ref na_9, .ref x])
  refine g_putF X hnm (ci := 0) rfl gX1 (Nat.succ_ne_zero _) 1 (by decide) ⟨rfl, rfl⟩ rfl tw_56 rfl rfl rfl (Nat.le_of_ble_eq_true rfl) d_LB_init_23 ?_
  obtain ⟨h_14, eh_14⟩ : ∃ z, z = g_up h3 x ((3, 0), .inr (0, [.ref na_1, .ref na_9, .int (iZ (0)), .int (iZ (0))])) := ⟨_, rfl⟩
  refine g_h (h' := h_14) eh_14.symm ?_
  have f_15 : h_14 x = some ((3, 0), .inr (0, [.ref na_1, .ref na_9, .int (iZ (0)), .int (iZ (0))])) := by rw [eh_14]; exact g_us
  have hk_16 := kp_up (hk1) eh_14 gX1 (rfl)
  have hA0 := isAL_up hA0 gX1 (show (3 : Nat) ≠ 5 by decide) (show (3 : Nat) ≠ 14 by decide) eh_14
  have hA1 := isAL_up hA1 gX1 (show (3 : Nat) ≠ 5 by decide) (show (3 : Nat) ≠ 14 by decide) eh_14
  exact g_vret X (⟨rfl, ⟨na_1, na_9, f_15, hA0, hA1, fun i hi => absurd hi (Nat.not_lt_zero _), fun i hi => absurd hi (Nat.not_lt_zero _), List.nodup_nil, List.nodup_nil⟩, hk_16⟩) (by decide) (by decide) d_LB_init_26
end
section
/-! THE REFERENCE'S STATE: thrown, blocks, all, used, layers; passes, begins, bytes, gains, cuts, totals, lastGain, lastBytes, cut, next -/
abbrev Mdl : Type := Int × Int × Int × Int × Int × (Nat → Int) × (Nat → Int) × (Nat → Int) × (Nat → Int) × (Nat → Int) × (Nat → Int) × (Nat → Int) × (Nat → Int) × (Nat → Int) × (Nat → Int)
abbrev mT (M : Mdl) : Int := M.1
abbrev mN (M : Mdl) : Int := M.2.1
abbrev mA (M : Mdl) : Int := M.2.2.1
abbrev mU (M : Mdl) : Int := M.2.2.2.1
abbrev mY (M : Mdl) : Int := M.2.2.2.2.1
abbrev aP (M : Mdl) : Nat → Int := M.2.2.2.2.2.1
abbrev aB (M : Mdl) : Nat → Int := M.2.2.2.2.2.2.1
abbrev aY (M : Mdl) : Nat → Int := M.2.2.2.2.2.2.2.1
abbrev aG (M : Mdl) : Nat → Int := M.2.2.2.2.2.2.2.2.1
abbrev aC (M : Mdl) : Nat → Int := M.2.2.2.2.2.2.2.2.2.1
abbrev aT (M : Mdl) : Nat → Int := M.2.2.2.2.2.2.2.2.2.2.1
abbrev aL (M : Mdl) : Nat → Int := M.2.2.2.2.2.2.2.2.2.2.2.1
abbrev aM (M : Mdl) : Nat → Int := M.2.2.2.2.2.2.2.2.2.2.2.2.1
abbrev aK (M : Mdl) : Nat → Int := M.2.2.2.2.2.2.2.2.2.2.2.2.2.1
abbrev aX (M : Mdl) : Nat → Int := M.2.2.2.2.2.2.2.2.2.2.2.2.2.2
def isMD (D : va_G) (h : gH) (a : Nat) (M : Mdl) : Prop := ∃ p3 p4 p6 p7 p9 p10 p11 p12 p13 p14 : Nat,
  h a = some ((20, 0), .inr (4, [.int (iZ (mT M)), .int (iZ (mN M)), .int (iZ (mA M)), .ref p3, .ref p4, .int (iZ (mU M)), .ref p6, .ref p7, .int (iZ (mY M)), .ref p9, .ref p10, .ref p11, .ref p12, .ref p13, .ref p14])) ∧
  h p3 = some ((21, a), gI D 1024 (aP M)) ∧ h p4 = some ((22, a), gI D 1024 (aB M)) ∧ h p6 = some ((23, a), gI D 17408 (aY M)) ∧ h p7 = some ((24, a), gL D 17408 (aG M)) ∧ h p9 = some ((25, a), gI D 65536 (aC M)) ∧ h p10 = some ((26, a), gI D 64 (aT M)) ∧ h p11 = some ((27, a), gL D 64 (aL M)) ∧ h p12 = some ((28, a), gI D 64 (aM M)) ∧ h p13 = some ((29, a), gI D 1024 (aK M)) ∧ h p14 = some ((30, a), gI D 1024 (aX M))
def P_MD : Nat → Nat × Nat → Prop := fun _ t => 20 ≤ t.1 ∧ t.1 ≤ 39
theorem isMD.kp {D : va_G} {h h' : gH} {a : Nat} {M : Mdl} {P : Nat → Nat × Nat → Prop} (hm : isMD D h a M) (hk : kp P h h') (hn : ∀ (q : Nat) (t : Nat × Nat), 20 ≤ t.1 → t.1 ≤ 39 → ¬ P q t) : isMD D h' a M := by
  obtain ⟨p3, p4, p6, p7, p9, p10, p11, p12, p13, p14, f0, f3, f4, f6, f7, f9, f10, f11, f12, f13, f14⟩ := hm
  have w : ∀ (q k x : Nat) (e : va_E), h q = some ((k, x), e) → 20 ≤ k → k ≤ 39 → h' q = some ((k, x), e) := fun q k x e hq h1 h2 => hk _ _ hq (hn _ _ h1 h2)
  exact ⟨p3, p4, p6, p7, p9, p10, p11, p12, p13, p14, w _ _ _ _ f0 (by decide) (by decide), w _ _ _ _ f3 (by decide) (by decide), w _ _ _ _ f4 (by decide) (by decide), w _ _ _ _ f6 (by decide) (by decide), w _ _ _ _ f7 (by decide) (by decide), w _ _ _ _ f9 (by decide) (by decide), w _ _ _ _ f10 (by decide) (by decide), w _ _ _ _ f11 (by decide) (by decide), w _ _ _ _ f12 (by decide) (by decide), w _ _ _ _ f13 (by decide) (by decide), w _ _ _ _ f14 (by decide) (by decide)⟩
/-- where a block begins in the reference's rows -/
def beg (bs : Nat → Blk) : Nat → Nat
  | 0 => 0
  | n + 1 => beg bs n + bP (bs n) + 1
theorem beg_le (bs : Nat → Blk) {b : Nat} : ∀ {n : Nat}, b ≤ n → beg bs b ≤ beg bs n
  | 0, h => by rw [Nat.le_zero.mp h]; exact Nat.le_refl _
  | n + 1, h => by
    by_cases e : b = n + 1
    · rw [e]; exact Nat.le_refl _
    · have := beg_le bs (show b ≤ n by omega)
      show _ ≤ beg bs n + bP (bs n) + 1
      omega
theorem beg_lt (bs : Nat → Blk) {b n : Nat} (h : b < n) : beg bs b + bP (bs b) < beg bs n := by
  have := beg_le bs (show b + 1 ≤ n from h)
  have e : beg bs (b + 1) = beg bs b + bP (bs b) + 1 := rfl
  omega
/-- the reference holds these blocks -/
def mV (M : Mdl) (n : Nat) (bs : Nat → Blk) : Prop := mN M = n ∧ n ≤ 1024 ∧ mU M = beg bs n ∧ beg bs n ≤ n + 16384 ∧ ∀ b, b < n → aP M b = bP (bs b) ∧ aB M b = beg bs b ∧ ∀ k, k ≤ bP (bs b) → aY M (beg bs b + k) = bB (bs b) k ∧ aG M (beg bs b + k) = bG (bs b) k
/-- .. these layers -/
def mL (M : Mdl) (n yn : Nat) (ys : Nat → Lay) : Prop := mY M = yn ∧ yn ≤ 64 ∧ ∀ j, j < yn → aT M j = (ys j).2.2.1 ∧ aL M j = (ys j).2.2.2.1 ∧ aM M j = (ys j).2.2.2.2 ∧ ∀ b, b < n → aC M (1024 * j + b) = (ys j).2.1 b
def eN (k : Nat) : Int := if k = 0 then -1 else k
/-- the end of a step from j, looked for up to k; 0: none -/
def sfr (b : Blk) (j : Nat) : Nat → Nat
  | 0 => 0
  | k + 1 => if j < k + 1 ∧ 0 < bG b (k + 1) - bG b j ∧ (sfr b j k = 0 ∨ (bG b (sfr b j k) - bG b j) * (bB b (k + 1) - bB b j) ≤ (bG b (k + 1) - bG b j) * (bB b (sfr b j k) - bB b j)) then k + 1 else sfr b j k
theorem sfr_t {b : Blk} {j k : Nat} (h1 : j < k + 1) (h2 : 0 < bG b (k + 1) - bG b j) (h3 : sfr b j k = 0 ∨ (bG b (sfr b j k) - bG b j) * (bB b (k + 1) - bB b j) ≤ (bG b (k + 1) - bG b j) * (bB b (sfr b j k) - bB b j)) : sfr b j (k + 1) = k + 1 := if_pos ⟨h1, h2, h3⟩
theorem sfr_f {b : Blk} {j k : Nat} (h : ¬ (j < k + 1 ∧ 0 < bG b (k + 1) - bG b j ∧ (sfr b j k = 0 ∨ (bG b (sfr b j k) - bG b j) * (bB b (k + 1) - bB b j) ≤ (bG b (k + 1) - bG b j) * (bB b (sfr b j k) - bB b j)))) : sfr b j (k + 1) = sfr b j k := if_neg h
theorem sfr_0 {b : Blk} {j : Nat} : ∀ {k : Nat}, k ≤ j → sfr b j k = 0
  | 0, _ => rfl
  | k + 1, h => (sfr_f (fun z => by omega)).trans (sfr_0 (Nat.le_of_succ_le h))
theorem sfr_le {b : Blk} {j : Nat} : ∀ {k : Nat}, sfr b j k ≤ k
  | 0 => Nat.le_refl 0
  | k + 1 => by
    unfold sfr
    split
    · exact Nat.le_refl _
    · exact Nat.le_succ_of_le sfr_le
theorem sfr_gt {b : Blk} {j : Nat} : ∀ {k : Nat}, sfr b j k ≠ 0 → j < sfr b j k ∧ bG b j < bG b (sfr b j k)
  | 0, h => absurd rfl h
  | k + 1, h => by
    unfold sfr at h ⊢
    split
    · rename_i z
      exact ⟨z.1, by have := z.2.1; omega⟩
    · rename_i z
      rw [if_neg z] at h
      exact sfr_gt h
/-- the corners are those of the steps -/
def chn (b : Blk) : Prop := (∀ s, s < bS b → sfr b (bC b s) (bP b) = bC b (s + 1)) ∧ sfr b (bC b (bS b)) (bP b) = 0
theorem sfr_congr {b b' : Blk} (h1 : bB b = bB b') (h2 : bG b = bG b') (j : Nat) : ∀ k, sfr b j k = sfr b' j k
  | 0 => rfl
  | k + 1 => by
    unfold sfr
    rw [sfr_congr h1 h2 j k, h1, h2]
theorem chn_congr {b b' : Blk} (h : chn b) (h1 : bB b = bB b') (h2 : bG b = bG b') (h3 : bC b = bC b') (h4 : bP b = bP b') (h5 : bS b = bS b') : chn b' := by
  unfold chn at h ⊢
  rw [← h3, ← h4, ← h5]
  exact ⟨fun s hs => (sfr_congr h1 h2 _ _).symm.trans (h.1 s hs), (sfr_congr h1 h2 _ _).symm.trans h.2⟩
/-- a block in good order, and its steps the right ones -/
def wfC (b : Blk) : Prop := wfB b ∧ chn b ∧ (bT b = bS b → bL b = bC b (bS b) ∨ bL b = bP b) ∧ ∀ j, j ≤ bP b → -(274877906944 * (j : Int)) ≤ bG b j ∧ bG b j ≤ 274877906944 * (j : Int)
theorem wfC.up {b : Blk} (h : wfC b) {s : Nat} (hs : s < bS b) : bG b (bC b s) < bG b (bC b (s + 1)) := by
  have e := h.2.1.1 s hs
  have z := (h.1.2.2.1 s hs).1
  have y := sfr_gt (b := b) (j := bC b s) (k := bP b) (by rw [e]; omega)
  rw [e] at y
  exact y.2
theorem wfC.cle {b : Blk} (h : wfC b) {s : Nat} (hs : s ≤ bS b) : bC b s ≤ bP b := by
  cases s with
  | zero => rw [h.1.2.1]; exact Nat.zero_le _
  | succ s => exact (h.1.2.2.1 s hs).2
theorem wfC.nx {b : Blk} (h : wfC b) : sfr b (bL b) (bP b) = if bT b < bS b then bC b (bT b + 1) else 0 := by
  by_cases z : bT b < bS b
  · rw [if_pos z, h.1.2.2.2 z]
    exact h.2.1.1 _ z
  · rw [if_neg z]
    have e : bT b = bS b := by have := h.1.1.2.2.1; omega
    rcases h.2.2.1 e with y | y
    · rw [y]; exact h.2.1.2
    · rw [y]; exact sfr_0 (Nat.le_refl _)
theorem wfC_rst {b : Blk} (h : wfC b) : wfC (rst b) := ⟨wfB_rst h.1, chn_congr h.2.1 rfl rfl rfl rfl rfl, fun z => Or.inl (by
  have e : 0 = bS b := z
  show 0 = bC b (bS b)
  rw [← e]
  exact h.1.2.1.symm), h.2.2.2⟩
theorem wfC_tka {b : Blk} (h : wfC b) : wfC (tka b) := ⟨wfB_tka h.1, chn_congr h.2.1 rfl rfl rfl rfl rfl, fun _ => Or.inr rfl, h.2.2.2⟩
theorem wfC_tkn {b : Blk} (h : wfC b) (ht : bT b < bS b) : wfC (tkn b) := ⟨wfB_tkn h.1 ht, chn_congr h.2.1 rfl rfl rfl rfl rfl, fun z => Or.inl (by
  have e : bT b + 1 = bS b := z
  show bC b (bT b + 1) = bC b (bS b)
  rw [e]), h.2.2.2⟩
theorem wfC_tkS {b : Blk} {sg sb : Int} (h : wfC b) : wfC (tkS sg sb b) := by
  unfold tkS
  split
  · rename_i z
    exact wfC_tkn h z.1
  · exact h
/-- the reference's cut and next of these blocks -/
def cV (M : Mdl) (n : Nat) (bs : Nat → Blk) : Prop := ∀ b, b < n → aK M b = bL (bs b) ∧ aX M b = if bT (bs b) < bS (bs b) then (bC (bs b) (bT (bs b) + 1) : Int) else -1
end
section
theorem cmpZ_bd (a b : Int) : -1 ≤ cmpZ a b ∧ cmpZ a b ≤ 1 := by
  unfold cmpZ
  split
  · omega
  · split <;> omega
theorem cmpZ_self (a : Int) : cmpZ a a = 0 := cmpZ_eq.mpr rfl
theorem cR0 {g n k m : Int} (h : n = 0 ∨ m = 0) (e : n = m) : cmpZ (g * m) (k * n) = 0 := by
  obtain rfl : n = 0 := by omega
  subst e
  rw [Int.mul_zero, Int.mul_zero]
  exact cmpZ_self _
theorem cR1 {g n k m : Int} (e : n = 0) (hm : 0 < m) (hg : 0 < g) : cmpZ (g * m) (k * n) = 1 := by
  subst e
  rw [Int.mul_zero]
  have z := cmpZ_gt.mpr (Int.mul_pos hg hm)
  have y := cmpZ_bd (g * m) 0
  omega
theorem cR2 {g n k m : Int} (hn : 0 < n) (e : m = 0) (hk : 0 < k) : cmpZ (g * m) (k * n) = -1 := by
  subst e
  rw [Int.mul_zero]
  have z := Int.mul_pos hk hn
  have y := cmpZ_bd 0 (k * n)
  have x : ¬ 0 ≤ cmpZ 0 (k * n) := fun w => by have := cmpZ_ge.mp w; omega
  omega
def thr (f g : Int) : Int := if f ≠ 0 then 1 else if g ≠ 0 then 2 else 0
theorem thr_1 {f g : Int} (h : f ≠ 0) : thr f g = 1 := if_pos h
theorem thr_2 {f g : Int} (h : f = 0) (h2 : g ≠ 0) : thr f g = 2 := (if_neg (fun z => z h)).trans (if_pos h2)
theorem thr_0 {f g : Int} (h : f = 0) (h2 : g = 0) : thr f g = 0 := (if_neg (fun z => z h)).trans (if_neg (fun z => z h2))
theorem kp_MD_LB {D : va_G} {h h' : gH} {x : Nat} {A Y : List Nat} {bs : Nat → Blk} {ys : Nat → Lay} {pn tb : Int} (hx : isLB D h x A bs Y ys pn tb) (hk : kp P_MD h h') : isLB D h' x A bs Y ys pn tb := by
  obtain ⟨bl, yl, hx⟩ := hx
  refine ⟨bl, yl, LBb_kp hx hk (fun q t _ hc z => ?_)⟩
  have z1 := z.1
  rcases hc with y | y | y | y | y | y | y <;> omega
theorem kp_LB_MD {D : va_G} {h h' : gH} {a : Nat} {M : Mdl} (hm : isMD D h a M) (hk : kp P_LB h h') : isMD D h' a M := hm.kp hk (fun q t h1 h2 z => by have := z.2; omega)

set_option maxHeartbeats 4000000 in
set_option maxRecDepth 100000 in
theorem c_MD_out {D : va_G} {s0 : State} {l : Launch} {h : gH} (B0 : gB D s0) {i x y : Int} (hi : i_ok i) (hx : i_ok x) (hy : i_ok y) : gMet D s0 l y_MD_out b_MD_out 3 (some .boolean) ({ frames := 0, cells := 0, slots := 0, locals := 0 } : Room) [.int (iZ (i)), .int (iZ (x)), .int (iZ (y))] h (fun v h' => some (.int (iZ (if i < x ∨ y < i then 1 else 0))) = v ∧ h = h') := by
  obtain ⟨hi1, hi2⟩ := id hi
  obtain ⟨hx1, hx2⟩ := id hx
  obtain ⟨hy1, hy2⟩ := id hy
  refine g_enter B0 (plainFor_of_name (by decide)) (Nat.le_of_ble_eq_true rfl) (fun p e s m below meth c ls X hnm hl => ?_)
  have hl : lv_has ls 3 [(0, .int (iZ (i))), (1, .int (iZ (x))), (2, .int (iZ (y)))] := hl
  refine g_1 (fun w => lv_iload_n X.1 X.2.1 d_MD_out_0 rfl (lv_at hl 0 rfl) w) ?_
  refine g_1 (fun w => lv_iload_n X.1 X.2.1 d_MD_out_1 rfl (lv_at hl 1 rfl) w) ?_
  refine g_icmp_lt (tgt := 10) X (by first | exact ⟨by omega, by omega⟩ | (split <;> exact ⟨by omega, by omega⟩) | exact cmpZ_ok _ _ | exact mul_ok (by omega) (by omega) (by omega) (by omega)) (by first | exact ⟨by omega, by omega⟩ | (split <;> exact ⟨by omega, by omega⟩) | exact cmpZ_ok _ _ | exact mul_ok (by omega) (by omega) (by omega) (by omega)) d_MD_out_2 (by decide) (fun c2 => ?_) (fun c2 => ?_)
  · refine g_1 (fun w => lv_iconst (v := iZ 1) X.1 X.2.1 d_MD_out_10 rfl w) ?_
    refine g_goto (tgt := 15) X d_MD_out_11 (by decide) ?_
    exact g_zret X rfl (⟨g_ei (by split <;> omega), rfl⟩) (by decide) (by decide) d_MD_out_15
  · refine g_1 (fun w => lv_iload_n X.1 X.2.1 d_MD_out_5 rfl (lv_at hl 0 rfl) w) ?_
    refine g_1 (fun w => lv_iload_n X.1 X.2.1 d_MD_out_6 rfl (lv_at hl 2 rfl) w) ?_
    refine g_icmp_le (tgt := 14) X (by first | exact ⟨by omega, by omega⟩ | (split <;> exact ⟨by omega, by omega⟩) | exact cmpZ_ok _ _ | exact mul_ok (by omega) (by omega) (by omega) (by omega)) (by first | exact ⟨by omega, by omega⟩ | (split <;> exact ⟨by omega, by omega⟩) | exact cmpZ_ok _ _ | exact mul_ok (by omega) (by omega) (by omega) (by omega)) d_MD_out_7 (by decide) (fun c7 => ?_) (fun c7 => ?_)
    · refine g_1 (fun w => lv_iconst (v := iZ 0) X.1 X.2.1 d_MD_out_14 rfl w) ?_
      exact g_zret X rfl (⟨g_ei (by split <;> omega), rfl⟩) (by decide) (by decide) d_MD_out_15
    · refine g_1 (fun w => lv_iconst (v := iZ 1) X.1 X.2.1 d_MD_out_10 rfl w) ?_
      refine g_goto (tgt := 15) X d_MD_out_11 (by decide) ?_
      exact g_zret X rfl (⟨g_ei (by split <;> omega), rfl⟩) (by decide) (by decide) d_MD_out_15

set_option maxHeartbeats 4000000 in
set_option maxRecDepth 100000 in
theorem c_MD_compare {D : va_G} {s0 : State} {l : Launch} {h : gH} (B0 : gB D s0) {g n k q : Int} (hg : 0 < g) (hg2 : g ≤ 65970697666560) (hn : 0 ≤ n) (hn2 : n ≤ 65535) (hk : 0 < k) (hk2 : k ≤ 65970697666560) (hq : 0 ≤ q) (hq2 : q ≤ 65535) : gMet D s0 l y_MD_compare b_MD_compare 10 (some .int) ({ frames := 0, cells := 0, slots := 0, locals := 0 } : Room) [.long (lZ (g)), .int (iZ (n)), .long (lZ (k)), .int (iZ (q))] h (fun v h' => some (.int (iZ (cmpZ (g * q) (k * n)))) = v ∧ h = h') := by
  refine g_enter B0 (plainFor_of_name (by decide)) (Nat.le_of_ble_eq_true rfl) (fun p e s m below meth c ls X hnm hl => ?_)
  have hl : lv_has ls 10 [(0, .long (lZ (g))), (2, .int (iZ (n))), (3, .long (lZ (k))), (5, .int (iZ (q)))] := hl
  refine g_1 (fun w => lv_iload_n X.1 X.2.1 d_MD_compare_0 rfl (lv_at hl 1 rfl) w) ?_
  refine g_if_eq (tgt := 9) X (by first | exact ⟨by omega, by omega⟩ | (split <;> exact ⟨by omega, by omega⟩) | exact cmpZ_ok _ _ | exact mul_ok (by omega) (by omega) (by omega) (by omega)) d_MD_compare_1 (by decide) (fun c1 => ?_) (fun c1 => ?_)
  · refine g_1 (fun w => lv_iload_n X.1 X.2.1 d_MD_compare_9 rfl (lv_at hl 1 rfl) w) ?_
    refine g_1 (fun w => lv_iload X.1 X.2.1 d_MD_compare_10 (lv_at hl 3 rfl) w) ?_
    refine g_icmp_ne (tgt := 19) X (by first | exact ⟨by omega, by omega⟩ | (split <;> exact ⟨by omega, by omega⟩) | exact cmpZ_ok _ _ | exact mul_ok (by omega) (by omega) (by omega) (by omega)) (by first | exact ⟨by omega, by omega⟩ | (split <;> exact ⟨by omega, by omega⟩) | exact cmpZ_ok _ _ | exact mul_ok (by omega) (by omega) (by omega) (by omega)) d_MD_compare_12 (by decide) (fun c12 => ?_) (fun c12 => ?_)
    · refine g_1 (fun w => lv_iload_n X.1 X.2.1 d_MD_compare_19 rfl (lv_at hl 1 rfl) w) ?_
      refine g_if_ne (tgt := 27) X (by first | exact ⟨by omega, by omega⟩ | (split <;> exact ⟨by omega, by omega⟩) | exact cmpZ_ok _ _ | exact mul_ok (by omega) (by omega) (by omega) (by omega)) d_MD_compare_20 (by decide) (fun c20 => ?_) (fun c20 => ?_)
      · refine g_1 (fun w => lv_iconst (v := iZ (-1)) X.1 X.2.1 d_MD_compare_27 rfl w) ?_
        exact g_iret X (⟨g_ei (cR2 (by omega) (by omega) hk), rfl⟩) (by decide) (by decide) d_MD_compare_28
      · refine g_1 (fun w => lv_iconst (v := iZ 1) X.1 X.2.1 d_MD_compare_23 rfl w) ?_
        refine g_goto (tgt := 28) X d_MD_compare_24 (by decide) ?_
        exact g_iret X (⟨g_ei (cR1 c20 (by omega) hg), rfl⟩) (by decide) (by decide) d_MD_compare_28
    · refine g_1 (fun w => lv_iconst (v := iZ 0) X.1 X.2.1 d_MD_compare_15 rfl w) ?_
      refine g_goto (tgt := 28) X d_MD_compare_16 (by decide) ?_
      exact g_iret X (⟨g_ei (cR0 (by omega) c12), rfl⟩) (by decide) (by decide) d_MD_compare_28
  · refine g_1 (fun w => lv_iload X.1 X.2.1 d_MD_compare_4 (lv_at hl 3 rfl) w) ?_
    refine g_if_ne (tgt := 29) X (by first | exact ⟨by omega, by omega⟩ | (split <;> exact ⟨by omega, by omega⟩) | exact cmpZ_ok _ _ | exact mul_ok (by omega) (by omega) (by omega) (by omega)) d_MD_compare_6 (by decide) (fun c6 => ?_) (fun c6 => ?_)
    · refine g_1 (fun w => lv_lload_n X.1 X.2.1 d_MD_compare_29 rfl (lv_at hl 0 rfl) w) ?_
      refine g_1 (fun w => lv_iload X.1 X.2.1 d_MD_compare_30 (lv_at hl 3 rfl) w) ?_
      refine g_i2l X (by first | exact ⟨by omega, by omega⟩ | (split <;> exact ⟨by omega, by omega⟩) | exact cmpZ_ok _ _ | exact mul_ok (by omega) (by omega) (by omega) (by omega)) d_MD_compare_32 ?_
      refine g_lmul X d_MD_compare_33 ?_
      refine g_s (fun kk => lv_lstore (lv' := [(6, .long (lZ (g * q))), (0, .long (lZ (g))), (2, .int (iZ (n))), (3, .long (lZ (k))), (5, .int (iZ (q)))]) X.1 X.2.1 d_MD_compare_34 hl (by decide) rfl kk) (fun ls hl => ?_)
      refine g_1 (fun w => lv_lload_n X.1 X.2.1 d_MD_compare_36 rfl (lv_at hl 3 rfl) w) ?_
      refine g_1 (fun w => lv_iload_n X.1 X.2.1 d_MD_compare_37 rfl (lv_at hl 2 rfl) w) ?_
      refine g_i2l X (by first | exact ⟨by omega, by omega⟩ | (split <;> exact ⟨by omega, by omega⟩) | exact cmpZ_ok _ _ | exact mul_ok (by omega) (by omega) (by omega) (by omega)) d_MD_compare_38 ?_
      refine g_lmul X d_MD_compare_39 ?_
      refine g_s (fun kk => lv_lstore (lv' := [(8, .long (lZ (k * n))), (6, .long (lZ (g * q))), (0, .long (lZ (g))), (2, .int (iZ (n))), (3, .long (lZ (k))), (5, .int (iZ (q)))]) X.1 X.2.1 d_MD_compare_40 hl (by decide) rfl kk) (fun ls hl => ?_)
      refine g_1 (fun w => lv_lload X.1 X.2.1 d_MD_compare_42 (lv_at hl 1 rfl) w) ?_
      refine g_1 (fun w => lv_lload X.1 X.2.1 d_MD_compare_44 (lv_at hl 0 rfl) w) ?_
      refine g_lcmp X (by first | exact ⟨by omega, by omega⟩ | (split <;> exact ⟨by omega, by omega⟩) | exact cmpZ_ok _ _ | exact mul_ok (by omega) (by omega) (by omega) (by omega)) (by first | exact ⟨by omega, by omega⟩ | (split <;> exact ⟨by omega, by omega⟩) | exact cmpZ_ok _ _ | exact mul_ok (by omega) (by omega) (by omega) (by omega)) d_MD_compare_46 ?_
      refine g_if_ge (tgt := 54) X (cmpZ_ok _ _) d_MD_compare_47 (by decide) (fun c47 => ?_) (fun c47 => ?_)
      · refine g_1 (fun w => lv_lload X.1 X.2.1 d_MD_compare_54 (lv_at hl 1 rfl) w) ?_
        refine g_1 (fun w => lv_lload X.1 X.2.1 d_MD_compare_56 (lv_at hl 0 rfl) w) ?_
        refine g_lcmp X (by first | exact ⟨by omega, by omega⟩ | (split <;> exact ⟨by omega, by omega⟩) | exact cmpZ_ok _ _ | exact mul_ok (by omega) (by omega) (by omega) (by omega)) (by first | exact ⟨by omega, by omega⟩ | (split <;> exact ⟨by omega, by omega⟩) | exact cmpZ_ok _ _ | exact mul_ok (by omega) (by omega) (by omega) (by omega)) d_MD_compare_58 ?_
        refine g_if_le (tgt := 66) X (cmpZ_ok _ _) d_MD_compare_59 (by decide) (fun c59 => ?_) (fun c59 => ?_)
        · refine g_1 (fun w => lv_iconst (v := iZ 0) X.1 X.2.1 d_MD_compare_66 rfl w) ?_
          exact g_iret X (⟨g_ei (by have z := cmpZ_bd (g * q) (k * n); omega), rfl⟩) (by decide) (by decide) d_MD_compare_67
        · refine g_1 (fun w => lv_iconst (v := iZ 1) X.1 X.2.1 d_MD_compare_62 rfl w) ?_
          refine g_goto (tgt := 67) X d_MD_compare_63 (by decide) ?_
          exact g_iret X (⟨g_ei (by have z := cmpZ_bd (g * q) (k * n); omega), rfl⟩) (by decide) (by decide) d_MD_compare_67
      · refine g_1 (fun w => lv_iconst (v := iZ (-1)) X.1 X.2.1 d_MD_compare_50 rfl w) ?_
        refine g_goto (tgt := 67) X d_MD_compare_51 (by decide) ?_
        exact g_iret X (⟨g_ei (by have z := cmpZ_bd (g * q) (k * n); omega), rfl⟩) (by decide) (by decide) d_MD_compare_67
    · refine g_1 (fun w => lv_iload_n X.1 X.2.1 d_MD_compare_9 rfl (lv_at hl 1 rfl) w) ?_
      refine g_1 (fun w => lv_iload X.1 X.2.1 d_MD_compare_10 (lv_at hl 3 rfl) w) ?_
      refine g_icmp_ne (tgt := 19) X (by first | exact ⟨by omega, by omega⟩ | (split <;> exact ⟨by omega, by omega⟩) | exact cmpZ_ok _ _ | exact mul_ok (by omega) (by omega) (by omega) (by omega)) (by first | exact ⟨by omega, by omega⟩ | (split <;> exact ⟨by omega, by omega⟩) | exact cmpZ_ok _ _ | exact mul_ok (by omega) (by omega) (by omega) (by omega)) d_MD_compare_12 (by decide) (fun c12 => ?_) (fun c12 => ?_)
      · refine g_1 (fun w => lv_iload_n X.1 X.2.1 d_MD_compare_19 rfl (lv_at hl 1 rfl) w) ?_
        refine g_if_ne (tgt := 27) X (by first | exact ⟨by omega, by omega⟩ | (split <;> exact ⟨by omega, by omega⟩) | exact cmpZ_ok _ _ | exact mul_ok (by omega) (by omega) (by omega) (by omega)) d_MD_compare_20 (by decide) (fun c20 => ?_) (fun c20 => ?_)
        · refine g_1 (fun w => lv_iconst (v := iZ (-1)) X.1 X.2.1 d_MD_compare_27 rfl w) ?_
          exact g_iret X (⟨g_ei (cR2 (by omega) (by omega) hk), rfl⟩) (by decide) (by decide) d_MD_compare_28
        · refine g_1 (fun w => lv_iconst (v := iZ 1) X.1 X.2.1 d_MD_compare_23 rfl w) ?_
          refine g_goto (tgt := 28) X d_MD_compare_24 (by decide) ?_
          exact g_iret X (⟨g_ei (cR1 c20 (by omega) hg), rfl⟩) (by decide) (by decide) d_MD_compare_28
      · refine g_1 (fun w => lv_iconst (v := iZ 0) X.1 X.2.1 d_MD_compare_15 rfl w) ?_
        refine g_goto (tgt := 28) X d_MD_compare_16 (by decide) ?_
        exact g_iret X (⟨g_ei (cR0 (by omega) c12), rfl⟩) (by decide) (by decide) d_MD_compare_28

set_option maxHeartbeats 4000000 in
set_option maxRecDepth 100000 in
theorem c_MD_thrown {D : va_G} {s0 : State} {l : Launch} {h : gH} (B0 : gB D s0) {a : Nat} {M : Mdl} (hm : isMD D h a M) : gMet D s0 l y_MD_thrown b_MD_thrown 1 (some .int) ({ frames := 0, cells := 0, slots := 0, locals := 0 } : Room) [.ref a] h (fun v h' => some (.int (iZ (mT M))) = v ∧ h = h') := by
  obtain ⟨p3, p4, p6, p7, p9, p10, p11, p12, p13, p14, f0, f3, f4, f6, f7, f9, f10, f11, f12, f13, f14⟩ := id hm
  refine g_enter B0 (plainFor_of_name (by decide)) (Nat.le_of_ble_eq_true rfl) (fun p e s m below meth c ls X hnm hl => ?_)
  have hl : lv_has ls 1 [(0, .ref a)] := hl
  refine g_1 (fun w => lv_aload_n X.1 X.2.1 d_MD_thrown_0 rfl (lv_at hl 0 rfl) w) ?_
  refine g_get X (ci := 4) rfl f0 0 (by decide) ⟨rfl, rfl⟩ tw_502 (Or.inl rfl) rfl d_MD_thrown_1 ?_
  exact g_iret X (⟨rfl, rfl⟩) (by decide) (by decide) d_MD_thrown_4

set_option maxHeartbeats 4000000 in
set_option maxRecDepth 100000 in
theorem c_MD_clear {D : va_G} {s0 : State} {l : Launch} {h : gH} (B0 : gB D s0) {a : Nat} {M : Mdl} (hm : isMD D h a M) : gMet D s0 l y_MD_clear b_MD_clear 1 none ({ frames := 0, cells := 0, slots := 0, locals := 0 } : Room) [.ref a] h (fun v h' => none = v ∧ isMD D h' a (0, 0, 0, 0, 0, M.2.2.2.2.2) ∧ kp P_MD h h') := by
  obtain ⟨p3, p4, p6, p7, p9, p10, p11, p12, p13, p14, f0, f3, f4, f6, f7, f9, f10, f11, f12, f13, f14⟩ := id hm
  refine g_enter B0 (plainFor_of_name (by decide)) (Nat.le_of_ble_eq_true rfl) (fun p e s m below meth c ls X hnm hl => ?_)
  have hl : lv_has ls 1 [(0, .ref a)] := hl
  refine g_1 (fun w => lv_aload_n X.1 X.2.1 d_MD_clear_0 rfl (lv_at hl 0 rfl) w) ?_
  refine g_1 (fun w => lv_iconst (v := iZ 0) X.1 X.2.1 d_MD_clear_1 rfl w) ?_
  refine g_put X (ci := 4) rfl f0 (Nat.succ_ne_zero _) 0 (by decide) ⟨rfl, rfl⟩ tw_502 (Or.inl rfl) rfl rfl rfl (Nat.le_of_ble_eq_true rfl) d_MD_clear_2 ?_
  obtain ⟨h_1, eh_1⟩ : ∃ z, z = g_up h a ((20, 0), .inr (4, [.int (iZ (0)), .int (iZ (mN M)), .int (iZ (mA M)), .ref p3, .ref p4, .int (iZ (mU M)), .ref p6, .ref p7, .int (iZ (mY M)), .ref p9, .ref p10, .ref p11, .ref p12, .ref p13, .ref p14])) := ⟨_, rfl⟩
  refine g_h (h' := h_1) eh_1.symm ?_
  have f_2 : h_1 a = some ((20, 0), .inr (4, [.int (iZ (0)), .int (iZ (mN M)), .int (iZ (mA M)), .ref p3, .ref p4, .int (iZ (mU M)), .ref p6, .ref p7, .int (iZ (mY M)), .ref p9, .ref p10, .ref p11, .ref p12, .ref p13, .ref p14])) := by rw [eh_1]; exact g_us
  have f_3 : h_1 p3 = some ((21, a), gI D 1024 (aP M)) := by rw [eh_1]; exact g_uk f3 f0 (show (21 : Nat) ≠ 20 by decide)
  have f_4 : h_1 p4 = some ((22, a), gI D 1024 (aB M)) := by rw [eh_1]; exact g_uk f4 f0 (show (22 : Nat) ≠ 20 by decide)
  have f_5 : h_1 p6 = some ((23, a), gI D 17408 (aY M)) := by rw [eh_1]; exact g_uk f6 f0 (show (23 : Nat) ≠ 20 by decide)
  have f_6 : h_1 p7 = some ((24, a), gL D 17408 (aG M)) := by rw [eh_1]; exact g_uk f7 f0 (show (24 : Nat) ≠ 20 by decide)
  have f_7 : h_1 p9 = some ((25, a), gI D 65536 (aC M)) := by rw [eh_1]; exact g_uk f9 f0 (show (25 : Nat) ≠ 20 by decide)
  have f_8 : h_1 p10 = some ((26, a), gI D 64 (aT M)) := by rw [eh_1]; exact g_uk f10 f0 (show (26 : Nat) ≠ 20 by decide)
  have f_9 : h_1 p11 = some ((27, a), gL D 64 (aL M)) := by rw [eh_1]; exact g_uk f11 f0 (show (27 : Nat) ≠ 20 by decide)
  have f_10 : h_1 p12 = some ((28, a), gI D 64 (aM M)) := by rw [eh_1]; exact g_uk f12 f0 (show (28 : Nat) ≠ 20 by decide)
  have f_11 : h_1 p13 = some ((29, a), gI D 1024 (aK M)) := by rw [eh_1]; exact g_uk f13 f0 (show (29 : Nat) ≠ 20 by decide)
  have f_12 : h_1 p14 = some ((30, a), gI D 1024 (aX M)) := by rw [eh_1]; exact g_uk f14 f0 (show (30 : Nat) ≠ 20 by decide)
  have hk_13 := kp_up (kp_rf (P := P_MD) (h := h)) eh_1 f0 (⟨Nat.le_of_ble_eq_true rfl, Nat.le_of_ble_eq_true rfl⟩)
  refine g_1 (fun w => lv_aload_n X.1 X.2.1 d_MD_clear_5 rfl (lv_at hl 0 rfl) w) ?_
  refine g_1 (fun w => lv_iconst (v := iZ 0) X.1 X.2.1 d_MD_clear_6 rfl w) ?_
  refine g_put X (ci := 4) rfl f_2 (Nat.succ_ne_zero _) 1 (by decide) ⟨rfl, rfl⟩ tw_503 (Or.inl rfl) rfl rfl rfl (Nat.le_of_ble_eq_true rfl) d_MD_clear_7 ?_
  obtain ⟨h_14, eh_14⟩ : ∃ z, z = g_up h_1 a ((20, 0), .inr (4, [.int (iZ (0)), .int (iZ (0)), .int (iZ (mA M)), .ref p3, .ref p4, .int (iZ (mU M)), .ref p6, .ref p7, .int (iZ (mY M)), .ref p9, .ref p10, .ref p11, .ref p12, .ref p13, .ref p14])) := ⟨_, rfl⟩
  refine g_h (h' := h_14) eh_14.symm ?_
  have f_15 : h_14 a = some ((20, 0), .inr (4, [.int (iZ (0)), .int (iZ (0)), .int (iZ (mA M)), .ref p3, .ref p4, .int (iZ (mU M)), .ref p6, .ref p7, .int (iZ (mY M)), .ref p9, .ref p10, .ref p11, .ref p12, .ref p13, .ref p14])) := by rw [eh_14]; exact g_us
  have f_16 : h_14 p3 = some ((21, a), gI D 1024 (aP M)) := by rw [eh_14]; exact g_uk f_3 f_2 (show (21 : Nat) ≠ 20 by decide)
  have f_17 : h_14 p4 = some ((22, a), gI D 1024 (aB M)) := by rw [eh_14]; exact g_uk f_4 f_2 (show (22 : Nat) ≠ 20 by decide)
  have f_18 : h_14 p6 = some ((23, a), gI D 17408 (aY M)) := by rw [eh_14]; exact g_uk f_5 f_2 (show (23 : Nat) ≠ 20 by decide)
  have f_19 : h_14 p7 = some ((24, a), gL D 17408 (aG M)) := by rw [eh_14]; exact g_uk f_6 f_2 (show (24 : Nat) ≠ 20 by decide)
  have f_20 : h_14 p9 = some ((25, a), gI D 65536 (aC M)) := by rw [eh_14]; exact g_uk f_7 f_2 (show (25 : Nat) ≠ 20 by decide)
  have f_21 : h_14 p10 = some ((26, a), gI D 64 (aT M)) := by rw [eh_14]; exact g_uk f_8 f_2 (show (26 : Nat) ≠ 20 by decide)
  have f_22 : h_14 p11 = some ((27, a), gL D 64 (aL M)) := by rw [eh_14]; exact g_uk f_9 f_2 (show (27 : Nat) ≠ 20 by decide)
  have f_23 : h_14 p12 = some ((28, a), gI D 64 (aM M)) := by rw [eh_14]; exact g_uk f_10 f_2 (show (28 : Nat) ≠ 20 by decide)
  have f_24 : h_14 p13 = some ((29, a), gI D 1024 (aK M)) := by rw [eh_14]; exact g_uk f_11 f_2 (show (29 : Nat) ≠ 20 by decide)
  have f_25 : h_14 p14 = some ((30, a), gI D 1024 (aX M)) := by rw [eh_14]; exact g_uk f_12 f_2 (show (30 : Nat) ≠ 20 by decide)
  have hk_26 := kp_up (hk_13) eh_14 f_2 (⟨Nat.le_of_ble_eq_true rfl, Nat.le_of_ble_eq_true rfl⟩)
  refine g_1 (fun w => lv_aload_n X.1 X.2.1 d_MD_clear_10 rfl (lv_at hl 0 rfl) w) ?_
  refine g_1 (fun w => lv_iconst (v := iZ 0) X.1 X.2.1 d_MD_clear_11 rfl w) ?_
  refine g_put X (ci := 4) rfl f_15 (Nat.succ_ne_zero _) 2 (by decide) ⟨rfl, rfl⟩ tw_504 (Or.inl rfl) rfl rfl rfl (Nat.le_of_ble_eq_true rfl) d_MD_clear_12 ?_
  obtain ⟨h_27, eh_27⟩ : ∃ z, z = g_up h_14 a ((20, 0), .inr (4, [.int (iZ (0)), .int (iZ (0)), .int (iZ (0)), .ref p3, .ref p4, .int (iZ (mU M)), .ref p6, .ref p7, .int (iZ (mY M)), .ref p9, .ref p10, .ref p11, .ref p12, .ref p13, .ref p14])) := ⟨_, rfl⟩
  refine g_h (h' := h_27) eh_27.symm ?_
  have f_28 : h_27 a = some ((20, 0), .inr (4, [.int (iZ (0)), .int (iZ (0)), .int (iZ (0)), .ref p3, .ref p4, .int (iZ (mU M)), .ref p6, .ref p7, .int (iZ (mY M)), .ref p9, .ref p10, .ref p11, .ref p12, .ref p13, .ref p14])) := by rw [eh_27]; exact g_us
  have f_29 : h_27 p3 = some ((21, a), gI D 1024 (aP M)) := by rw [eh_27]; exact g_uk f_16 f_15 (show (21 : Nat) ≠ 20 by decide)
  have f_30 : h_27 p4 = some ((22, a), gI D 1024 (aB M)) := by rw [eh_27]; exact g_uk f_17 f_15 (show (22 : Nat) ≠ 20 by decide)
  have f_31 : h_27 p6 = some ((23, a), gI D 17408 (aY M)) := by rw [eh_27]; exact g_uk f_18 f_15 (show (23 : Nat) ≠ 20 by decide)
  have f_32 : h_27 p7 = some ((24, a), gL D 17408 (aG M)) := by rw [eh_27]; exact g_uk f_19 f_15 (show (24 : Nat) ≠ 20 by decide)
  have f_33 : h_27 p9 = some ((25, a), gI D 65536 (aC M)) := by rw [eh_27]; exact g_uk f_20 f_15 (show (25 : Nat) ≠ 20 by decide)
  have f_34 : h_27 p10 = some ((26, a), gI D 64 (aT M)) := by rw [eh_27]; exact g_uk f_21 f_15 (show (26 : Nat) ≠ 20 by decide)
  have f_35 : h_27 p11 = some ((27, a), gL D 64 (aL M)) := by rw [eh_27]; exact g_uk f_22 f_15 (show (27 : Nat) ≠ 20 by decide)
  have f_36 : h_27 p12 = some ((28, a), gI D 64 (aM M)) := by rw [eh_27]; exact g_uk f_23 f_15 (show (28 : Nat) ≠ 20 by decide)
  have f_37 : h_27 p13 = some ((29, a), gI D 1024 (aK M)) := by rw [eh_27]; exact g_uk f_24 f_15 (show (29 : Nat) ≠ 20 by decide)
  have f_38 : h_27 p14 = some ((30, a), gI D 1024 (aX M)) := by rw [eh_27]; exact g_uk f_25 f_15 (show (30 : Nat) ≠ 20 by decide)
  have hk_39 := kp_up (hk_26) eh_27 f_15 (⟨Nat.le_of_ble_eq_true rfl, Nat.le_of_ble_eq_true rfl⟩)
  refine g_1 (fun w => lv_aload_n X.1 X.2.1 d_MD_clear_15 rfl (lv_at hl 0 rfl) w) ?_
  refine g_1 (fun w => lv_iconst (v := iZ 0) X.1 X.2.1 d_MD_clear_16 rfl w) ?_
  refine g_put X (ci := 4) rfl f_28 (Nat.succ_ne_zero _) 5 (by decide) ⟨rfl, rfl⟩ tw_507 (Or.inl rfl) rfl rfl rfl (Nat.le_of_ble_eq_true rfl) d_MD_clear_17 ?_
  obtain ⟨h_40, eh_40⟩ : ∃ z, z = g_up h_27 a ((20, 0), .inr (4, [.int (iZ (0)), .int (iZ (0)), .int (iZ (0)), .ref p3, .ref p4, .int (iZ (0)), .ref p6, .ref p7, .int (iZ (mY M)), .ref p9, .ref p10, .ref p11, .ref p12, .ref p13, .ref p14])) := ⟨_, rfl⟩
  refine g_h (h' := h_40) eh_40.symm ?_
  have f_41 : h_40 a = some ((20, 0), .inr (4, [.int (iZ (0)), .int (iZ (0)), .int (iZ (0)), .ref p3, .ref p4, .int (iZ (0)), .ref p6, .ref p7, .int (iZ (mY M)), .ref p9, .ref p10, .ref p11, .ref p12, .ref p13, .ref p14])) := by rw [eh_40]; exact g_us
  have f_42 : h_40 p3 = some ((21, a), gI D 1024 (aP M)) := by rw [eh_40]; exact g_uk f_29 f_28 (show (21 : Nat) ≠ 20 by decide)
  have f_43 : h_40 p4 = some ((22, a), gI D 1024 (aB M)) := by rw [eh_40]; exact g_uk f_30 f_28 (show (22 : Nat) ≠ 20 by decide)
  have f_44 : h_40 p6 = some ((23, a), gI D 17408 (aY M)) := by rw [eh_40]; exact g_uk f_31 f_28 (show (23 : Nat) ≠ 20 by decide)
  have f_45 : h_40 p7 = some ((24, a), gL D 17408 (aG M)) := by rw [eh_40]; exact g_uk f_32 f_28 (show (24 : Nat) ≠ 20 by decide)
  have f_46 : h_40 p9 = some ((25, a), gI D 65536 (aC M)) := by rw [eh_40]; exact g_uk f_33 f_28 (show (25 : Nat) ≠ 20 by decide)
  have f_47 : h_40 p10 = some ((26, a), gI D 64 (aT M)) := by rw [eh_40]; exact g_uk f_34 f_28 (show (26 : Nat) ≠ 20 by decide)
  have f_48 : h_40 p11 = some ((27, a), gL D 64 (aL M)) := by rw [eh_40]; exact g_uk f_35 f_28 (show (27 : Nat) ≠ 20 by decide)
  have f_49 : h_40 p12 = some ((28, a), gI D 64 (aM M)) := by rw [eh_40]; exact g_uk f_36 f_28 (show (28 : Nat) ≠ 20 by decide)
  have f_50 : h_40 p13 = some ((29, a), gI D 1024 (aK M)) := by rw [eh_40]; exact g_uk f_37 f_28 (show (29 : Nat) ≠ 20 by decide)
  have f_51 : h_40 p14 = some ((30, a), gI D 1024 (aX M)) := by rw [eh_40]; exact g_uk f_38 f_28 (show (30 : Nat) ≠ 20 by decide)
  have hk_52 := kp_up (hk_39) eh_40 f_28 (⟨Nat.le_of_ble_eq_true rfl, Nat.le_of_ble_eq_true rfl⟩)
  refine g_1 (fun w => lv_aload_n X.1 X.2.1 d_MD_clear_20 rfl (lv_at hl 0 rfl) w) ?_
  refine g_1 (fun w => lv_iconst (v := iZ 0) X.1 X.2.1 d_MD_clear_21 rfl w) ?_
  refine g_put X (ci := 4) rfl f_41 (Nat.succ_ne_zero _) 8 (by decide) ⟨rfl, rfl⟩ tw_510 (Or.inl rfl) rfl rfl rfl (Nat.le_of_ble_eq_true rfl) d_MD_clear_22 ?_
  obtain ⟨h_53, eh_53⟩ : ∃ z, z = g_up h_40 a ((20, 0), .inr (4, [.int (iZ (0)), .int (iZ (0)), .int (iZ (0)), .ref p3, .ref p4, .int (iZ (0)), .ref p6, .ref p7, .int (iZ (0)), .ref p9, .ref p10, .ref p11, .ref p12, .ref p13, .ref p14])) := ⟨_, rfl⟩
  refine g_h (h' := h_53) eh_53.symm ?_
  have f_54 : h_53 a = some ((20, 0), .inr (4, [.int (iZ (0)), .int (iZ (0)), .int (iZ (0)), .ref p3, .ref p4, .int (iZ (0)), .ref p6, .ref p7, .int (iZ (0)), .ref p9, .ref p10, .ref p11, .ref p12, .ref p13, .ref p14])) := by rw [eh_53]; exact g_us
  have f_55 : h_53 p3 = some ((21, a), gI D 1024 (aP M)) := by rw [eh_53]; exact g_uk f_42 f_41 (show (21 : Nat) ≠ 20 by decide)
  have f_56 : h_53 p4 = some ((22, a), gI D 1024 (aB M)) := by rw [eh_53]; exact g_uk f_43 f_41 (show (22 : Nat) ≠ 20 by decide)
  have f_57 : h_53 p6 = some ((23, a), gI D 17408 (aY M)) := by rw [eh_53]; exact g_uk f_44 f_41 (show (23 : Nat) ≠ 20 by decide)
  have f_58 : h_53 p7 = some ((24, a), gL D 17408 (aG M)) := by rw [eh_53]; exact g_uk f_45 f_41 (show (24 : Nat) ≠ 20 by decide)
  have f_59 : h_53 p9 = some ((25, a), gI D 65536 (aC M)) := by rw [eh_53]; exact g_uk f_46 f_41 (show (25 : Nat) ≠ 20 by decide)
  have f_60 : h_53 p10 = some ((26, a), gI D 64 (aT M)) := by rw [eh_53]; exact g_uk f_47 f_41 (show (26 : Nat) ≠ 20 by decide)
  have f_61 : h_53 p11 = some ((27, a), gL D 64 (aL M)) := by rw [eh_53]; exact g_uk f_48 f_41 (show (27 : Nat) ≠ 20 by decide)
  have f_62 : h_53 p12 = some ((28, a), gI D 64 (aM M)) := by rw [eh_53]; exact g_uk f_49 f_41 (show (28 : Nat) ≠ 20 by decide)
  have f_63 : h_53 p13 = some ((29, a), gI D 1024 (aK M)) := by rw [eh_53]; exact g_uk f_50 f_41 (show (29 : Nat) ≠ 20 by decide)
  have f_64 : h_53 p14 = some ((30, a), gI D 1024 (aX M)) := by rw [eh_53]; exact g_uk f_51 f_41 (show (30 : Nat) ≠ 20 by decide)
  have hk_65 := kp_up (hk_52) eh_53 f_41 (⟨Nat.le_of_ble_eq_true rfl, Nat.le_of_ble_eq_true rfl⟩)
  exact g_vret X (⟨rfl, ⟨p3, p4, p6, p7, p9, p10, p11, p12, p13, p14, f_54, f_55, f_56, f_57, f_58, f_59, f_60, f_61, f_62, f_63, f_64⟩, hk_65⟩) (by decide) (by decide) d_MD_clear_25

set_option maxHeartbeats 4000000 in
set_option maxRecDepth 100000 in
theorem c_MD_layers {D : va_G} {s0 : State} {l : Launch} {h : gH} (B0 : gB D s0) {a : Nat} {M : Mdl} (hm : isMD D h a M) : gMet D s0 l y_MD_layers b_MD_layers 1 (some .int) ({ frames := 0, cells := 0, slots := 0, locals := 0 } : Room) [.ref a] h (fun v h' => some (.int (iZ (mY M))) = v ∧ isMD D h' a (0, M.2) ∧ kp P_MD h h') := by
  obtain ⟨p3, p4, p6, p7, p9, p10, p11, p12, p13, p14, f0, f3, f4, f6, f7, f9, f10, f11, f12, f13, f14⟩ := id hm
  refine g_enter B0 (plainFor_of_name (by decide)) (Nat.le_of_ble_eq_true rfl) (fun p e s m below meth c ls X hnm hl => ?_)
  have hl : lv_has ls 1 [(0, .ref a)] := hl
  refine g_1 (fun w => lv_aload_n X.1 X.2.1 d_MD_layers_0 rfl (lv_at hl 0 rfl) w) ?_
  refine g_1 (fun w => lv_iconst (v := iZ 0) X.1 X.2.1 d_MD_layers_1 rfl w) ?_
  refine g_put X (ci := 4) rfl f0 (Nat.succ_ne_zero _) 0 (by decide) ⟨rfl, rfl⟩ tw_502 (Or.inl rfl) rfl rfl rfl (Nat.le_of_ble_eq_true rfl) d_MD_layers_2 ?_
  obtain ⟨h_1, eh_1⟩ : ∃ z, z = g_up h a ((20, 0), .inr (4, [.int (iZ (0)), .int (iZ (mN M)), .int (iZ (mA M)), .ref p3, .ref p4, .int (iZ (mU M)), .ref p6, .ref p7, .int (iZ (mY M)), .ref p9, .ref p10, .ref p11, .ref p12, .ref p13, .ref p14])) := ⟨_, rfl⟩
  refine g_h (h' := h_1) eh_1.symm ?_
  have f_2 : h_1 a = some ((20, 0), .inr (4, [.int (iZ (0)), .int (iZ (mN M)), .int (iZ (mA M)), .ref p3, .ref p4, .int (iZ (mU M)), .ref p6, .ref p7, .int (iZ (mY M)), .ref p9, .ref p10, .ref p11, .ref p12, .ref p13, .ref p14])) := by rw [eh_1]; exact g_us
  have f_3 : h_1 p3 = some ((21, a), gI D 1024 (aP M)) := by rw [eh_1]; exact g_uk f3 f0 (show (21 : Nat) ≠ 20 by decide)
  have f_4 : h_1 p4 = some ((22, a), gI D 1024 (aB M)) := by rw [eh_1]; exact g_uk f4 f0 (show (22 : Nat) ≠ 20 by decide)
  have f_5 : h_1 p6 = some ((23, a), gI D 17408 (aY M)) := by rw [eh_1]; exact g_uk f6 f0 (show (23 : Nat) ≠ 20 by decide)
  have f_6 : h_1 p7 = some ((24, a), gL D 17408 (aG M)) := by rw [eh_1]; exact g_uk f7 f0 (show (24 : Nat) ≠ 20 by decide)
  have f_7 : h_1 p9 = some ((25, a), gI D 65536 (aC M)) := by rw [eh_1]; exact g_uk f9 f0 (show (25 : Nat) ≠ 20 by decide)
  have f_8 : h_1 p10 = some ((26, a), gI D 64 (aT M)) := by rw [eh_1]; exact g_uk f10 f0 (show (26 : Nat) ≠ 20 by decide)
  have f_9 : h_1 p11 = some ((27, a), gL D 64 (aL M)) := by rw [eh_1]; exact g_uk f11 f0 (show (27 : Nat) ≠ 20 by decide)
  have f_10 : h_1 p12 = some ((28, a), gI D 64 (aM M)) := by rw [eh_1]; exact g_uk f12 f0 (show (28 : Nat) ≠ 20 by decide)
  have f_11 : h_1 p13 = some ((29, a), gI D 1024 (aK M)) := by rw [eh_1]; exact g_uk f13 f0 (show (29 : Nat) ≠ 20 by decide)
  have f_12 : h_1 p14 = some ((30, a), gI D 1024 (aX M)) := by rw [eh_1]; exact g_uk f14 f0 (show (30 : Nat) ≠ 20 by decide)
  have hk_13 := kp_up (kp_rf (P := P_MD) (h := h)) eh_1 f0 (⟨Nat.le_of_ble_eq_true rfl, Nat.le_of_ble_eq_true rfl⟩)
  refine g_1 (fun w => lv_aload_n X.1 X.2.1 d_MD_layers_5 rfl (lv_at hl 0 rfl) w) ?_
  refine g_get X (ci := 4) rfl f_2 8 (by decide) ⟨rfl, rfl⟩ tw_510 (Or.inl rfl) rfl d_MD_layers_6 ?_
  exact g_iret X (⟨rfl, ⟨p3, p4, p6, p7, p9, p10, p11, p12, p13, p14, f_2, f_3, f_4, f_5, f_6, f_7, f_8, f_9, f_10, f_11, f_12⟩, hk_13⟩) (by decide) (by decide) d_MD_layers_9

set_option maxHeartbeats 4000000 in
set_option maxRecDepth 100000 in
theorem c_MD_throwing {D : va_G} {s0 : State} {l : Launch} {h : gH} (B0 : gB D s0) {a : Nat} {M : Mdl} (hm : isMD D h a M) {f g t : Int} (hf : i_ok f) (hg : i_ok g) (ht : t = thr f g) {r : Int} (hr : r = if 0 < t then 1 else 0) : gMet D s0 l y_MD_throwing b_MD_throwing 3 (some .boolean) ({ frames := 0, cells := 0, slots := 0, locals := 0 } : Room) [.ref a, .int (iZ (f)), .int (iZ (g))] h (fun v h' => some (.int (iZ r)) = v ∧ isMD D h' a (t, M.2) ∧ kp P_MD h h') := by
  obtain ⟨p3, p4, p6, p7, p9, p10, p11, p12, p13, p14, f0, f3, f4, f6, f7, f9, f10, f11, f12, f13, f14⟩ := id hm
  obtain ⟨hf1, hf2⟩ := id hf
  obtain ⟨hg1, hg2⟩ := id hg
  refine g_enter B0 (plainFor_of_name (by decide)) (Nat.le_of_ble_eq_true rfl) (fun p e s m below meth c ls X hnm hl => ?_)
  have hl : lv_has ls 3 [(0, .ref a), (1, .int (iZ (f))), (2, .int (iZ (g)))] := hl
  refine g_1 (fun w => lv_aload_n X.1 X.2.1 d_MD_throwing_0 rfl (lv_at hl 0 rfl) w) ?_
  refine g_1 (fun w => lv_iload_n X.1 X.2.1 d_MD_throwing_1 rfl (lv_at hl 1 rfl) w) ?_
  refine g_if_eq (tgt := 9) X (by first | exact ⟨by omega, by omega⟩ | (split <;> exact ⟨by omega, by omega⟩) | exact cmpZ_ok _ _ | exact mul_ok (by omega) (by omega) (by omega) (by omega)) d_MD_throwing_2 (by decide) (fun c2 => ?_) (fun c2 => ?_)
  · refine g_1 (fun w => lv_iload_n X.1 X.2.1 d_MD_throwing_9 rfl (lv_at hl 2 rfl) w) ?_
    refine g_if_eq (tgt := 17) X (by first | exact ⟨by omega, by omega⟩ | (split <;> exact ⟨by omega, by omega⟩) | exact cmpZ_ok _ _ | exact mul_ok (by omega) (by omega) (by omega) (by omega)) d_MD_throwing_10 (by decide) (fun c10 => ?_) (fun c10 => ?_)
    · refine g_1 (fun w => lv_iconst (v := iZ 0) X.1 X.2.1 d_MD_throwing_17 rfl w) ?_
      refine g_put X (ci := 4) rfl f0 (Nat.succ_ne_zero _) 0 (by decide) ⟨rfl, rfl⟩ tw_502 (Or.inl rfl) rfl rfl rfl (Nat.le_of_ble_eq_true rfl) d_MD_throwing_18 ?_
      obtain ⟨h_1, eh_1⟩ : ∃ z, z = g_up h a ((20, 0), .inr (4, [.int (iZ (0)), .int (iZ (mN M)), .int (iZ (mA M)), .ref p3, .ref p4, .int (iZ (mU M)), .ref p6, .ref p7, .int (iZ (mY M)), .ref p9, .ref p10, .ref p11, .ref p12, .ref p13, .ref p14])) := ⟨_, rfl⟩
      refine g_h (h' := h_1) eh_1.symm ?_
      have f_2 : h_1 a = some ((20, 0), .inr (4, [.int (iZ (0)), .int (iZ (mN M)), .int (iZ (mA M)), .ref p3, .ref p4, .int (iZ (mU M)), .ref p6, .ref p7, .int (iZ (mY M)), .ref p9, .ref p10, .ref p11, .ref p12, .ref p13, .ref p14])) := by rw [eh_1]; exact g_us
      have f_3 : h_1 p3 = some ((21, a), gI D 1024 (aP M)) := by rw [eh_1]; exact g_uk f3 f0 (show (21 : Nat) ≠ 20 by decide)
      have f_4 : h_1 p4 = some ((22, a), gI D 1024 (aB M)) := by rw [eh_1]; exact g_uk f4 f0 (show (22 : Nat) ≠ 20 by decide)
      have f_5 : h_1 p6 = some ((23, a), gI D 17408 (aY M)) := by rw [eh_1]; exact g_uk f6 f0 (show (23 : Nat) ≠ 20 by decide)
      have f_6 : h_1 p7 = some ((24, a), gL D 17408 (aG M)) := by rw [eh_1]; exact g_uk f7 f0 (show (24 : Nat) ≠ 20 by decide)
      have f_7 : h_1 p9 = some ((25, a), gI D 65536 (aC M)) := by rw [eh_1]; exact g_uk f9 f0 (show (25 : Nat) ≠ 20 by decide)
      have f_8 : h_1 p10 = some ((26, a), gI D 64 (aT M)) := by rw [eh_1]; exact g_uk f10 f0 (show (26 : Nat) ≠ 20 by decide)
      have f_9 : h_1 p11 = some ((27, a), gL D 64 (aL M)) := by rw [eh_1]; exact g_uk f11 f0 (show (27 : Nat) ≠ 20 by decide)
      have f_10 : h_1 p12 = some ((28, a), gI D 64 (aM M)) := by rw [eh_1]; exact g_uk f12 f0 (show (28 : Nat) ≠ 20 by decide)
      have f_11 : h_1 p13 = some ((29, a), gI D 1024 (aK M)) := by rw [eh_1]; exact g_uk f13 f0 (show (29 : Nat) ≠ 20 by decide)
      have f_12 : h_1 p14 = some ((30, a), gI D 1024 (aX M)) := by rw [eh_1]; exact g_uk f14 f0 (show (30 : Nat) ≠ 20 by decide)
      have hk_13 := kp_up (kp_rf (P := P_MD) (h := h)) eh_1 f0 (⟨Nat.le_of_ble_eq_true rfl, Nat.le_of_ble_eq_true rfl⟩)
      refine g_1 (fun w => lv_aload_n X.1 X.2.1 d_MD_throwing_21 rfl (lv_at hl 0 rfl) w) ?_
      refine g_get X (ci := 4) rfl f_2 0 (by decide) ⟨rfl, rfl⟩ tw_502 (Or.inl rfl) rfl d_MD_throwing_22 ?_
      refine g_if_le (tgt := 32) X (by first | exact ⟨by omega, by omega⟩ | (split <;> exact ⟨by omega, by omega⟩) | exact cmpZ_ok _ _ | exact mul_ok (by omega) (by omega) (by omega) (by omega)) d_MD_throwing_25 (by decide) (fun c25 => ?_) (fun c25 => ?_)
      · refine g_1 (fun w => lv_iconst (v := iZ 0) X.1 X.2.1 d_MD_throwing_32 rfl w) ?_
        exact g_zret X rfl (⟨g_ei (by rw [hr, ht, thr_0 c2 c10]; rfl), by rw [ht, thr_0 c2 c10]; exact ⟨p3, p4, p6, p7, p9, p10, p11, p12, p13, p14, f_2, f_3, f_4, f_5, f_6, f_7, f_8, f_9, f_10, f_11, f_12⟩, hk_13⟩) (by decide) (by decide) d_MD_throwing_33
      · exact absurd c25 (by decide)
    · refine g_1 (fun w => lv_iconst (v := iZ 2) X.1 X.2.1 d_MD_throwing_13 rfl w) ?_
      refine g_goto (tgt := 18) X d_MD_throwing_14 (by decide) ?_
      refine g_put X (ci := 4) rfl f0 (Nat.succ_ne_zero _) 0 (by decide) ⟨rfl, rfl⟩ tw_502 (Or.inl rfl) rfl rfl rfl (Nat.le_of_ble_eq_true rfl) d_MD_throwing_18 ?_
      obtain ⟨h_14, eh_14⟩ : ∃ z, z = g_up h a ((20, 0), .inr (4, [.int (iZ (2)), .int (iZ (mN M)), .int (iZ (mA M)), .ref p3, .ref p4, .int (iZ (mU M)), .ref p6, .ref p7, .int (iZ (mY M)), .ref p9, .ref p10, .ref p11, .ref p12, .ref p13, .ref p14])) := ⟨_, rfl⟩
      refine g_h (h' := h_14) eh_14.symm ?_
      have f_15 : h_14 a = some ((20, 0), .inr (4, [.int (iZ (2)), .int (iZ (mN M)), .int (iZ (mA M)), .ref p3, .ref p4, .int (iZ (mU M)), .ref p6, .ref p7, .int (iZ (mY M)), .ref p9, .ref p10, .ref p11, .ref p12, .ref p13, .ref p14])) := by rw [eh_14]; exact g_us
      have f_16 : h_14 p3 = some ((21, a), gI D 1024 (aP M)) := by rw [eh_14]; exact g_uk f3 f0 (show (21 : Nat) ≠ 20 by decide)
      have f_17 : h_14 p4 = some ((22, a), gI D 1024 (aB M)) := by rw [eh_14]; exact g_uk f4 f0 (show (22 : Nat) ≠ 20 by decide)
      have f_18 : h_14 p6 = some ((23, a), gI D 17408 (aY M)) := by rw [eh_14]; exact g_uk f6 f0 (show (23 : Nat) ≠ 20 by decide)
      have f_19 : h_14 p7 = some ((24, a), gL D 17408 (aG M)) := by rw [eh_14]; exact g_uk f7 f0 (show (24 : Nat) ≠ 20 by decide)
      have f_20 : h_14 p9 = some ((25, a), gI D 65536 (aC M)) := by rw [eh_14]; exact g_uk f9 f0 (show (25 : Nat) ≠ 20 by decide)
      have f_21 : h_14 p10 = some ((26, a), gI D 64 (aT M)) := by rw [eh_14]; exact g_uk f10 f0 (show (26 : Nat) ≠ 20 by decide)
      have f_22 : h_14 p11 = some ((27, a), gL D 64 (aL M)) := by rw [eh_14]; exact g_uk f11 f0 (show (27 : Nat) ≠ 20 by decide)
      have f_23 : h_14 p12 = some ((28, a), gI D 64 (aM M)) := by rw [eh_14]; exact g_uk f12 f0 (show (28 : Nat) ≠ 20 by decide)
      have f_24 : h_14 p13 = some ((29, a), gI D 1024 (aK M)) := by rw [eh_14]; exact g_uk f13 f0 (show (29 : Nat) ≠ 20 by decide)
      have f_25 : h_14 p14 = some ((30, a), gI D 1024 (aX M)) := by rw [eh_14]; exact g_uk f14 f0 (show (30 : Nat) ≠ 20 by decide)
      have hk_26 := kp_up (kp_rf (P := P_MD) (h := h)) eh_14 f0 (⟨Nat.le_of_ble_eq_true rfl, Nat.le_of_ble_eq_true rfl⟩)
      refine g_1 (fun w => lv_aload_n X.1 X.2.1 d_MD_throwing_21 rfl (lv_at hl 0 rfl) w) ?_
      refine g_get X (ci := 4) rfl f_15 0 (by decide) ⟨rfl, rfl⟩ tw_502 (Or.inl rfl) rfl d_MD_throwing_22 ?_
      refine g_if_le (tgt := 32) X (by first | exact ⟨by omega, by omega⟩ | (split <;> exact ⟨by omega, by omega⟩) | exact cmpZ_ok _ _ | exact mul_ok (by omega) (by omega) (by omega) (by omega)) d_MD_throwing_25 (by decide) (fun c25 => ?_) (fun c25 => ?_)
      · exact absurd c25 (by decide)
      · refine g_1 (fun w => lv_iconst (v := iZ 1) X.1 X.2.1 d_MD_throwing_28 rfl w) ?_
        refine g_goto (tgt := 33) X d_MD_throwing_29 (by decide) ?_
        exact g_zret X rfl (⟨g_ei (by rw [hr, ht, thr_2 c2 c10]; rfl), by rw [ht, thr_2 c2 c10]; exact ⟨p3, p4, p6, p7, p9, p10, p11, p12, p13, p14, f_15, f_16, f_17, f_18, f_19, f_20, f_21, f_22, f_23, f_24, f_25⟩, hk_26⟩) (by decide) (by decide) d_MD_throwing_33
  · refine g_1 (fun w => lv_iconst (v := iZ 1) X.1 X.2.1 d_MD_throwing_5 rfl w) ?_
    refine g_goto (tgt := 18) X d_MD_throwing_6 (by decide) ?_
    refine g_put X (ci := 4) rfl f0 (Nat.succ_ne_zero _) 0 (by decide) ⟨rfl, rfl⟩ tw_502 (Or.inl rfl) rfl rfl rfl (Nat.le_of_ble_eq_true rfl) d_MD_throwing_18 ?_
    obtain ⟨h_27, eh_27⟩ : ∃ z, z = g_up h a ((20, 0), .inr (4, [.int (iZ (1)), .int (iZ (mN M)), .int (iZ (mA M)), .ref p3, .ref p4, .int (iZ (mU M)), .ref p6, .ref p7, .int (iZ (mY M)), .ref p9, .ref p10, .ref p11, .ref p12, .ref p13, .ref p14])) := ⟨_, rfl⟩
    refine g_h (h' := h_27) eh_27.symm ?_
    have f_28 : h_27 a = some ((20, 0), .inr (4, [.int (iZ (1)), .int (iZ (mN M)), .int (iZ (mA M)), .ref p3, .ref p4, .int (iZ (mU M)), .ref p6, .ref p7, .int (iZ (mY M)), .ref p9, .ref p10, .ref p11, .ref p12, .ref p13, .ref p14])) := by rw [eh_27]; exact g_us
    have f_29 : h_27 p3 = some ((21, a), gI D 1024 (aP M)) := by rw [eh_27]; exact g_uk f3 f0 (show (21 : Nat) ≠ 20 by decide)
    have f_30 : h_27 p4 = some ((22, a), gI D 1024 (aB M)) := by rw [eh_27]; exact g_uk f4 f0 (show (22 : Nat) ≠ 20 by decide)
    have f_31 : h_27 p6 = some ((23, a), gI D 17408 (aY M)) := by rw [eh_27]; exact g_uk f6 f0 (show (23 : Nat) ≠ 20 by decide)
    have f_32 : h_27 p7 = some ((24, a), gL D 17408 (aG M)) := by rw [eh_27]; exact g_uk f7 f0 (show (24 : Nat) ≠ 20 by decide)
    have f_33 : h_27 p9 = some ((25, a), gI D 65536 (aC M)) := by rw [eh_27]; exact g_uk f9 f0 (show (25 : Nat) ≠ 20 by decide)
    have f_34 : h_27 p10 = some ((26, a), gI D 64 (aT M)) := by rw [eh_27]; exact g_uk f10 f0 (show (26 : Nat) ≠ 20 by decide)
    have f_35 : h_27 p11 = some ((27, a), gL D 64 (aL M)) := by rw [eh_27]; exact g_uk f11 f0 (show (27 : Nat) ≠ 20 by decide)
    have f_36 : h_27 p12 = some ((28, a), gI D 64 (aM M)) := by rw [eh_27]; exact g_uk f12 f0 (show (28 : Nat) ≠ 20 by decide)
    have f_37 : h_27 p13 = some ((29, a), gI D 1024 (aK M)) := by rw [eh_27]; exact g_uk f13 f0 (show (29 : Nat) ≠ 20 by decide)
    have f_38 : h_27 p14 = some ((30, a), gI D 1024 (aX M)) := by rw [eh_27]; exact g_uk f14 f0 (show (30 : Nat) ≠ 20 by decide)
    have hk_39 := kp_up (kp_rf (P := P_MD) (h := h)) eh_27 f0 (⟨Nat.le_of_ble_eq_true rfl, Nat.le_of_ble_eq_true rfl⟩)
    refine g_1 (fun w => lv_aload_n X.1 X.2.1 d_MD_throwing_21 rfl (lv_at hl 0 rfl) w) ?_
    refine g_get X (ci := 4) rfl f_28 0 (by decide) ⟨rfl, rfl⟩ tw_502 (Or.inl rfl) rfl d_MD_throwing_22 ?_
    refine g_if_le (tgt := 32) X (by first | exact ⟨by omega, by omega⟩ | (split <;> exact ⟨by omega, by omega⟩) | exact cmpZ_ok _ _ | exact mul_ok (by omega) (by omega) (by omega) (by omega)) d_MD_throwing_25 (by decide) (fun c25 => ?_) (fun c25 => ?_)
    · exact absurd c25 (by decide)
    · refine g_1 (fun w => lv_iconst (v := iZ 1) X.1 X.2.1 d_MD_throwing_28 rfl w) ?_
      refine g_goto (tgt := 33) X d_MD_throwing_29 (by decide) ?_
      exact g_zret X rfl (⟨g_ei (by rw [hr, ht, thr_1 c2]; rfl), by rw [ht, thr_1 c2]; exact ⟨p3, p4, p6, p7, p9, p10, p11, p12, p13, p14, f_28, f_29, f_30, f_31, f_32, f_33, f_34, f_35, f_36, f_37, f_38⟩, hk_39⟩) (by decide) (by decide) d_MD_throwing_33

set_option maxHeartbeats 4000000 in
set_option maxRecDepth 100000 in
theorem c_MD_gainOf {D : va_G} {s0 : State} {l : Launch} {h : gH} (B0 : gB D s0) {a n : Nat} {M : Mdl} {bs : Nat → Blk} (hm : isMD D h a M) (hv : mV M n bs) (hw : ∀ b, b < n → wfC (bs b)) (b f t : Nat) (hb : b < n) (hf : f ≤ bP (bs b)) (ht : t ≤ bP (bs b)) : gMet D s0 l y_MD_gainOf b_MD_gainOf 4 (some .long) ({ frames := 0, cells := 0, slots := 0, locals := 0 } : Room) [.ref a, .int (iZ (b)), .int (iZ (f)), .int (iZ (t))] h (fun v h' => some (.long (lZ (bG (bs b) t - bG (bs b) f))) = v ∧ h = h') := by
  obtain ⟨p3, p4, p6, p7, p9, p10, p11, p12, p13, p14, f0, f3, f4, f6, f7, f9, f10, f11, f12, f13, f14⟩ := id hm
  obtain ⟨v1, v2, v3, v4, v5⟩ := id hv
  obtain ⟨u1, u2, u3⟩ := v5 b hb
  have hbl := beg_lt bs hb
  have uf := u3 f hf
  have ut := u3 t ht
  refine g_enter B0 (plainFor_of_name (by decide)) (Nat.le_of_ble_eq_true rfl) (fun p e s m below meth c ls X hnm hl => ?_)
  have hl : lv_has ls 4 [(0, .ref a), (1, .int (iZ (b))), (2, .int (iZ (f))), (3, .int (iZ (t)))] := hl
  refine g_1 (fun w => lv_aload_n X.1 X.2.1 d_MD_gainOf_0 rfl (lv_at hl 0 rfl) w) ?_
  refine g_get X (ci := 4) rfl f0 7 (by decide) ⟨rfl, rfl⟩ tw_509 (Or.inl rfl) rfl d_MD_gainOf_1 ?_
  refine g_1 (fun w => lv_aload_n X.1 X.2.1 d_MD_gainOf_4 rfl (lv_at hl 0 rfl) w) ?_
  refine g_get X (ci := 4) rfl f0 4 (by decide) ⟨rfl, rfl⟩ tw_506 (Or.inl rfl) rfl d_MD_gainOf_5 ?_
  refine g_1 (fun w => lv_iload_n X.1 X.2.1 d_MD_gainOf_8 rfl (lv_at hl 1 rfl) w) ?_
  refine g_ild X f4 (b) (rfl) (by omega) (by omega) d_MD_gainOf_9 ?_
  refine g_1 (fun w => lv_iload_n X.1 X.2.1 d_MD_gainOf_10 rfl (lv_at hl 3 rfl) w) ?_
  refine g_iadd X d_MD_gainOf_11 ?_
  refine g_lld X f7 (beg bs b + t) (by omega) (by omega) (by omega) d_MD_gainOf_12 ?_
  refine g_1 (fun w => lv_aload_n X.1 X.2.1 d_MD_gainOf_13 rfl (lv_at hl 0 rfl) w) ?_
  refine g_get X (ci := 4) rfl f0 7 (by decide) ⟨rfl, rfl⟩ tw_509 (Or.inl rfl) rfl d_MD_gainOf_14 ?_
  refine g_1 (fun w => lv_aload_n X.1 X.2.1 d_MD_gainOf_17 rfl (lv_at hl 0 rfl) w) ?_
  refine g_get X (ci := 4) rfl f0 4 (by decide) ⟨rfl, rfl⟩ tw_506 (Or.inl rfl) rfl d_MD_gainOf_18 ?_
  refine g_1 (fun w => lv_iload_n X.1 X.2.1 d_MD_gainOf_21 rfl (lv_at hl 1 rfl) w) ?_
  refine g_ild X f4 (b) (rfl) (by omega) (by omega) d_MD_gainOf_22 ?_
  refine g_1 (fun w => lv_iload_n X.1 X.2.1 d_MD_gainOf_23 rfl (lv_at hl 2 rfl) w) ?_
  refine g_iadd X d_MD_gainOf_24 ?_
  refine g_lld X f7 (beg bs b + f) (by omega) (by omega) (by omega) d_MD_gainOf_25 ?_
  refine g_lsub X d_MD_gainOf_26 ?_
  exact g_lret X (⟨g_el (by rw [ut.2, uf.2]), rfl⟩) (by decide) (by decide) d_MD_gainOf_27

set_option maxHeartbeats 4000000 in
set_option maxRecDepth 100000 in
theorem c_MD_bytesOf {D : va_G} {s0 : State} {l : Launch} {h : gH} (B0 : gB D s0) {a n : Nat} {M : Mdl} {bs : Nat → Blk} (hm : isMD D h a M) (hv : mV M n bs) (hw : ∀ b, b < n → wfC (bs b)) (b f t : Nat) (hb : b < n) (hf : f ≤ bP (bs b)) (ht : t ≤ bP (bs b)) : gMet D s0 l y_MD_bytesOf b_MD_bytesOf 4 (some .int) ({ frames := 0, cells := 0, slots := 0, locals := 0 } : Room) [.ref a, .int (iZ (b)), .int (iZ (f)), .int (iZ (t))] h (fun v h' => some (.int (iZ (bB (bs b) t - bB (bs b) f))) = v ∧ h = h') := by
  obtain ⟨p3, p4, p6, p7, p9, p10, p11, p12, p13, p14, f0, f3, f4, f6, f7, f9, f10, f11, f12, f13, f14⟩ := id hm
  obtain ⟨v1, v2, v3, v4, v5⟩ := id hv
  obtain ⟨u1, u2, u3⟩ := v5 b hb
  have hbl := beg_lt bs hb
  have uf := u3 f hf
  have ut := u3 t ht
  refine g_enter B0 (plainFor_of_name (by decide)) (Nat.le_of_ble_eq_true rfl) (fun p e s m below meth c ls X hnm hl => ?_)
  have hl : lv_has ls 4 [(0, .ref a), (1, .int (iZ (b))), (2, .int (iZ (f))), (3, .int (iZ (t)))] := hl
  refine g_1 (fun w => lv_aload_n X.1 X.2.1 d_MD_bytesOf_0 rfl (lv_at hl 0 rfl) w) ?_
  refine g_get X (ci := 4) rfl f0 6 (by decide) ⟨rfl, rfl⟩ tw_508 (Or.inl rfl) rfl d_MD_bytesOf_1 ?_
  refine g_1 (fun w => lv_aload_n X.1 X.2.1 d_MD_bytesOf_4 rfl (lv_at hl 0 rfl) w) ?_
  refine g_get X (ci := 4) rfl f0 4 (by decide) ⟨rfl, rfl⟩ tw_506 (Or.inl rfl) rfl d_MD_bytesOf_5 ?_
  refine g_1 (fun w => lv_iload_n X.1 X.2.1 d_MD_bytesOf_8 rfl (lv_at hl 1 rfl) w) ?_
  refine g_ild X f4 (b) (rfl) (by omega) (by omega) d_MD_bytesOf_9 ?_
  refine g_1 (fun w => lv_iload_n X.1 X.2.1 d_MD_bytesOf_10 rfl (lv_at hl 3 rfl) w) ?_
  refine g_iadd X d_MD_bytesOf_11 ?_
  refine g_ild X f6 (beg bs b + t) (by omega) (by omega) (by omega) d_MD_bytesOf_12 ?_
  refine g_1 (fun w => lv_aload_n X.1 X.2.1 d_MD_bytesOf_13 rfl (lv_at hl 0 rfl) w) ?_
  refine g_get X (ci := 4) rfl f0 6 (by decide) ⟨rfl, rfl⟩ tw_508 (Or.inl rfl) rfl d_MD_bytesOf_14 ?_
  refine g_1 (fun w => lv_aload_n X.1 X.2.1 d_MD_bytesOf_17 rfl (lv_at hl 0 rfl) w) ?_
  refine g_get X (ci := 4) rfl f0 4 (by decide) ⟨rfl, rfl⟩ tw_506 (Or.inl rfl) rfl d_MD_bytesOf_18 ?_
  refine g_1 (fun w => lv_iload_n X.1 X.2.1 d_MD_bytesOf_21 rfl (lv_at hl 1 rfl) w) ?_
  refine g_ild X f4 (b) (rfl) (by omega) (by omega) d_MD_bytesOf_22 ?_
  refine g_1 (fun w => lv_iload_n X.1 X.2.1 d_MD_bytesOf_23 rfl (lv_at hl 2 rfl) w) ?_
  refine g_iadd X d_MD_bytesOf_24 ?_
  refine g_ild X f6 (beg bs b + f) (by omega) (by omega) (by omega) d_MD_bytesOf_25 ?_
  refine g_isub X d_MD_bytesOf_26 ?_
  exact g_iret X (⟨g_ei (by rw [ut.1, uf.1]), rfl⟩) (by decide) (by decide) d_MD_bytesOf_27
end
section
theorem eN_0 {k : Nat} (h : k = 0) : eN k = -1 := if_pos h
theorem eN_s {k : Nat} (h : k ≠ 0) : eN k = k := if_neg h
theorem eN_bd (k : Nat) : -1 ≤ eN k ∧ eN k ≤ k := by
  unfold eN
  split <;> omega

set_option maxHeartbeats 4000000 in
set_option maxRecDepth 100000 in
theorem c_MD_stepFrom {D : va_G} {s0 : State} {l : Launch} {h : gH} (B0 : gB D s0) {a n : Nat} {M : Mdl} {bs : Nat → Blk} (hm : isMD D h a M) (hv : mV M n bs) (hw : ∀ b, b < n → wfC (bs b)) (b j : Nat) (hb : b < n) (hj : j ≤ bP (bs b)) : gMet D s0 l y_MD_stepFrom b_MD_stepFrom 5 (some .int) ({ frames := 1, cells := 0, slots := 0, locals := 29 } : Room) [.ref a, .int (iZ (b)), .int (iZ (j))] h (fun v h' => some (.int (iZ (eN (sfr (bs b) j (bP (bs b)))))) = v ∧ h = h') := by
  obtain ⟨p3, p4, p6, p7, p9, p10, p11, p12, p13, p14, f0, f3, f4, f6, f7, f9, f10, f11, f12, f13, f14⟩ := id hm
  obtain ⟨v1, v2, v3, v4, v5⟩ := id hv
  obtain ⟨u1, u2, u3⟩ := v5 b hb
  obtain ⟨⟨⟨k1, k2, k3, k4, k5, k6, k7, k8⟩, w2, w3, w4⟩, w5, w6⟩ := id (hw b hb)
  refine g_enter B0 (plainFor_of_name (by decide)) (Nat.le_of_ble_eq_true rfl) (fun p e s m below meth c ls X hnm hl => ?_)
  have hl : lv_has ls 5 [(0, .ref a), (1, .int (iZ (b))), (2, .int (iZ (j)))] := hl
  have loop : ∀ (d i r : Nat) (v : Int) (ls : Array Slot), i + d = bP (bs b) → j ≤ i → sfr (bs b) j i = r → ((r = 0 ∧ v = -1) ∨ (1 ≤ r ∧ v = r)) → lv_has ls 5 [(4, .int (iZ (i + 1))), (3, .int (iZ (v))), (2, .int (iZ (j))), (1, .int (iZ (b))), (0, .ref a)] → G D s0 p l e ({ frames := 1, cells := 0, slots := 0, locals := 29 } : Room) s m ([.ref a, .int (iZ (b)), .int (iZ (j))] : List Value).toArray below meth c h 0 0 (MQ below (gQ D s0 (fun v h' => some (.int (iZ (eN (sfr (bs b) j (bP (bs b)))))) = v ∧ h = h')) ([.ref a, .int (iZ (b)), .int (iZ (j))] : List Value).toArray s 0 0 (fun q => s0.heap.size ≤ q)) (F0 m 7 ls []) := by
    intro d
    induction d with
    | zero =>
      intro i r v ls hi hji er ev hl
      have hrl := sfr_le (b := bs b) (j := j) (k := i)
      refine g_1 (fun w => lv_iload X.1 X.2.1 d_MD_stepFrom_7 (lv_at hl 0 rfl) w) ?_
      refine g_1 (fun w => lv_aload_n X.1 X.2.1 d_MD_stepFrom_9 rfl (lv_at hl 4 rfl) w) ?_
      refine g_get X (ci := 4) rfl f0 3 (by decide) ⟨rfl, rfl⟩ tw_505 (Or.inl rfl) rfl d_MD_stepFrom_10 ?_
      refine g_1 (fun w => lv_iload_n X.1 X.2.1 d_MD_stepFrom_13 rfl (lv_at hl 3 rfl) w) ?_
      refine g_ild X f3 (b) (rfl) (by omega) (by omega) d_MD_stepFrom_14 ?_
      refine g_icmp_gt (tgt := 83) X (by first | exact ⟨by omega, by omega⟩ | (split <;> exact ⟨by omega, by omega⟩) | exact cmpZ_ok _ _ | exact mul_ok (by omega) (by omega) (by omega) (by omega)) (by first | exact ⟨by omega, by omega⟩ | (split <;> exact ⟨by omega, by omega⟩) | exact cmpZ_ok _ _ | exact mul_ok (by omega) (by omega) (by omega) (by omega)) d_MD_stepFrom_15 (by decide) (fun c15 => ?_) (fun c15 => ?_)
      · refine g_1 (fun w => lv_iload_n X.1 X.2.1 d_MD_stepFrom_83 rfl (lv_at hl 1 rfl) w) ?_
        exact g_iret X (⟨g_ei (by rw [show bP (bs b) = i by omega, er]; unfold eN; split <;> omega), rfl⟩) (by decide) (by decide) d_MD_stepFrom_84
      · exfalso
        omega
    | succ d ih =>
      intro i r v ls hi hji er ev hl
      have hrl := sfr_le (b := bs b) (j := j) (k := i)
      have q1 := k7 (i + 1)
      have q2 := k7 j
      refine g_1 (fun w => lv_iload X.1 X.2.1 d_MD_stepFrom_7 (lv_at hl 0 rfl) w) ?_
      refine g_1 (fun w => lv_aload_n X.1 X.2.1 d_MD_stepFrom_9 rfl (lv_at hl 4 rfl) w) ?_
      refine g_get X (ci := 4) rfl f0 3 (by decide) ⟨rfl, rfl⟩ tw_505 (Or.inl rfl) rfl d_MD_stepFrom_10 ?_
      refine g_1 (fun w => lv_iload_n X.1 X.2.1 d_MD_stepFrom_13 rfl (lv_at hl 3 rfl) w) ?_
      refine g_ild X f3 (b) (rfl) (by omega) (by omega) d_MD_stepFrom_14 ?_
      refine g_icmp_gt (tgt := 83) X (by first | exact ⟨by omega, by omega⟩ | (split <;> exact ⟨by omega, by omega⟩) | exact cmpZ_ok _ _ | exact mul_ok (by omega) (by omega) (by omega) (by omega)) (by first | exact ⟨by omega, by omega⟩ | (split <;> exact ⟨by omega, by omega⟩) | exact cmpZ_ok _ _ | exact mul_ok (by omega) (by omega) (by omega) (by omega)) d_MD_stepFrom_15 (by decide) (fun c15 => ?_) (fun c15 => ?_)
      · exfalso
        omega
      · refine g_1 (fun w => lv_aload_n X.1 X.2.1 d_MD_stepFrom_18 rfl (lv_at hl 4 rfl) w) ?_
        refine g_1 (fun w => lv_iload_n X.1 X.2.1 d_MD_stepFrom_19 rfl (lv_at hl 3 rfl) w) ?_
        refine g_1 (fun w => lv_iload_n X.1 X.2.1 d_MD_stepFrom_20 rfl (lv_at hl 2 rfl) w) ?_
        refine g_1 (fun w => lv_iload X.1 X.2.1 d_MD_stepFrom_21 (lv_at hl 0 rfl) w) ?_
        refine g_callV (na := 3) X (c_MD_gainOf B0 hm hv hw b j (i + 1) (by omega) (by omega) (by omega)) rfl f0 rfl ⟨⟨tw_589, tw_5⟩, ⟨by decide, by decide, by decide +kernel⟩, by decide, by decide⟩ tw_586 tw_588 ts_MD_gainOf rfl hl.1 (Nat.le_of_ble_eq_true rfl) ⟨by decide, by decide⟩ d_MD_stepFrom_23 (fun v h' hp => ?_)
        obtain ⟨rfl, rfl⟩ := hp
        refine g_widen (k' := 0) (n' := 0) (by decide) (by decide) ?_
        show G D s0 p l e _ s m _ below meth c h _ _ _ (F0 m 26 ls [.long (lZ (bG (bs b) (i + 1) - bG (bs b) j))])
        refine g_1 (fun w => lv_lconst (v := lZ 0) X.1 X.2.1 d_MD_stepFrom_26 (by decide) w) ?_
        refine g_lcmp X (by first | exact ⟨by omega, by omega⟩ | (split <;> exact ⟨by omega, by omega⟩) | exact cmpZ_ok _ _ | exact mul_ok (by omega) (by omega) (by omega) (by omega)) (by first | exact ⟨by omega, by omega⟩ | (split <;> exact ⟨by omega, by omega⟩) | exact cmpZ_ok _ _ | exact mul_ok (by omega) (by omega) (by omega) (by omega)) d_MD_stepFrom_27 ?_
        refine g_if_gt (tgt := 34) X (cmpZ_ok _ _) d_MD_stepFrom_28 (by decide) (fun c28 => ?_) (fun c28 => ?_)
        · have c28g := cmpZ_gt.mp c28
          refine g_1 (fun w => lv_iload_n X.1 X.2.1 d_MD_stepFrom_34 rfl (lv_at hl 1 rfl) w) ?_
          refine g_if_lt (tgt := 74) X (by first | exact ⟨by omega, by omega⟩ | (split <;> exact ⟨by omega, by omega⟩) | exact cmpZ_ok _ _ | exact mul_ok (by omega) (by omega) (by omega) (by omega)) d_MD_stepFrom_35 (by decide) (fun c35 => ?_) (fun c35 => ?_)
          · refine g_1 (fun w => lv_iload X.1 X.2.1 d_MD_stepFrom_74 (lv_at hl 0 rfl) w) ?_
            refine g_s (fun kk => lv_istore_n (lv' := [(3, .int (iZ (i + 1))), (4, .int (iZ (i + 1))), (2, .int (iZ (j))), (1, .int (iZ (b))), (0, .ref a)]) X.1 X.2.1 d_MD_stepFrom_76 rfl hl (by decide) rfl kk) (fun ls hl => ?_)
            refine g_s (fun kk => lv_iinc (v := iZ (i + 1 + 1)) (lv' := [(4, .int (iZ (i + 1 + 1))), (3, .int (iZ (i + 1))), (2, .int (iZ (j))), (1, .int (iZ (b))), (0, .ref a)]) X.1 X.2.1 d_MD_stepFrom_77 hl (k := 1) rfl (iZ_add _ _) (by decide) rfl kk) (fun ls hl => ?_)
            refine g_goto (tgt := 7) X d_MD_stepFrom_80 (by decide) ?_
            have e9 : sfr (bs b) j (i + 1) = i + 1 := sfr_t (by omega) c28g (by first | exact Or.inl (by omega) | exact Or.inr (by rw [er]; exact cmpZ_ge.mp c71))
            exact ih (i + 1) (i + 1) ((i + 1 : Nat) : Int) ls (by omega) (by omega) e9 (Or.inr ⟨by omega, rfl⟩) (lv_sub hl [0, 1, 2, 3, 4] rfl)
          · obtain rfl : v = (r : Int) := by omega
            have hr := sfr_le (b := bs b) (j := j) (k := i)
            have hr2 := sfr_gt (b := bs b) (j := j) (k := i) (by rw [er]; omega)
            rw [er] at hr hr2
            have m1 := k8 j (i + 1) (by omega) (by omega)
            have m2 := k8 j r (by omega) (by omega)
            have x1 := k7 r
            have x2 := k6 r
            have x3 := k6 (i + 1)
            have x4 := k6 j
            have x5 := hr2.2
            refine g_1 (fun w => lv_aload_n X.1 X.2.1 d_MD_stepFrom_38 rfl (lv_at hl 4 rfl) w) ?_
            refine g_1 (fun w => lv_iload_n X.1 X.2.1 d_MD_stepFrom_39 rfl (lv_at hl 3 rfl) w) ?_
            refine g_1 (fun w => lv_iload_n X.1 X.2.1 d_MD_stepFrom_40 rfl (lv_at hl 2 rfl) w) ?_
            refine g_1 (fun w => lv_iload X.1 X.2.1 d_MD_stepFrom_41 (lv_at hl 0 rfl) w) ?_
            refine g_callV (na := 3) X (c_MD_gainOf B0 hm hv hw b j (i + 1) (by omega) (by omega) (by omega)) rfl f0 rfl ⟨⟨tw_589, tw_5⟩, ⟨by decide, by decide, by decide +kernel⟩, by decide, by decide⟩ tw_586 tw_588 ts_MD_gainOf rfl hl.1 (Nat.le_of_ble_eq_true rfl) ⟨by decide, by decide⟩ d_MD_stepFrom_43 (fun v h' hp => ?_)
            obtain ⟨rfl, rfl⟩ := hp
            refine g_widen (k' := 0) (n' := 0) (by decide) (by decide) ?_
            show G D s0 p l e _ s m _ below meth c h _ _ _ (F0 m 46 ls [.long (lZ (bG (bs b) (i + 1) - bG (bs b) j))])
            refine g_1 (fun w => lv_aload_n X.1 X.2.1 d_MD_stepFrom_46 rfl (lv_at hl 4 rfl) w) ?_
            refine g_1 (fun w => lv_iload_n X.1 X.2.1 d_MD_stepFrom_47 rfl (lv_at hl 3 rfl) w) ?_
            refine g_1 (fun w => lv_iload_n X.1 X.2.1 d_MD_stepFrom_48 rfl (lv_at hl 2 rfl) w) ?_
            refine g_1 (fun w => lv_iload X.1 X.2.1 d_MD_stepFrom_49 (lv_at hl 0 rfl) w) ?_
            refine g_callV (na := 3) X (c_MD_bytesOf B0 hm hv hw b j (i + 1) (by omega) (by omega) (by omega)) rfl f0 rfl ⟨⟨tw_593, tw_5⟩, ⟨by decide, by decide, by decide +kernel⟩, by decide, by decide⟩ tw_590 tw_592 ts_MD_bytesOf rfl hl.1 (Nat.le_of_ble_eq_true rfl) ⟨by decide, by decide⟩ d_MD_stepFrom_51 (fun v h' hp => ?_)
            obtain ⟨rfl, rfl⟩ := hp
            refine g_widen (k' := 0) (n' := 0) (by decide) (by decide) ?_
            show G D s0 p l e _ s m _ below meth c h _ _ _ (F0 m 54 ls [.int (iZ (bB (bs b) (i + 1) - bB (bs b) j)), .long (lZ (bG (bs b) (i + 1) - bG (bs b) j))])
            refine g_1 (fun w => lv_aload_n X.1 X.2.1 d_MD_stepFrom_54 rfl (lv_at hl 4 rfl) w) ?_
            refine g_1 (fun w => lv_iload_n X.1 X.2.1 d_MD_stepFrom_55 rfl (lv_at hl 3 rfl) w) ?_
            refine g_1 (fun w => lv_iload_n X.1 X.2.1 d_MD_stepFrom_56 rfl (lv_at hl 2 rfl) w) ?_
            refine g_1 (fun w => lv_iload_n X.1 X.2.1 d_MD_stepFrom_57 rfl (lv_at hl 1 rfl) w) ?_
            refine g_callV (na := 3) X (c_MD_gainOf B0 hm hv hw b j r (by omega) (by omega) (by omega)) rfl f0 rfl ⟨⟨tw_589, tw_5⟩, ⟨by decide, by decide, by decide +kernel⟩, by decide, by decide⟩ tw_586 tw_588 ts_MD_gainOf rfl hl.1 (Nat.le_of_ble_eq_true rfl) ⟨by decide, by decide⟩ d_MD_stepFrom_58 (fun v h' hp => ?_)
            obtain ⟨rfl, rfl⟩ := hp
            refine g_widen (k' := 0) (n' := 0) (by decide) (by decide) ?_
            show G D s0 p l e _ s m _ below meth c h _ _ _ (F0 m 61 ls [.long (lZ (bG (bs b) r - bG (bs b) j)), .int (iZ (bB (bs b) (i + 1) - bB (bs b) j)), .long (lZ (bG (bs b) (i + 1) - bG (bs b) j))])
            refine g_1 (fun w => lv_aload_n X.1 X.2.1 d_MD_stepFrom_61 rfl (lv_at hl 4 rfl) w) ?_
            refine g_1 (fun w => lv_iload_n X.1 X.2.1 d_MD_stepFrom_62 rfl (lv_at hl 3 rfl) w) ?_
            refine g_1 (fun w => lv_iload_n X.1 X.2.1 d_MD_stepFrom_63 rfl (lv_at hl 2 rfl) w) ?_
            refine g_1 (fun w => lv_iload_n X.1 X.2.1 d_MD_stepFrom_64 rfl (lv_at hl 1 rfl) w) ?_
            refine g_callV (na := 3) X (c_MD_bytesOf B0 hm hv hw b j r (by omega) (by omega) (by omega)) rfl f0 rfl ⟨⟨tw_593, tw_5⟩, ⟨by decide, by decide, by decide +kernel⟩, by decide, by decide⟩ tw_590 tw_592 ts_MD_bytesOf rfl hl.1 (Nat.le_of_ble_eq_true rfl) ⟨by decide, by decide⟩ d_MD_stepFrom_65 (fun v h' hp => ?_)
            obtain ⟨rfl, rfl⟩ := hp
            refine g_widen (k' := 0) (n' := 0) (by decide) (by decide) ?_
            show G D s0 p l e _ s m _ below meth c h _ _ _ (F0 m 68 ls [.int (iZ (bB (bs b) r - bB (bs b) j)), .long (lZ (bG (bs b) r - bG (bs b) j)), .int (iZ (bB (bs b) (i + 1) - bB (bs b) j)), .long (lZ (bG (bs b) (i + 1) - bG (bs b) j))])
            refine g_callS (na := 4) X (c_MD_compare B0 c28g (by omega) (by omega) (by omega) (by omega) (by omega) (by omega) (by omega)) rfl ⟨⟨tw_596, tw_5⟩, ⟨by decide, by decide, by decide +kernel⟩, by decide, by decide⟩ tw_594 tw_595 rfl hl.1 (Nat.le_of_ble_eq_true rfl) ⟨by decide, by decide⟩ d_MD_stepFrom_68 (fun v h' hp => ?_)
            obtain ⟨rfl, rfl⟩ := hp
            refine g_widen (k' := 0) (n' := 0) (by decide) (by decide) ?_
            show G D s0 p l e _ s m _ below meth c h _ _ _ (F0 m 71 ls [.int (iZ (cmpZ ((bG (bs b) (i + 1) - bG (bs b) j) * (bB (bs b) r - bB (bs b) j)) ((bG (bs b) r - bG (bs b) j) * (bB (bs b) (i + 1) - bB (bs b) j))))])
            refine g_if_lt (tgt := 77) X (cmpZ_ok _ _) d_MD_stepFrom_71 (by decide) (fun c71 => ?_) (fun c71 => ?_)
            · refine g_s (fun kk => lv_iinc (v := iZ (i + 1 + 1)) (lv' := [(4, .int (iZ (i + 1 + 1))), (3, .int (iZ (r))), (2, .int (iZ (j))), (1, .int (iZ (b))), (0, .ref a)]) X.1 X.2.1 d_MD_stepFrom_77 hl (k := 0) rfl (iZ_add _ _) (by decide) rfl kk) (fun ls hl => ?_)
              refine g_goto (tgt := 7) X d_MD_stepFrom_80 (by decide) ?_
              have e9 : sfr (bs b) j (i + 1) = r := (sfr_f (fun w => by
                rcases w.2.2 with y | y
                · omega
                · rw [er] at y
                  have x := cmpZ_ge.mpr y
                  omega)).trans er
              exact ih (i + 1) r (r : Int) ls (by omega) (by omega) e9 (Or.inr ⟨by omega, rfl⟩) (lv_sub hl [0, 1, 2, 3, 4] rfl)
            · refine g_1 (fun w => lv_iload X.1 X.2.1 d_MD_stepFrom_74 (lv_at hl 0 rfl) w) ?_
              refine g_s (fun kk => lv_istore_n (lv' := [(3, .int (iZ (i + 1))), (4, .int (iZ (i + 1))), (2, .int (iZ (j))), (1, .int (iZ (b))), (0, .ref a)]) X.1 X.2.1 d_MD_stepFrom_76 rfl hl (by decide) rfl kk) (fun ls hl => ?_)
              refine g_s (fun kk => lv_iinc (v := iZ (i + 1 + 1)) (lv' := [(4, .int (iZ (i + 1 + 1))), (3, .int (iZ (i + 1))), (2, .int (iZ (j))), (1, .int (iZ (b))), (0, .ref a)]) X.1 X.2.1 d_MD_stepFrom_77 hl (k := 1) rfl (iZ_add _ _) (by decide) rfl kk) (fun ls hl => ?_)
              refine g_goto (tgt := 7) X d_MD_stepFrom_80 (by decide) ?_
              have e9 : sfr (bs b) j (i + 1) = i + 1 := sfr_t (by omega) c28g (by first | exact Or.inl (by omega) | exact Or.inr (by rw [er]; exact cmpZ_ge.mp c71))
              exact ih (i + 1) (i + 1) ((i + 1 : Nat) : Int) ls (by omega) (by omega) e9 (Or.inr ⟨by omega, rfl⟩) (lv_sub hl [0, 1, 2, 3, 4] rfl)
        · refine g_goto (tgt := 77) X d_MD_stepFrom_31 (by decide) ?_
          refine g_s (fun kk => lv_iinc (v := iZ (i + 1 + 1)) (lv' := [(4, .int (iZ (i + 1 + 1))), (3, .int (iZ (v))), (2, .int (iZ (j))), (1, .int (iZ (b))), (0, .ref a)]) X.1 X.2.1 d_MD_stepFrom_77 hl (k := 0) rfl (iZ_add _ _) (by decide) rfl kk) (fun ls hl => ?_)
          refine g_goto (tgt := 7) X d_MD_stepFrom_80 (by decide) ?_
          have e9 : sfr (bs b) j (i + 1) = r := (sfr_f (fun w => by have x := cmpZ_gt.mpr w.2.1; omega)).trans er
          exact ih (i + 1) r v ls (by omega) (by omega) e9 ev (lv_sub hl [0, 1, 2, 3, 4] rfl)
  refine g_1 (fun w => lv_iconst (v := iZ (-1)) X.1 X.2.1 d_MD_stepFrom_0 rfl w) ?_
  refine g_s (fun kk => lv_istore_n (lv' := [(3, .int (iZ ((-1)))), (0, .ref a), (1, .int (iZ (b))), (2, .int (iZ (j)))]) X.1 X.2.1 d_MD_stepFrom_1 rfl hl (by decide) rfl kk) (fun ls hl => ?_)
  refine g_1 (fun w => lv_iload_n X.1 X.2.1 d_MD_stepFrom_2 rfl (lv_at hl 3 rfl) w) ?_
  refine g_1 (fun w => lv_iconst (v := iZ 1) X.1 X.2.1 d_MD_stepFrom_3 rfl w) ?_
  refine g_iadd X d_MD_stepFrom_4 ?_
  refine g_s (fun kk => lv_istore (lv' := [(4, .int (iZ (j + 1))), (3, .int (iZ ((-1)))), (0, .ref a), (1, .int (iZ (b))), (2, .int (iZ (j)))]) X.1 X.2.1 d_MD_stepFrom_5 hl (by decide) rfl kk) (fun ls hl => ?_)
  exact loop (bP (bs b) - j) j 0 (-1) ls (by omega) (Nat.le_refl _) (sfr_0 (Nat.le_refl _)) (Or.inl ⟨rfl, rfl⟩) (lv_sub hl [0, 1, 4, 3, 2] rfl)

set_option maxHeartbeats 4000000 in
set_option maxRecDepth 100000 in
theorem c_MD_countOf {D : va_G} {s0 : State} {l : Launch} {h : gH} (B0 : gB D s0) {a n : Nat} {M : Mdl} {bs : Nat → Blk} (hm : isMD D h a M) (hv : mV M n bs) (hw : ∀ b, b < n → wfC (bs b)) (b : Nat) (hb : b < n) : gMet D s0 l y_MD_countOf b_MD_countOf 4 (some .int) ({ frames := 2, cells := 0, slots := 0, locals := 53 } : Room) [.ref a, .int (iZ (b))] h (fun v h' => some (.int (iZ (bS (bs b)))) = v ∧ h = h') := by
  obtain ⟨p3, p4, p6, p7, p9, p10, p11, p12, p13, p14, f0, f3, f4, f6, f7, f9, f10, f11, f12, f13, f14⟩ := id hm
  obtain ⟨v1, v2, v3, v4, v5⟩ := id hv
  obtain ⟨u1, u2, u3⟩ := v5 b hb
  obtain ⟨⟨⟨k1, k2, k3, k4, k5, k6, k7, k8⟩, w2, w3, w4⟩, w5, w6⟩ := id (hw b hb)
  have wc := hw b hb
  refine g_enter B0 (plainFor_of_name (by decide)) (Nat.le_of_ble_eq_true rfl) (fun p e s m below meth c ls X hnm hl => ?_)
  have hl : lv_has ls 4 [(0, .ref a), (1, .int (iZ (b)))] := hl
  have loop : ∀ (d i : Nat) (v : Int) (ls : Array Slot), i + d = bS (bs b) → v = eN (sfr (bs b) (bC (bs b) i) (bP (bs b))) → lv_has ls 4 [(3, .int (iZ (v))), (2, .int (iZ (i))), (1, .int (iZ (b))), (0, .ref a)] → G D s0 p l e ({ frames := 2, cells := 0, slots := 0, locals := 53 } : Room) s m ([.ref a, .int (iZ (b))] : List Value).toArray below meth c h 0 0 (MQ below (gQ D s0 (fun v h' => some (.int (iZ (bS (bs b)))) = v ∧ h = h')) ([.ref a, .int (iZ (b))] : List Value).toArray s 0 0 (fun q => s0.heap.size ≤ q)) (F0 m 9 ls []) := by
    intro d
    induction d with
    | zero =>
      intro i v ls hi ev hl
      have ev2 : v = -1 := by rw [ev, show i = bS (bs b) by omega]; exact eN_0 w5.2
      refine g_1 (fun w => lv_iload_n X.1 X.2.1 d_MD_countOf_9 rfl (lv_at hl 0 rfl) w) ?_
      refine g_if_lt (tgt := 26) X (by first | exact ⟨by omega, by omega⟩ | (split <;> exact ⟨by omega, by omega⟩) | exact cmpZ_ok _ _ | exact mul_ok (by omega) (by omega) (by omega) (by omega)) d_MD_countOf_10 (by decide) (fun c10 => ?_) (fun c10 => ?_)
      · refine g_1 (fun w => lv_iload_n X.1 X.2.1 d_MD_countOf_26 rfl (lv_at hl 1 rfl) w) ?_
        exact g_iret X (⟨g_ei (by omega), rfl⟩) (by decide) (by decide) d_MD_countOf_27
      · exfalso
        omega
    | succ d ih =>
      intro i v ls hi ev hl
      have y1 := w3 i (by omega)
      have y2 := wc.cle (s := i + 1) (by omega)
      have ev2 : v = (bC (bs b) (i + 1) : Int) := by rw [ev, w5.1 i (by omega)]; exact eN_s (by omega)
      subst ev2
      refine g_1 (fun w => lv_iload_n X.1 X.2.1 d_MD_countOf_9 rfl (lv_at hl 0 rfl) w) ?_
      refine g_if_lt (tgt := 26) X (by first | exact ⟨by omega, by omega⟩ | (split <;> exact ⟨by omega, by omega⟩) | exact cmpZ_ok _ _ | exact mul_ok (by omega) (by omega) (by omega) (by omega)) d_MD_countOf_10 (by decide) (fun c10 => ?_) (fun c10 => ?_)
      · exfalso
        omega
      · refine g_s (fun kk => lv_iinc (v := iZ (i + 1)) (lv' := [(2, .int (iZ (i + 1))), (3, .int (iZ (bC (bs b) (i + 1)))), (1, .int (iZ (b))), (0, .ref a)]) X.1 X.2.1 d_MD_countOf_13 hl (k := 1) rfl (iZ_add _ _) (by decide) rfl kk) (fun ls hl => ?_)
        refine g_1 (fun w => lv_aload_n X.1 X.2.1 d_MD_countOf_16 rfl (lv_at hl 3 rfl) w) ?_
        refine g_1 (fun w => lv_iload_n X.1 X.2.1 d_MD_countOf_17 rfl (lv_at hl 2 rfl) w) ?_
        refine g_1 (fun w => lv_iload_n X.1 X.2.1 d_MD_countOf_18 rfl (lv_at hl 1 rfl) w) ?_
        refine g_callV (na := 2) X (c_MD_stepFrom B0 hm hv hw b (bC (bs b) (i + 1)) (by omega) (by omega)) rfl f0 rfl ⟨⟨tw_585, tw_5⟩, ⟨by decide, by decide, by decide +kernel⟩, by decide, by decide⟩ tw_582 tw_584 ts_MD_stepFrom rfl hl.1 (Nat.le_of_ble_eq_true rfl) ⟨by decide, by decide⟩ d_MD_countOf_19 (fun v h' hp => ?_)
        obtain ⟨rfl, rfl⟩ := hp
        refine g_widen (k' := 0) (n' := 0) (by decide) (by decide) ?_
        show G D s0 p l e _ s m _ below meth c h _ _ _ (F0 m 22 ls [.int (iZ (eN (sfr (bs b) (bC (bs b) (i + 1)) (bP (bs b)))))])
        refine g_s (fun kk => lv_istore_n (lv' := [(3, .int (iZ (eN (sfr (bs b) (bC (bs b) (i + 1)) (bP (bs b)))))), (2, .int (iZ (i + 1))), (1, .int (iZ (b))), (0, .ref a)]) X.1 X.2.1 d_MD_countOf_22 rfl hl (by decide) rfl kk) (fun ls hl => ?_)
        refine g_goto (tgt := 9) X d_MD_countOf_23 (by decide) ?_
        exact ih (i + 1) _ ls (by omega) rfl (lv_sub hl [0, 1, 2, 3] rfl)
  refine g_1 (fun w => lv_iconst (v := iZ 0) X.1 X.2.1 d_MD_countOf_0 rfl w) ?_
  refine g_s (fun kk => lv_istore_n (lv' := [(2, .int (iZ (0))), (0, .ref a), (1, .int (iZ (b)))]) X.1 X.2.1 d_MD_countOf_1 rfl hl (by decide) rfl kk) (fun ls hl => ?_)
  refine g_1 (fun w => lv_aload_n X.1 X.2.1 d_MD_countOf_2 rfl (lv_at hl 1 rfl) w) ?_
  refine g_1 (fun w => lv_iload_n X.1 X.2.1 d_MD_countOf_3 rfl (lv_at hl 2 rfl) w) ?_
  refine g_1 (fun w => lv_iconst (v := iZ 0) X.1 X.2.1 d_MD_countOf_4 rfl w) ?_
  refine g_callV (na := 2) X (c_MD_stepFrom B0 hm hv hw b 0 (by omega) (by omega)) rfl f0 rfl ⟨⟨tw_585, tw_5⟩, ⟨by decide, by decide, by decide +kernel⟩, by decide, by decide⟩ tw_582 tw_584 ts_MD_stepFrom rfl hl.1 (Nat.le_of_ble_eq_true rfl) ⟨by decide, by decide⟩ d_MD_countOf_5 (fun v h' hp => ?_)
  obtain ⟨rfl, rfl⟩ := hp
  refine g_widen (k' := 0) (n' := 0) (by decide) (by decide) ?_
  show G D s0 p l e _ s m _ below meth c h _ _ _ (F0 m 8 ls [.int (iZ (eN (sfr (bs b) 0 (bP (bs b)))))])
  refine g_s (fun kk => lv_istore_n (lv' := [(3, .int (iZ (eN (sfr (bs b) 0 (bP (bs b)))))), (2, .int (iZ (0))), (0, .ref a), (1, .int (iZ (b)))]) X.1 X.2.1 d_MD_countOf_8 rfl hl (by decide) rfl kk) (fun ls hl => ?_)
  exact loop (bS (bs b)) 0 _ ls (by omega) (by rw [w2]) (lv_sub hl [0, 1, 3, 2] rfl)

set_option maxHeartbeats 4000000 in
set_option maxRecDepth 100000 in
theorem c_MD_beginOf {D : va_G} {s0 : State} {l : Launch} {h : gH} (B0 : gB D s0) {a n : Nat} {M : Mdl} {bs : Nat → Blk} (hm : isMD D h a M) (hv : mV M n bs) (hw : ∀ b, b < n → wfC (bs b)) (b : Nat) (hb : b < n) {i : Int} (hi : i_ok i) : gMet D s0 l y_MD_beginOf b_MD_beginOf 5 (some .int) ({ frames := 2, cells := 0, slots := 0, locals := 53 } : Room) [.ref a, .int (iZ (b)), .int (iZ (i))] h (fun v h' => some (.int (iZ (if 0 ≤ i ∧ i < bS (bs b) then (bC (bs b) i.toNat : Int) else -1))) = v ∧ h = h') := by
  obtain ⟨p3, p4, p6, p7, p9, p10, p11, p12, p13, p14, f0, f3, f4, f6, f7, f9, f10, f11, f12, f13, f14⟩ := id hm
  obtain ⟨v1, v2, v3, v4, v5⟩ := id hv
  obtain ⟨u1, u2, u3⟩ := v5 b hb
  obtain ⟨⟨⟨k1, k2, k3, k4, k5, k6, k7, k8⟩, w2, w3, w4⟩, w5, w6⟩ := id (hw b hb)
  have wc := hw b hb
  obtain ⟨hi1, hi2⟩ := id hi
  refine g_enter B0 (plainFor_of_name (by decide)) (Nat.le_of_ble_eq_true rfl) (fun p e s m below meth c ls X hnm hl => ?_)
  have hl : lv_has ls 5 [(0, .ref a), (1, .int (iZ (b))), (2, .int (iZ (i)))] := hl
  have loop : ∀ (d s1 : Nat) (ls : Array Slot), s1 + d = bS (bs b) → (s1 = 0 ∨ s1 ≤ i) → lv_has ls 5 [(4, .int (iZ (s1))), (3, .int (iZ (bC (bs b) s1))), (2, .int (iZ (i))), (1, .int (iZ (b))), (0, .ref a)] → G D s0 p l e ({ frames := 2, cells := 0, slots := 0, locals := 53 } : Room) s m ([.ref a, .int (iZ (b)), .int (iZ (i))] : List Value).toArray below meth c h 0 0 (MQ below (gQ D s0 (fun v h' => some (.int (iZ (if 0 ≤ i ∧ i < bS (bs b) then (bC (bs b) i.toNat : Int) else -1))) = v ∧ h = h')) ([.ref a, .int (iZ (b)), .int (iZ (i))] : List Value).toArray s 0 0 (fun q => s0.heap.size ≤ q)) (F0 m 5 ls []) := by
    intro d
    induction d with
    | zero =>
      intro s1 ls hs1 hsi hl
      have y2 := wc.cle (s := s1) (by omega)
      have he : eN (sfr (bs b) (bC (bs b) s1) (bP (bs b))) = -1 := by rw [show s1 = bS (bs b) by omega]; exact eN_0 w5.2
      refine g_1 (fun w => lv_iload X.1 X.2.1 d_MD_beginOf_5 (lv_at hl 0 rfl) w) ?_
      refine g_1 (fun w => lv_iload_n X.1 X.2.1 d_MD_beginOf_7 rfl (lv_at hl 2 rfl) w) ?_
      refine g_icmp_ge (tgt := 33) X (by first | exact ⟨by omega, by omega⟩ | (split <;> exact ⟨by omega, by omega⟩) | exact cmpZ_ok _ _ | exact mul_ok (by omega) (by omega) (by omega) (by omega)) (by first | exact ⟨by omega, by omega⟩ | (split <;> exact ⟨by omega, by omega⟩) | exact cmpZ_ok _ _ | exact mul_ok (by omega) (by omega) (by omega) (by omega)) d_MD_beginOf_8 (by decide) (fun c8 => ?_) (fun c8 => ?_)
      · refine g_1 (fun w => lv_iload_n X.1 X.2.1 d_MD_beginOf_33 rfl (lv_at hl 2 rfl) w) ?_
        refine g_if_lt (tgt := 56) X (by first | exact ⟨by omega, by omega⟩ | (split <;> exact ⟨by omega, by omega⟩) | exact cmpZ_ok _ _ | exact mul_ok (by omega) (by omega) (by omega) (by omega)) d_MD_beginOf_34 (by decide) (fun c34 => ?_) (fun c34 => ?_)
        · refine g_1 (fun w => lv_iconst (v := iZ (-1)) X.1 X.2.1 d_MD_beginOf_56 rfl w) ?_
          exact g_iret X (⟨g_ei (by first | (rw [if_neg (by omega)]; done) | (rw [if_pos (by omega), show i.toNat = s1 by omega])), rfl⟩) (by decide) (by decide) d_MD_beginOf_57
        · refine g_1 (fun w => lv_iload X.1 X.2.1 d_MD_beginOf_37 (lv_at hl 0 rfl) w) ?_
          refine g_1 (fun w => lv_iload_n X.1 X.2.1 d_MD_beginOf_39 rfl (lv_at hl 2 rfl) w) ?_
          refine g_icmp_ne (tgt := 56) X (by first | exact ⟨by omega, by omega⟩ | (split <;> exact ⟨by omega, by omega⟩) | exact cmpZ_ok _ _ | exact mul_ok (by omega) (by omega) (by omega) (by omega)) (by first | exact ⟨by omega, by omega⟩ | (split <;> exact ⟨by omega, by omega⟩) | exact cmpZ_ok _ _ | exact mul_ok (by omega) (by omega) (by omega) (by omega)) d_MD_beginOf_40 (by decide) (fun c40 => ?_) (fun c40 => ?_)
          · refine g_1 (fun w => lv_iconst (v := iZ (-1)) X.1 X.2.1 d_MD_beginOf_56 rfl w) ?_
            exact g_iret X (⟨g_ei (by first | (rw [if_neg (by omega)]; done) | (rw [if_pos (by omega), show i.toNat = s1 by omega])), rfl⟩) (by decide) (by decide) d_MD_beginOf_57
          · refine g_1 (fun w => lv_aload_n X.1 X.2.1 d_MD_beginOf_43 rfl (lv_at hl 4 rfl) w) ?_
            refine g_1 (fun w => lv_iload_n X.1 X.2.1 d_MD_beginOf_44 rfl (lv_at hl 3 rfl) w) ?_
            refine g_1 (fun w => lv_iload_n X.1 X.2.1 d_MD_beginOf_45 rfl (lv_at hl 1 rfl) w) ?_
            refine g_callV (na := 2) X (c_MD_stepFrom B0 hm hv hw b (bC (bs b) s1) (by omega) (by omega)) rfl f0 rfl ⟨⟨tw_585, tw_5⟩, ⟨by decide, by decide, by decide +kernel⟩, by decide, by decide⟩ tw_582 tw_584 ts_MD_stepFrom rfl hl.1 (Nat.le_of_ble_eq_true rfl) ⟨by decide, by decide⟩ d_MD_beginOf_46 (fun v h' hp => ?_)
            obtain ⟨rfl, rfl⟩ := hp
            refine g_widen (k' := 0) (n' := 0) (by decide) (by decide) ?_
            show G D s0 p l e _ s m _ below meth c h _ _ _ (F0 m 49 ls [.int (iZ (eN (sfr (bs b) (bC (bs b) s1) (bP (bs b)))))])
            refine g_ti (congrArg iZ (show (eN (sfr (bs b) (bC (bs b) s1) (bP (bs b))) : Int) = (-1) from he)) ?_
            refine g_if_lt (tgt := 56) X (by first | exact ⟨by omega, by omega⟩ | (split <;> exact ⟨by omega, by omega⟩) | exact cmpZ_ok _ _ | exact mul_ok (by omega) (by omega) (by omega) (by omega)) d_MD_beginOf_49 (by decide) (fun c49 => ?_) (fun c49 => ?_)
            · refine g_1 (fun w => lv_iconst (v := iZ (-1)) X.1 X.2.1 d_MD_beginOf_56 rfl w) ?_
              exact g_iret X (⟨g_ei (by first | (rw [if_neg (by omega)]; done) | (rw [if_pos (by omega), show i.toNat = s1 by omega])), rfl⟩) (by decide) (by decide) d_MD_beginOf_57
            · exact absurd c49 (by decide)
      · refine g_1 (fun w => lv_aload_n X.1 X.2.1 d_MD_beginOf_11 rfl (lv_at hl 4 rfl) w) ?_
        refine g_1 (fun w => lv_iload_n X.1 X.2.1 d_MD_beginOf_12 rfl (lv_at hl 3 rfl) w) ?_
        refine g_1 (fun w => lv_iload_n X.1 X.2.1 d_MD_beginOf_13 rfl (lv_at hl 1 rfl) w) ?_
        refine g_callV (na := 2) X (c_MD_stepFrom B0 hm hv hw b (bC (bs b) s1) (by omega) (by omega)) rfl f0 rfl ⟨⟨tw_585, tw_5⟩, ⟨by decide, by decide, by decide +kernel⟩, by decide, by decide⟩ tw_582 tw_584 ts_MD_stepFrom rfl hl.1 (Nat.le_of_ble_eq_true rfl) ⟨by decide, by decide⟩ d_MD_beginOf_14 (fun v h' hp => ?_)
        obtain ⟨rfl, rfl⟩ := hp
        refine g_widen (k' := 0) (n' := 0) (by decide) (by decide) ?_
        show G D s0 p l e _ s m _ below meth c h _ _ _ (F0 m 17 ls [.int (iZ (eN (sfr (bs b) (bC (bs b) s1) (bP (bs b)))))])
        refine g_ti (congrArg iZ (show (eN (sfr (bs b) (bC (bs b) s1) (bP (bs b))) : Int) = (-1) from he)) ?_
        refine g_if_lt (tgt := 33) X (by first | exact ⟨by omega, by omega⟩ | (split <;> exact ⟨by omega, by omega⟩) | exact cmpZ_ok _ _ | exact mul_ok (by omega) (by omega) (by omega) (by omega)) d_MD_beginOf_17 (by decide) (fun c17 => ?_) (fun c17 => ?_)
        · refine g_1 (fun w => lv_iload_n X.1 X.2.1 d_MD_beginOf_33 rfl (lv_at hl 2 rfl) w) ?_
          refine g_if_lt (tgt := 56) X (by first | exact ⟨by omega, by omega⟩ | (split <;> exact ⟨by omega, by omega⟩) | exact cmpZ_ok _ _ | exact mul_ok (by omega) (by omega) (by omega) (by omega)) d_MD_beginOf_34 (by decide) (fun c34 => ?_) (fun c34 => ?_)
          · refine g_1 (fun w => lv_iconst (v := iZ (-1)) X.1 X.2.1 d_MD_beginOf_56 rfl w) ?_
            exact g_iret X (⟨g_ei (by first | (rw [if_neg (by omega)]; done) | (rw [if_pos (by omega), show i.toNat = s1 by omega])), rfl⟩) (by decide) (by decide) d_MD_beginOf_57
          · refine g_1 (fun w => lv_iload X.1 X.2.1 d_MD_beginOf_37 (lv_at hl 0 rfl) w) ?_
            refine g_1 (fun w => lv_iload_n X.1 X.2.1 d_MD_beginOf_39 rfl (lv_at hl 2 rfl) w) ?_
            refine g_icmp_ne (tgt := 56) X (by first | exact ⟨by omega, by omega⟩ | (split <;> exact ⟨by omega, by omega⟩) | exact cmpZ_ok _ _ | exact mul_ok (by omega) (by omega) (by omega) (by omega)) (by first | exact ⟨by omega, by omega⟩ | (split <;> exact ⟨by omega, by omega⟩) | exact cmpZ_ok _ _ | exact mul_ok (by omega) (by omega) (by omega) (by omega)) d_MD_beginOf_40 (by decide) (fun c40 => ?_) (fun c40 => ?_)
            · refine g_1 (fun w => lv_iconst (v := iZ (-1)) X.1 X.2.1 d_MD_beginOf_56 rfl w) ?_
              exact g_iret X (⟨g_ei (by first | (rw [if_neg (by omega)]; done) | (rw [if_pos (by omega), show i.toNat = s1 by omega])), rfl⟩) (by decide) (by decide) d_MD_beginOf_57
            · refine g_1 (fun w => lv_aload_n X.1 X.2.1 d_MD_beginOf_43 rfl (lv_at hl 4 rfl) w) ?_
              refine g_1 (fun w => lv_iload_n X.1 X.2.1 d_MD_beginOf_44 rfl (lv_at hl 3 rfl) w) ?_
              refine g_1 (fun w => lv_iload_n X.1 X.2.1 d_MD_beginOf_45 rfl (lv_at hl 1 rfl) w) ?_
              refine g_callV (na := 2) X (c_MD_stepFrom B0 hm hv hw b (bC (bs b) s1) (by omega) (by omega)) rfl f0 rfl ⟨⟨tw_585, tw_5⟩, ⟨by decide, by decide, by decide +kernel⟩, by decide, by decide⟩ tw_582 tw_584 ts_MD_stepFrom rfl hl.1 (Nat.le_of_ble_eq_true rfl) ⟨by decide, by decide⟩ d_MD_beginOf_46 (fun v h' hp => ?_)
              obtain ⟨rfl, rfl⟩ := hp
              refine g_widen (k' := 0) (n' := 0) (by decide) (by decide) ?_
              show G D s0 p l e _ s m _ below meth c h _ _ _ (F0 m 49 ls [.int (iZ (eN (sfr (bs b) (bC (bs b) s1) (bP (bs b)))))])
              refine g_ti (congrArg iZ (show (eN (sfr (bs b) (bC (bs b) s1) (bP (bs b))) : Int) = (-1) from he)) ?_
              refine g_if_lt (tgt := 56) X (by first | exact ⟨by omega, by omega⟩ | (split <;> exact ⟨by omega, by omega⟩) | exact cmpZ_ok _ _ | exact mul_ok (by omega) (by omega) (by omega) (by omega)) d_MD_beginOf_49 (by decide) (fun c49 => ?_) (fun c49 => ?_)
              · refine g_1 (fun w => lv_iconst (v := iZ (-1)) X.1 X.2.1 d_MD_beginOf_56 rfl w) ?_
                exact g_iret X (⟨g_ei (by first | (rw [if_neg (by omega)]; done) | (rw [if_pos (by omega), show i.toNat = s1 by omega])), rfl⟩) (by decide) (by decide) d_MD_beginOf_57
              · exact absurd c49 (by decide)
        · exact absurd c17 (by decide)
    | succ d ih =>
      intro s1 ls hs1 hsi hl
      have y1 := w3 s1 (by omega)
      have y2 := wc.cle (s := s1) (by omega)
      have he : eN (sfr (bs b) (bC (bs b) s1) (bP (bs b))) = (bC (bs b) (s1 + 1) : Int) := by rw [w5.1 s1 (by omega)]; exact eN_s (by omega)
      refine g_1 (fun w => lv_iload X.1 X.2.1 d_MD_beginOf_5 (lv_at hl 0 rfl) w) ?_
      refine g_1 (fun w => lv_iload_n X.1 X.2.1 d_MD_beginOf_7 rfl (lv_at hl 2 rfl) w) ?_
      refine g_icmp_ge (tgt := 33) X (by first | exact ⟨by omega, by omega⟩ | (split <;> exact ⟨by omega, by omega⟩) | exact cmpZ_ok _ _ | exact mul_ok (by omega) (by omega) (by omega) (by omega)) (by first | exact ⟨by omega, by omega⟩ | (split <;> exact ⟨by omega, by omega⟩) | exact cmpZ_ok _ _ | exact mul_ok (by omega) (by omega) (by omega) (by omega)) d_MD_beginOf_8 (by decide) (fun c8 => ?_) (fun c8 => ?_)
      · refine g_1 (fun w => lv_iload_n X.1 X.2.1 d_MD_beginOf_33 rfl (lv_at hl 2 rfl) w) ?_
        refine g_if_lt (tgt := 56) X (by first | exact ⟨by omega, by omega⟩ | (split <;> exact ⟨by omega, by omega⟩) | exact cmpZ_ok _ _ | exact mul_ok (by omega) (by omega) (by omega) (by omega)) d_MD_beginOf_34 (by decide) (fun c34 => ?_) (fun c34 => ?_)
        · refine g_1 (fun w => lv_iconst (v := iZ (-1)) X.1 X.2.1 d_MD_beginOf_56 rfl w) ?_
          exact g_iret X (⟨g_ei (by first | (rw [if_neg (by omega)]; done) | (rw [if_pos (by omega), show i.toNat = s1 by omega])), rfl⟩) (by decide) (by decide) d_MD_beginOf_57
        · refine g_1 (fun w => lv_iload X.1 X.2.1 d_MD_beginOf_37 (lv_at hl 0 rfl) w) ?_
          refine g_1 (fun w => lv_iload_n X.1 X.2.1 d_MD_beginOf_39 rfl (lv_at hl 2 rfl) w) ?_
          refine g_icmp_ne (tgt := 56) X (by first | exact ⟨by omega, by omega⟩ | (split <;> exact ⟨by omega, by omega⟩) | exact cmpZ_ok _ _ | exact mul_ok (by omega) (by omega) (by omega) (by omega)) (by first | exact ⟨by omega, by omega⟩ | (split <;> exact ⟨by omega, by omega⟩) | exact cmpZ_ok _ _ | exact mul_ok (by omega) (by omega) (by omega) (by omega)) d_MD_beginOf_40 (by decide) (fun c40 => ?_) (fun c40 => ?_)
          · refine g_1 (fun w => lv_iconst (v := iZ (-1)) X.1 X.2.1 d_MD_beginOf_56 rfl w) ?_
            exact g_iret X (⟨g_ei (by first | (rw [if_neg (by omega)]; done) | (rw [if_pos (by omega), show i.toNat = s1 by omega])), rfl⟩) (by decide) (by decide) d_MD_beginOf_57
          · refine g_1 (fun w => lv_aload_n X.1 X.2.1 d_MD_beginOf_43 rfl (lv_at hl 4 rfl) w) ?_
            refine g_1 (fun w => lv_iload_n X.1 X.2.1 d_MD_beginOf_44 rfl (lv_at hl 3 rfl) w) ?_
            refine g_1 (fun w => lv_iload_n X.1 X.2.1 d_MD_beginOf_45 rfl (lv_at hl 1 rfl) w) ?_
            refine g_callV (na := 2) X (c_MD_stepFrom B0 hm hv hw b (bC (bs b) s1) (by omega) (by omega)) rfl f0 rfl ⟨⟨tw_585, tw_5⟩, ⟨by decide, by decide, by decide +kernel⟩, by decide, by decide⟩ tw_582 tw_584 ts_MD_stepFrom rfl hl.1 (Nat.le_of_ble_eq_true rfl) ⟨by decide, by decide⟩ d_MD_beginOf_46 (fun v h' hp => ?_)
            obtain ⟨rfl, rfl⟩ := hp
            refine g_widen (k' := 0) (n' := 0) (by decide) (by decide) ?_
            show G D s0 p l e _ s m _ below meth c h _ _ _ (F0 m 49 ls [.int (iZ (eN (sfr (bs b) (bC (bs b) s1) (bP (bs b)))))])
            refine g_ti (congrArg iZ (show (eN (sfr (bs b) (bC (bs b) s1) (bP (bs b))) : Int) = bC (bs b) (s1 + 1) from he)) ?_
            refine g_if_lt (tgt := 56) X (by first | exact ⟨by omega, by omega⟩ | (split <;> exact ⟨by omega, by omega⟩) | exact cmpZ_ok _ _ | exact mul_ok (by omega) (by omega) (by omega) (by omega)) d_MD_beginOf_49 (by decide) (fun c49 => ?_) (fun c49 => ?_)
            · refine g_1 (fun w => lv_iconst (v := iZ (-1)) X.1 X.2.1 d_MD_beginOf_56 rfl w) ?_
              exact g_iret X (⟨g_ei (by first | (rw [if_neg (by omega)]; done) | (rw [if_pos (by omega), show i.toNat = s1 by omega])), rfl⟩) (by decide) (by decide) d_MD_beginOf_57
            · refine g_1 (fun w => lv_iload_n X.1 X.2.1 d_MD_beginOf_52 rfl (lv_at hl 1 rfl) w) ?_
              refine g_goto (tgt := 57) X d_MD_beginOf_53 (by decide) ?_
              exact g_iret X (⟨g_ei (by first | (rw [if_neg (by omega)]; done) | (rw [if_pos (by omega), show i.toNat = s1 by omega])), rfl⟩) (by decide) (by decide) d_MD_beginOf_57
      · refine g_1 (fun w => lv_aload_n X.1 X.2.1 d_MD_beginOf_11 rfl (lv_at hl 4 rfl) w) ?_
        refine g_1 (fun w => lv_iload_n X.1 X.2.1 d_MD_beginOf_12 rfl (lv_at hl 3 rfl) w) ?_
        refine g_1 (fun w => lv_iload_n X.1 X.2.1 d_MD_beginOf_13 rfl (lv_at hl 1 rfl) w) ?_
        refine g_callV (na := 2) X (c_MD_stepFrom B0 hm hv hw b (bC (bs b) s1) (by omega) (by omega)) rfl f0 rfl ⟨⟨tw_585, tw_5⟩, ⟨by decide, by decide, by decide +kernel⟩, by decide, by decide⟩ tw_582 tw_584 ts_MD_stepFrom rfl hl.1 (Nat.le_of_ble_eq_true rfl) ⟨by decide, by decide⟩ d_MD_beginOf_14 (fun v h' hp => ?_)
        obtain ⟨rfl, rfl⟩ := hp
        refine g_widen (k' := 0) (n' := 0) (by decide) (by decide) ?_
        show G D s0 p l e _ s m _ below meth c h _ _ _ (F0 m 17 ls [.int (iZ (eN (sfr (bs b) (bC (bs b) s1) (bP (bs b)))))])
        refine g_ti (congrArg iZ (show (eN (sfr (bs b) (bC (bs b) s1) (bP (bs b))) : Int) = bC (bs b) (s1 + 1) from he)) ?_
        refine g_if_lt (tgt := 33) X (by first | exact ⟨by omega, by omega⟩ | (split <;> exact ⟨by omega, by omega⟩) | exact cmpZ_ok _ _ | exact mul_ok (by omega) (by omega) (by omega) (by omega)) d_MD_beginOf_17 (by decide) (fun c17 => ?_) (fun c17 => ?_)
        · exfalso
          omega
        · refine g_1 (fun w => lv_aload_n X.1 X.2.1 d_MD_beginOf_20 rfl (lv_at hl 4 rfl) w) ?_
          refine g_1 (fun w => lv_iload_n X.1 X.2.1 d_MD_beginOf_21 rfl (lv_at hl 3 rfl) w) ?_
          refine g_1 (fun w => lv_iload_n X.1 X.2.1 d_MD_beginOf_22 rfl (lv_at hl 1 rfl) w) ?_
          refine g_callV (na := 2) X (c_MD_stepFrom B0 hm hv hw b (bC (bs b) s1) (by omega) (by omega)) rfl f0 rfl ⟨⟨tw_585, tw_5⟩, ⟨by decide, by decide, by decide +kernel⟩, by decide, by decide⟩ tw_582 tw_584 ts_MD_stepFrom rfl hl.1 (Nat.le_of_ble_eq_true rfl) ⟨by decide, by decide⟩ d_MD_beginOf_23 (fun v h' hp => ?_)
          obtain ⟨rfl, rfl⟩ := hp
          refine g_widen (k' := 0) (n' := 0) (by decide) (by decide) ?_
          show G D s0 p l e _ s m _ below meth c h _ _ _ (F0 m 26 ls [.int (iZ (eN (sfr (bs b) (bC (bs b) s1) (bP (bs b)))))])
          refine g_ti (congrArg iZ (show (eN (sfr (bs b) (bC (bs b) s1) (bP (bs b))) : Int) = bC (bs b) (s1 + 1) from he)) ?_
          refine g_s (fun kk => lv_istore_n (lv' := [(3, .int (iZ (bC (bs b) (s1 + 1)))), (4, .int (iZ (s1))), (2, .int (iZ (i))), (1, .int (iZ (b))), (0, .ref a)]) X.1 X.2.1 d_MD_beginOf_26 rfl hl (by decide) rfl kk) (fun ls hl => ?_)
          refine g_s (fun kk => lv_iinc (v := iZ (s1 + 1)) (lv' := [(4, .int (iZ (s1 + 1))), (3, .int (iZ (bC (bs b) (s1 + 1)))), (2, .int (iZ (i))), (1, .int (iZ (b))), (0, .ref a)]) X.1 X.2.1 d_MD_beginOf_27 hl (k := 1) rfl (iZ_add _ _) (by decide) rfl kk) (fun ls hl => ?_)
          refine g_goto (tgt := 5) X d_MD_beginOf_30 (by decide) ?_
          exact ih (s1 + 1) ls (by omega) (Or.inr (by omega)) (lv_sub hl [0, 1, 2, 3, 4] rfl)
  refine g_1 (fun w => lv_iconst (v := iZ 0) X.1 X.2.1 d_MD_beginOf_0 rfl w) ?_
  refine g_s (fun kk => lv_istore_n (lv' := [(3, .int (iZ (0))), (0, .ref a), (1, .int (iZ (b))), (2, .int (iZ (i)))]) X.1 X.2.1 d_MD_beginOf_1 rfl hl (by decide) rfl kk) (fun ls hl => ?_)
  refine g_1 (fun w => lv_iconst (v := iZ 0) X.1 X.2.1 d_MD_beginOf_2 rfl w) ?_
  refine g_s (fun kk => lv_istore (lv' := [(4, .int (iZ (0))), (3, .int (iZ (0))), (0, .ref a), (1, .int (iZ (b))), (2, .int (iZ (i)))]) X.1 X.2.1 d_MD_beginOf_3 hl (by decide) rfl kk) (fun ls hl => ?_)
  exact loop (bS (bs b)) 0 ls (by omega) (Or.inl rfl) (by rw [w2]; exact lv_sub hl [0, 1, 4, 3, 2] rfl)
end
section
theorem thr_p {f : Int} (h : 0 < thr f 0) : f ≠ 0 := by
  intro z
  rw [thr_0 z rfl] at h
  exact absurd h (by decide)
theorem thr_z {f : Int} (h : ¬ 0 < thr f 0) : f = 0 := by
  rcases Classical.em (f = 0) with z | z
  · exact z
  · rw [thr_1 z] at h; exact absurd (by decide) h
abbrev sBad (n : Nat) (i j z : Int) : Prop := ¬ (0 ≤ i ∧ i < n) ∨ (j ≠ -1 ∧ ¬ (z = 0 ∨ z = 1))
theorem ok_if {p : Prop} [Decidable p] {c : Nat} (h : c ≤ 120) : i_ok (if p then (c : Int) else -1) := by
  split
  · exact ⟨by omega, by omega⟩
  · exact ⟨by omega, by omega⟩

set_option maxHeartbeats 4000000 in
set_option maxRecDepth 100000 in
theorem c_MD_total {D : va_G} {s0 : State} {l : Launch} {h : gH} (B0 : gB D s0) {a n : Nat} {M : Mdl} {bs : Nat → Blk} (hm : isMD D h a M) (hv : mV M n bs) (hw : ∀ b, b < n → wfC (bs b)) {yn : Nat} {ys : Nat → Lay} (hL : mL M n yn ys) {i : Int} (hi : i_ok i) : gMet D s0 l y_MD_total b_MD_total 2 (some .int) ({ frames := 1, cells := 0, slots := 0, locals := 22 } : Room) [.ref a, .int (iZ (i))] h (fun v h' => ∃ t r : Int, some (.int (iZ r)) = v ∧ isMD D h' a (t, M.2) ∧ kp P_MD h h' ∧ ((¬ (0 ≤ i ∧ i < yn) ∧ t = 1) ∨ ∃ j : Nat, (j : Int) = i ∧ j < yn ∧ t = 0 ∧ r = (ys j).2.2.1)) := by
  obtain ⟨p3, p4, p6, p7, p9, p10, p11, p12, p13, p14, f0, f3, f4, f6, f7, f9, f10, f11, f12, f13, f14⟩ := id hm
  obtain ⟨v1, v2, v3, v4, v5⟩ := id hv
  obtain ⟨l1, l2, l3⟩ := id hL
  obtain ⟨hi1, hi2⟩ := id hi
  refine g_enter B0 (plainFor_of_name (by decide)) (Nat.le_of_ble_eq_true rfl) (fun p e s m below meth c ls X hnm hl => ?_)
  have hl : lv_has ls 2 [(0, .ref a), (1, .int (iZ (i)))] := hl
  refine g_1 (fun w => lv_aload_n X.1 X.2.1 d_MD_total_0 rfl (lv_at hl 0 rfl) w) ?_
  refine g_1 (fun w => lv_iload_n X.1 X.2.1 d_MD_total_1 rfl (lv_at hl 1 rfl) w) ?_
  refine g_1 (fun w => lv_iconst (v := iZ 0) X.1 X.2.1 d_MD_total_2 rfl w) ?_
  refine g_1 (fun w => lv_aload_n X.1 X.2.1 d_MD_total_3 rfl (lv_at hl 0 rfl) w) ?_
  refine g_get X (ci := 4) rfl f0 8 (by decide) ⟨rfl, rfl⟩ tw_510 (Or.inl rfl) rfl d_MD_total_4 ?_
  refine g_1 (fun w => lv_iconst (v := iZ 1) X.1 X.2.1 d_MD_total_7 rfl w) ?_
  refine g_isub X d_MD_total_8 ?_
  refine g_callS (na := 3) X (c_MD_out B0 ⟨by omega, by omega⟩ ⟨by omega, by omega⟩ ⟨by omega, by omega⟩) rfl ⟨⟨tw_570, tw_5⟩, ⟨by decide, by decide, by decide +kernel⟩, by decide, by decide⟩ tw_568 tw_569 rfl hl.1 (Nat.le_of_ble_eq_true rfl) ⟨by decide, by decide⟩ d_MD_total_9 (fun v h' hp => ?_)
  obtain ⟨rfl, rfl⟩ := hp
  refine g_widen (k' := 0) (n' := 0) (by decide) (by decide) ?_
  show G D s0 p l e _ s m _ below meth c h _ _ _ (F0 m 12 ls [.int (iZ (if i < 0 ∨ (mY M) - 1 < i then 1 else 0)), .ref a])
  refine g_1 (fun w => lv_iconst (v := iZ 0) X.1 X.2.1 d_MD_total_12 rfl w) ?_
  refine g_callV (na := 2) X (c_MD_throwing B0 hm (by split <;> exact ⟨by omega, by omega⟩) ⟨by omega, by omega⟩ (t := thr (if i < 0 ∨ (mY M) - 1 < i then 1 else 0) (0)) rfl (r := if 0 < thr (if i < 0 ∨ (mY M) - 1 < i then 1 else 0) (0) then 1 else 0) rfl) rfl f0 rfl ⟨⟨tw_563, tw_5⟩, ⟨by decide, by decide, by decide +kernel⟩, by decide, by decide⟩ tw_560 tw_562 ts_MD_throwing rfl hl.1 (Nat.le_of_ble_eq_true rfl) ⟨by decide, by decide⟩ d_MD_total_13 (fun v h_1 hp => ?_)
  obtain ⟨rfl, hm, hkT⟩ := hp
  obtain ⟨p3, p4, p6, p7, p9, p10, p11, p12, p13, p14, f0, f3, f4, f6, f7, f9, f10, f11, f12, f13, f14⟩ := id hm
  refine g_widen (k' := 0) (n' := 0) (by decide) (by decide) ?_
  show G D s0 p l e _ s m _ below meth c h_1 _ _ _ (F0 m 16 ls [.int (iZ (if 0 < thr (if i < 0 ∨ (mY M) - 1 < i then 1 else 0) (0) then 1 else 0))])
  refine g_if_eq (tgt := 21) X (by first | exact ok_if (k5 _) | exact ⟨by omega, by omega⟩ | (split <;> exact ⟨by omega, by omega⟩) | exact cmpZ_ok _ _ | exact mul_ok (by omega) (by omega) (by omega) (by omega)) d_MD_total_16 (by decide) (fun c16 => ?_) (fun c16 => ?_)
  · have hnz := thr_z (if_0 c16)
    have hz := if_0 hnz
    obtain ⟨yi, rfl, hyi⟩ : ∃ yi : Nat, (yi : Int) = i ∧ yi < yn := ⟨i.toNat, by omega, by omega⟩
    refine g_1 (fun w => lv_aload_n X.1 X.2.1 d_MD_total_21 rfl (lv_at hl 0 rfl) w) ?_
    refine g_get X (ci := 4) rfl f0 10 (by decide) ⟨rfl, rfl⟩ tw_512 (Or.inl rfl) rfl d_MD_total_22 ?_
    refine g_1 (fun w => lv_iload_n X.1 X.2.1 d_MD_total_25 rfl (lv_at hl 1 rfl) w) ?_
    refine g_ild X f10 (yi) (rfl) (by omega) (by omega) d_MD_total_26 ?_
    exact g_iret X (⟨0, _, rfl, by rw [← thr_0 (g := 0) hnz rfl]; exact hm, hkT, Or.inr ⟨yi, rfl, hyi, rfl, (l3 yi hyi).1⟩⟩) (by decide) (by decide) d_MD_total_27
  · refine g_1 (fun w => lv_iconst (v := iZ 0) X.1 X.2.1 d_MD_total_19 rfl w) ?_
    exact g_iret X (⟨1, 0, rfl, by rw [← thr_1 (g := 0) (thr_p (if_1 c16))]; exact hm, hkT, Or.inl ⟨by have z := if_1 (thr_p (if_1 c16)); omega, rfl⟩⟩) (by decide) (by decide) d_MD_total_20

set_option maxHeartbeats 4000000 in
set_option maxRecDepth 100000 in
theorem c_MD_cut {D : va_G} {s0 : State} {l : Launch} {h : gH} (B0 : gB D s0) {a n : Nat} {M : Mdl} {bs : Nat → Blk} (hm : isMD D h a M) (hv : mV M n bs) (hw : ∀ b, b < n → wfC (bs b)) {yn : Nat} {ys : Nat → Lay} (hL : mL M n yn ys) {i z : Int} (hi : i_ok i) (hj : i_ok z) : gMet D s0 l y_MD_cut b_MD_cut 4 (some .int) ({ frames := 1, cells := 0, slots := 0, locals := 22 } : Room) [.ref a, .int (iZ (i)), .int (iZ (z))] h (fun v h' => ∃ t r : Int, some (.int (iZ r)) = v ∧ isMD D h' a (t, M.2) ∧ kp P_MD h h' ∧ ((¬ (0 ≤ z ∧ z < n) ∧ t = 1) ∨ ((0 ≤ z ∧ z < n) ∧ ¬ (0 ≤ i ∧ i < yn) ∧ t = 2) ∨ ∃ j b : Nat, (j : Int) = i ∧ (b : Int) = z ∧ j < yn ∧ b < n ∧ t = 0 ∧ r = (ys j).2.1 b)) := by
  obtain ⟨p3, p4, p6, p7, p9, p10, p11, p12, p13, p14, f0, f3, f4, f6, f7, f9, f10, f11, f12, f13, f14⟩ := id hm
  obtain ⟨v1, v2, v3, v4, v5⟩ := id hv
  obtain ⟨l1, l2, l3⟩ := id hL
  obtain ⟨hi1, hi2⟩ := id hi
  obtain ⟨hj1, hj2⟩ := id hj
  refine g_enter B0 (plainFor_of_name (by decide)) (Nat.le_of_ble_eq_true rfl) (fun p e s m below meth c ls X hnm hl => ?_)
  have hl : lv_has ls 4 [(0, .ref a), (1, .int (iZ (i))), (2, .int (iZ (z)))] := hl
  refine g_1 (fun w => lv_iload_n X.1 X.2.1 d_MD_cut_0 rfl (lv_at hl 2 rfl) w) ?_
  refine g_1 (fun w => lv_iconst (v := iZ 0) X.1 X.2.1 d_MD_cut_1 rfl w) ?_
  refine g_1 (fun w => lv_aload_n X.1 X.2.1 d_MD_cut_2 rfl (lv_at hl 0 rfl) w) ?_
  refine g_get X (ci := 4) rfl f0 1 (by decide) ⟨rfl, rfl⟩ tw_503 (Or.inl rfl) rfl d_MD_cut_3 ?_
  refine g_1 (fun w => lv_iconst (v := iZ 1) X.1 X.2.1 d_MD_cut_6 rfl w) ?_
  refine g_isub X d_MD_cut_7 ?_
  refine g_callS (na := 3) X (c_MD_out B0 ⟨by omega, by omega⟩ ⟨by omega, by omega⟩ ⟨by omega, by omega⟩) rfl ⟨⟨tw_570, tw_5⟩, ⟨by decide, by decide, by decide +kernel⟩, by decide, by decide⟩ tw_568 tw_569 rfl hl.1 (Nat.le_of_ble_eq_true rfl) ⟨by decide, by decide⟩ d_MD_cut_8 (fun v h' hp => ?_)
  obtain ⟨rfl, rfl⟩ := hp
  refine g_widen (k' := 0) (n' := 0) (by decide) (by decide) ?_
  show G D s0 p l e _ s m _ below meth c h _ _ _ (F0 m 11 ls [.int (iZ (if z < 0 ∨ (mN M) - 1 < z then 1 else 0))])
  refine g_s (fun kk => lv_istore_n (lv' := [(3, .int (iZ (if z < 0 ∨ (mN M) - 1 < z then 1 else 0))), (0, .ref a), (1, .int (iZ (i))), (2, .int (iZ (z)))]) X.1 X.2.1 d_MD_cut_11 rfl hl (by decide) rfl kk) (fun ls hl => ?_)
  refine g_1 (fun w => lv_aload_n X.1 X.2.1 d_MD_cut_12 rfl (lv_at hl 1 rfl) w) ?_
  refine g_1 (fun w => lv_iload_n X.1 X.2.1 d_MD_cut_13 rfl (lv_at hl 0 rfl) w) ?_
  refine g_1 (fun w => lv_iload_n X.1 X.2.1 d_MD_cut_14 rfl (lv_at hl 0 rfl) w) ?_
  refine g_if_ne (tgt := 36) X (by first | exact ok_if (k5 _) | exact ⟨by omega, by omega⟩ | (split <;> exact ⟨by omega, by omega⟩) | exact cmpZ_ok _ _ | exact mul_ok (by omega) (by omega) (by omega) (by omega)) d_MD_cut_15 (by decide) (fun c15 => ?_) (fun c15 => ?_)
  · refine g_1 (fun w => lv_iconst (v := iZ 0) X.1 X.2.1 d_MD_cut_36 rfl w) ?_
    refine g_callV (na := 2) X (c_MD_throwing B0 hm (by split <;> exact ⟨by omega, by omega⟩) ⟨by omega, by omega⟩ (t := 1) (thr_1 c15).symm (r := 1) (by decide)) rfl f0 rfl ⟨⟨tw_563, tw_5⟩, ⟨by decide, by decide, by decide +kernel⟩, by decide, by decide⟩ tw_560 tw_562 ts_MD_throwing rfl hl.1 (Nat.le_of_ble_eq_true rfl) ⟨by decide, by decide⟩ d_MD_cut_37 (fun v h_1 hp => ?_)
    obtain ⟨rfl, hm, hkT⟩ := hp
    obtain ⟨p3, p4, p6, p7, p9, p10, p11, p12, p13, p14, f0, f3, f4, f6, f7, f9, f10, f11, f12, f13, f14⟩ := id hm
    refine g_widen (k' := 0) (n' := 0) (by decide) (by decide) ?_
    show G D s0 p l e _ s m _ below meth c h_1 _ _ _ (F0 m 40 ls [.int (iZ (1))])
    refine g_if_eq (tgt := 45) X (by first | exact ok_if (k5 _) | exact ⟨by omega, by omega⟩ | (split <;> exact ⟨by omega, by omega⟩) | exact cmpZ_ok _ _ | exact mul_ok (by omega) (by omega) (by omega) (by omega)) d_MD_cut_40 (by decide) (fun c40 => ?_) (fun c40 => ?_)
    · exact absurd c40 (by decide)
    · refine g_1 (fun w => lv_iconst (v := iZ 0) X.1 X.2.1 d_MD_cut_43 rfl w) ?_
      exact g_iret X (⟨1, 0, rfl, hm, hkT, Or.inl ⟨by have z := if_1 c15; omega, rfl⟩⟩) (by decide) (by decide) d_MD_cut_44
  · obtain ⟨bi, rfl, hbi⟩ : ∃ bi : Nat, (bi : Int) = z ∧ bi < n := ⟨z.toNat, by have z := if_0 c15; omega, by have z := if_0 c15; omega⟩
    obtain ⟨u1, u2, u3⟩ := v5 bi hbi
    obtain ⟨⟨⟨k1, k2, k3, k4, k5, k6, k7, k8⟩, w2, w3, w4⟩, w5, w6⟩ := id (hw bi hbi)
    have wc := hw bi hbi
    refine g_1 (fun w => lv_iload_n X.1 X.2.1 d_MD_cut_18 rfl (lv_at hl 2 rfl) w) ?_
    refine g_1 (fun w => lv_iconst (v := iZ 0) X.1 X.2.1 d_MD_cut_19 rfl w) ?_
    refine g_1 (fun w => lv_aload_n X.1 X.2.1 d_MD_cut_20 rfl (lv_at hl 1 rfl) w) ?_
    refine g_get X (ci := 4) rfl f0 8 (by decide) ⟨rfl, rfl⟩ tw_510 (Or.inl rfl) rfl d_MD_cut_21 ?_
    refine g_1 (fun w => lv_iconst (v := iZ 1) X.1 X.2.1 d_MD_cut_24 rfl w) ?_
    refine g_isub X d_MD_cut_25 ?_
    refine g_callS (na := 3) X (c_MD_out B0 ⟨by omega, by omega⟩ ⟨by omega, by omega⟩ ⟨by omega, by omega⟩) rfl ⟨⟨tw_570, tw_5⟩, ⟨by decide, by decide, by decide +kernel⟩, by decide, by decide⟩ tw_568 tw_569 rfl hl.1 (Nat.le_of_ble_eq_true rfl) ⟨by decide, by decide⟩ d_MD_cut_26 (fun v h' hp => ?_)
    obtain ⟨rfl, rfl⟩ := hp
    refine g_widen (k' := 0) (n' := 0) (by decide) (by decide) ?_
    show G D s0 p l e _ s m _ below meth c h _ _ _ (F0 m 29 ls [.int (iZ (if i < 0 ∨ (mY M) - 1 < i then 1 else 0)), .int (iZ (if (bi : Int) < 0 ∨ (mN M) - 1 < (bi : Int) then 1 else 0)), .ref a])
    refine g_if_eq (tgt := 36) X (by first | exact ok_if (k5 _) | exact ⟨by omega, by omega⟩ | (split <;> exact ⟨by omega, by omega⟩) | exact cmpZ_ok _ _ | exact mul_ok (by omega) (by omega) (by omega) (by omega)) d_MD_cut_29 (by decide) (fun c29 => ?_) (fun c29 => ?_)
    · refine g_1 (fun w => lv_iconst (v := iZ 0) X.1 X.2.1 d_MD_cut_36 rfl w) ?_
      refine g_callV (na := 2) X (c_MD_throwing B0 hm (by split <;> exact ⟨by omega, by omega⟩) ⟨by omega, by omega⟩ (t := 0) (thr_0 c15 rfl).symm (r := 0) (by decide)) rfl f0 rfl ⟨⟨tw_563, tw_5⟩, ⟨by decide, by decide, by decide +kernel⟩, by decide, by decide⟩ tw_560 tw_562 ts_MD_throwing rfl hl.1 (Nat.le_of_ble_eq_true rfl) ⟨by decide, by decide⟩ d_MD_cut_37 (fun v h_2 hp => ?_)
      obtain ⟨rfl, hm, hkT⟩ := hp
      obtain ⟨p3, p4, p6, p7, p9, p10, p11, p12, p13, p14, f0, f3, f4, f6, f7, f9, f10, f11, f12, f13, f14⟩ := id hm
      refine g_widen (k' := 0) (n' := 0) (by decide) (by decide) ?_
      show G D s0 p l e _ s m _ below meth c h_2 _ _ _ (F0 m 40 ls [.int (iZ (0))])
      refine g_if_eq (tgt := 45) X (by first | exact ok_if (k5 _) | exact ⟨by omega, by omega⟩ | (split <;> exact ⟨by omega, by omega⟩) | exact cmpZ_ok _ _ | exact mul_ok (by omega) (by omega) (by omega) (by omega)) d_MD_cut_40 (by decide) (fun c40 => ?_) (fun c40 => ?_)
      · obtain ⟨yi, rfl, hyi⟩ : ∃ yi : Nat, (yi : Int) = i ∧ yi < yn := ⟨i.toNat, by have z := if_0 c29; omega, by have z := if_0 c29; omega⟩
        refine g_1 (fun w => lv_aload_n X.1 X.2.1 d_MD_cut_45 rfl (lv_at hl 1 rfl) w) ?_
        refine g_get X (ci := 4) rfl f0 9 (by decide) ⟨rfl, rfl⟩ tw_511 (Or.inl rfl) rfl d_MD_cut_46 ?_
        refine g_1 (fun w => lv_sipush (v := iZ 1024) X.1 X.2.1 d_MD_cut_49 (by decide) w) ?_
        refine g_1 (fun w => lv_iload_n X.1 X.2.1 d_MD_cut_52 rfl (lv_at hl 2 rfl) w) ?_
        refine g_imul X d_MD_cut_53 ?_
        refine g_1 (fun w => lv_iload_n X.1 X.2.1 d_MD_cut_54 rfl (lv_at hl 3 rfl) w) ?_
        refine g_iadd X d_MD_cut_55 ?_
        refine g_ild X f9 (1024 * yi + bi) (by omega) (by omega) (by omega) d_MD_cut_56 ?_
        exact g_iret X (⟨0, _, rfl, hm, hkT, Or.inr (Or.inr ⟨yi, bi, rfl, rfl, hyi, hbi, rfl, (l3 yi hyi).2.2.2 bi hbi⟩)⟩) (by decide) (by decide) d_MD_cut_57
      · exact absurd c40 (by decide)
    · refine g_1 (fun w => lv_iconst (v := iZ 1) X.1 X.2.1 d_MD_cut_32 rfl w) ?_
      refine g_goto (tgt := 37) X d_MD_cut_33 (by decide) ?_
      refine g_callV (na := 2) X (c_MD_throwing B0 hm (by split <;> exact ⟨by omega, by omega⟩) ⟨by omega, by omega⟩ (t := 2) (thr_2 c15 (by decide)).symm (r := 1) (by decide)) rfl f0 rfl ⟨⟨tw_563, tw_5⟩, ⟨by decide, by decide, by decide +kernel⟩, by decide, by decide⟩ tw_560 tw_562 ts_MD_throwing rfl hl.1 (Nat.le_of_ble_eq_true rfl) ⟨by decide, by decide⟩ d_MD_cut_37 (fun v h_3 hp => ?_)
      obtain ⟨rfl, hm, hkT⟩ := hp
      obtain ⟨p3, p4, p6, p7, p9, p10, p11, p12, p13, p14, f0, f3, f4, f6, f7, f9, f10, f11, f12, f13, f14⟩ := id hm
      refine g_widen (k' := 0) (n' := 0) (by decide) (by decide) ?_
      show G D s0 p l e _ s m _ below meth c h_3 _ _ _ (F0 m 40 ls [.int (iZ (1))])
      refine g_if_eq (tgt := 45) X (by first | exact ok_if (k5 _) | exact ⟨by omega, by omega⟩ | (split <;> exact ⟨by omega, by omega⟩) | exact cmpZ_ok _ _ | exact mul_ok (by omega) (by omega) (by omega) (by omega)) d_MD_cut_40 (by decide) (fun c40 => ?_) (fun c40 => ?_)
      · exact absurd c40 (by decide)
      · refine g_1 (fun w => lv_iconst (v := iZ 0) X.1 X.2.1 d_MD_cut_43 rfl w) ?_
        exact g_iret X (⟨2, 0, rfl, hm, hkT, Or.inr (Or.inl ⟨by omega, by have z := if_1 c29; omega, rfl⟩)⟩) (by decide) (by decide) d_MD_cut_44

set_option maxHeartbeats 4000000 in
set_option maxRecDepth 100000 in
theorem c_MD_threshold {D : va_G} {s0 : State} {l : Launch} {h : gH} (B0 : gB D s0) {a n : Nat} {M : Mdl} {bs : Nat → Blk} (hm : isMD D h a M) (hv : mV M n bs) (hw : ∀ b, b < n → wfC (bs b)) {yn : Nat} {ys : Nat → Lay} (hL : mL M n yn ys) (hyo : ∀ j, j < yn → i_ok (ys j).2.2.2.2) {i z : Int} (hi : i_ok i) (hj : i_ok z) : gMet D s0 l y_MD_threshold b_MD_threshold 4 (some .long) ({ frames := 1, cells := 0, slots := 0, locals := 22 } : Room) [.ref a, .int (iZ (i)), .int (iZ (z))] h (fun v h' => ∃ t r : Int, some (.long (lZ r)) = v ∧ isMD D h' a (t, M.2) ∧ kp P_MD h h' ∧ ((¬ (z = 0 ∨ z = 1) ∧ t = 1) ∨ ((z = 0 ∨ z = 1) ∧ ¬ (0 ≤ i ∧ i < yn) ∧ t = 2) ∨ ∃ j : Nat, (z = 0 ∨ z = 1) ∧ (j : Int) = i ∧ j < yn ∧ t = 0 ∧ r = if z = 0 then (ys j).2.2.2.1 else (ys j).2.2.2.2)) := by
  obtain ⟨p3, p4, p6, p7, p9, p10, p11, p12, p13, p14, f0, f3, f4, f6, f7, f9, f10, f11, f12, f13, f14⟩ := id hm
  obtain ⟨v1, v2, v3, v4, v5⟩ := id hv
  obtain ⟨l1, l2, l3⟩ := id hL
  obtain ⟨hi1, hi2⟩ := id hi
  obtain ⟨hj1, hj2⟩ := id hj
  refine g_enter B0 (plainFor_of_name (by decide)) (Nat.le_of_ble_eq_true rfl) (fun p e s m below meth c ls X hnm hl => ?_)
  have hl : lv_has ls 4 [(0, .ref a), (1, .int (iZ (i))), (2, .int (iZ (z)))] := hl
  refine g_1 (fun w => lv_iload_n X.1 X.2.1 d_MD_threshold_0 rfl (lv_at hl 2 rfl) w) ?_
  refine g_1 (fun w => lv_iconst (v := iZ 0) X.1 X.2.1 d_MD_threshold_1 rfl w) ?_
  refine g_1 (fun w => lv_iconst (v := iZ 1) X.1 X.2.1 d_MD_threshold_2 rfl w) ?_
  refine g_callS (na := 3) X (c_MD_out B0 ⟨by omega, by omega⟩ ⟨by omega, by omega⟩ ⟨by omega, by omega⟩) rfl ⟨⟨tw_570, tw_5⟩, ⟨by decide, by decide, by decide +kernel⟩, by decide, by decide⟩ tw_568 tw_569 rfl hl.1 (Nat.le_of_ble_eq_true rfl) ⟨by decide, by decide⟩ d_MD_threshold_3 (fun v h' hp => ?_)
  obtain ⟨rfl, rfl⟩ := hp
  refine g_widen (k' := 0) (n' := 0) (by decide) (by decide) ?_
  show G D s0 p l e _ s m _ below meth c h _ _ _ (F0 m 6 ls [.int (iZ (if z < 0 ∨ 1 < z then 1 else 0))])
  refine g_s (fun kk => lv_istore_n (lv' := [(3, .int (iZ (if z < 0 ∨ 1 < z then 1 else 0))), (0, .ref a), (1, .int (iZ (i))), (2, .int (iZ (z)))]) X.1 X.2.1 d_MD_threshold_6 rfl hl (by decide) rfl kk) (fun ls hl => ?_)
  refine g_1 (fun w => lv_aload_n X.1 X.2.1 d_MD_threshold_7 rfl (lv_at hl 1 rfl) w) ?_
  refine g_1 (fun w => lv_iload_n X.1 X.2.1 d_MD_threshold_8 rfl (lv_at hl 0 rfl) w) ?_
  refine g_1 (fun w => lv_iload_n X.1 X.2.1 d_MD_threshold_9 rfl (lv_at hl 0 rfl) w) ?_
  refine g_if_ne (tgt := 31) X (by first | exact (by rw [hyo2]; exact hyo _ hyi) | exact ok_if (k5 _) | exact ⟨by omega, by omega⟩ | (split <;> exact ⟨by omega, by omega⟩) | exact cmpZ_ok _ _ | exact mul_ok (by omega) (by omega) (by omega) (by omega)) d_MD_threshold_10 (by decide) (fun c10 => ?_) (fun c10 => ?_)
  · refine g_1 (fun w => lv_iconst (v := iZ 0) X.1 X.2.1 d_MD_threshold_31 rfl w) ?_
    refine g_callV (na := 2) X (c_MD_throwing B0 hm (by split <;> exact ⟨by omega, by omega⟩) ⟨by omega, by omega⟩ (t := 1) (thr_1 c10).symm (r := 1) (by decide)) rfl f0 rfl ⟨⟨tw_563, tw_5⟩, ⟨by decide, by decide, by decide +kernel⟩, by decide, by decide⟩ tw_560 tw_562 ts_MD_throwing rfl hl.1 (Nat.le_of_ble_eq_true rfl) ⟨by decide, by decide⟩ d_MD_threshold_32 (fun v h_1 hp => ?_)
    obtain ⟨rfl, hm, hkT⟩ := hp
    obtain ⟨p3, p4, p6, p7, p9, p10, p11, p12, p13, p14, f0, f3, f4, f6, f7, f9, f10, f11, f12, f13, f14⟩ := id hm
    refine g_widen (k' := 0) (n' := 0) (by decide) (by decide) ?_
    show G D s0 p l e _ s m _ below meth c h_1 _ _ _ (F0 m 35 ls [.int (iZ (1))])
    refine g_if_eq (tgt := 40) X (by first | exact (by rw [hyo2]; exact hyo _ hyi) | exact ok_if (k5 _) | exact ⟨by omega, by omega⟩ | (split <;> exact ⟨by omega, by omega⟩) | exact cmpZ_ok _ _ | exact mul_ok (by omega) (by omega) (by omega) (by omega)) d_MD_threshold_35 (by decide) (fun c35 => ?_) (fun c35 => ?_)
    · exact absurd c35 (by decide)
    · refine g_1 (fun w => lv_lconst (v := lZ 0) X.1 X.2.1 d_MD_threshold_38 (by decide) w) ?_
      exact g_lret X (⟨1, 0, rfl, hm, hkT, Or.inl ⟨by have y := if_1 c10; omega, rfl⟩⟩) (by decide) (by decide) d_MD_threshold_39
  · refine g_1 (fun w => lv_iload_n X.1 X.2.1 d_MD_threshold_13 rfl (lv_at hl 2 rfl) w) ?_
    refine g_1 (fun w => lv_iconst (v := iZ 0) X.1 X.2.1 d_MD_threshold_14 rfl w) ?_
    refine g_1 (fun w => lv_aload_n X.1 X.2.1 d_MD_threshold_15 rfl (lv_at hl 1 rfl) w) ?_
    refine g_get X (ci := 4) rfl f0 8 (by decide) ⟨rfl, rfl⟩ tw_510 (Or.inl rfl) rfl d_MD_threshold_16 ?_
    refine g_1 (fun w => lv_iconst (v := iZ 1) X.1 X.2.1 d_MD_threshold_19 rfl w) ?_
    refine g_isub X d_MD_threshold_20 ?_
    refine g_callS (na := 3) X (c_MD_out B0 ⟨by omega, by omega⟩ ⟨by omega, by omega⟩ ⟨by omega, by omega⟩) rfl ⟨⟨tw_570, tw_5⟩, ⟨by decide, by decide, by decide +kernel⟩, by decide, by decide⟩ tw_568 tw_569 rfl hl.1 (Nat.le_of_ble_eq_true rfl) ⟨by decide, by decide⟩ d_MD_threshold_21 (fun v h' hp => ?_)
    obtain ⟨rfl, rfl⟩ := hp
    refine g_widen (k' := 0) (n' := 0) (by decide) (by decide) ?_
    show G D s0 p l e _ s m _ below meth c h _ _ _ (F0 m 24 ls [.int (iZ (if i < 0 ∨ (mY M) - 1 < i then 1 else 0)), .int (iZ (if z < 0 ∨ 1 < z then 1 else 0)), .ref a])
    refine g_if_eq (tgt := 31) X (by first | exact (by rw [hyo2]; exact hyo _ hyi) | exact ok_if (k5 _) | exact ⟨by omega, by omega⟩ | (split <;> exact ⟨by omega, by omega⟩) | exact cmpZ_ok _ _ | exact mul_ok (by omega) (by omega) (by omega) (by omega)) d_MD_threshold_24 (by decide) (fun c24 => ?_) (fun c24 => ?_)
    · refine g_1 (fun w => lv_iconst (v := iZ 0) X.1 X.2.1 d_MD_threshold_31 rfl w) ?_
      refine g_callV (na := 2) X (c_MD_throwing B0 hm (by split <;> exact ⟨by omega, by omega⟩) ⟨by omega, by omega⟩ (t := 0) (thr_0 c10 rfl).symm (r := 0) (by decide)) rfl f0 rfl ⟨⟨tw_563, tw_5⟩, ⟨by decide, by decide, by decide +kernel⟩, by decide, by decide⟩ tw_560 tw_562 ts_MD_throwing rfl hl.1 (Nat.le_of_ble_eq_true rfl) ⟨by decide, by decide⟩ d_MD_threshold_32 (fun v h_2 hp => ?_)
      obtain ⟨rfl, hm, hkT⟩ := hp
      obtain ⟨p3, p4, p6, p7, p9, p10, p11, p12, p13, p14, f0, f3, f4, f6, f7, f9, f10, f11, f12, f13, f14⟩ := id hm
      refine g_widen (k' := 0) (n' := 0) (by decide) (by decide) ?_
      show G D s0 p l e _ s m _ below meth c h_2 _ _ _ (F0 m 35 ls [.int (iZ (0))])
      refine g_if_eq (tgt := 40) X (by first | exact (by rw [hyo2]; exact hyo _ hyi) | exact ok_if (k5 _) | exact ⟨by omega, by omega⟩ | (split <;> exact ⟨by omega, by omega⟩) | exact cmpZ_ok _ _ | exact mul_ok (by omega) (by omega) (by omega) (by omega)) d_MD_threshold_35 (by decide) (fun c35 => ?_) (fun c35 => ?_)
      · have hzz := if_0 c10
        obtain ⟨yi, rfl, hyi⟩ : ∃ yi : Nat, (yi : Int) = i ∧ yi < yn := ⟨i.toNat, by have z := if_0 c24; omega, by have z := if_0 c24; omega⟩
        have hyo2 := (l3 yi hyi).2.2.1
        refine g_1 (fun w => lv_iload_n X.1 X.2.1 d_MD_threshold_40 rfl (lv_at hl 3 rfl) w) ?_
        refine g_if_ne (tgt := 53) X (by first | exact (by rw [hyo2]; exact hyo _ hyi) | exact ok_if (k5 _) | exact ⟨by omega, by omega⟩ | (split <;> exact ⟨by omega, by omega⟩) | exact cmpZ_ok _ _ | exact mul_ok (by omega) (by omega) (by omega) (by omega)) d_MD_threshold_41 (by decide) (fun c41 => ?_) (fun c41 => ?_)
        · refine g_1 (fun w => lv_aload_n X.1 X.2.1 d_MD_threshold_53 rfl (lv_at hl 1 rfl) w) ?_
          refine g_get X (ci := 4) rfl f0 12 (by decide) ⟨rfl, rfl⟩ tw_514 (Or.inl rfl) rfl d_MD_threshold_54 ?_
          refine g_1 (fun w => lv_iload_n X.1 X.2.1 d_MD_threshold_57 rfl (lv_at hl 2 rfl) w) ?_
          refine g_ild X f12 (yi) (rfl) (by omega) (by omega) d_MD_threshold_58 ?_
          refine g_i2l X (by first | exact (by rw [hyo2]; exact hyo _ hyi) | exact ok_if (k5 _) | exact ⟨by omega, by omega⟩ | (split <;> exact ⟨by omega, by omega⟩) | exact cmpZ_ok _ _ | exact mul_ok (by omega) (by omega) (by omega) (by omega)) d_MD_threshold_59 ?_
          exact g_lret X (⟨0, _, rfl, hm, hkT, Or.inr (Or.inr ⟨yi, by omega, rfl, hyi, rfl, by rw [if_neg c41]; exact (l3 yi hyi).2.2.1⟩)⟩) (by decide) (by decide) d_MD_threshold_60
        · refine g_1 (fun w => lv_aload_n X.1 X.2.1 d_MD_threshold_44 rfl (lv_at hl 1 rfl) w) ?_
          refine g_get X (ci := 4) rfl f0 11 (by decide) ⟨rfl, rfl⟩ tw_513 (Or.inl rfl) rfl d_MD_threshold_45 ?_
          refine g_1 (fun w => lv_iload_n X.1 X.2.1 d_MD_threshold_48 rfl (lv_at hl 2 rfl) w) ?_
          refine g_lld X f11 (yi) (rfl) (by omega) (by omega) d_MD_threshold_49 ?_
          refine g_goto (tgt := 60) X d_MD_threshold_50 (by decide) ?_
          exact g_lret X (⟨0, _, rfl, hm, hkT, Or.inr (Or.inr ⟨yi, by omega, rfl, hyi, rfl, by rw [if_pos c41]; exact (l3 yi hyi).2.1⟩)⟩) (by decide) (by decide) d_MD_threshold_60
      · exact absurd c35 (by decide)
    · refine g_1 (fun w => lv_iconst (v := iZ 1) X.1 X.2.1 d_MD_threshold_27 rfl w) ?_
      refine g_goto (tgt := 32) X d_MD_threshold_28 (by decide) ?_
      refine g_callV (na := 2) X (c_MD_throwing B0 hm (by split <;> exact ⟨by omega, by omega⟩) ⟨by omega, by omega⟩ (t := 2) (thr_2 c10 (by decide)).symm (r := 1) (by decide)) rfl f0 rfl ⟨⟨tw_563, tw_5⟩, ⟨by decide, by decide, by decide +kernel⟩, by decide, by decide⟩ tw_560 tw_562 ts_MD_throwing rfl hl.1 (Nat.le_of_ble_eq_true rfl) ⟨by decide, by decide⟩ d_MD_threshold_32 (fun v h_3 hp => ?_)
      obtain ⟨rfl, hm, hkT⟩ := hp
      obtain ⟨p3, p4, p6, p7, p9, p10, p11, p12, p13, p14, f0, f3, f4, f6, f7, f9, f10, f11, f12, f13, f14⟩ := id hm
      refine g_widen (k' := 0) (n' := 0) (by decide) (by decide) ?_
      show G D s0 p l e _ s m _ below meth c h_3 _ _ _ (F0 m 35 ls [.int (iZ (1))])
      refine g_if_eq (tgt := 40) X (by first | exact (by rw [hyo2]; exact hyo _ hyi) | exact ok_if (k5 _) | exact ⟨by omega, by omega⟩ | (split <;> exact ⟨by omega, by omega⟩) | exact cmpZ_ok _ _ | exact mul_ok (by omega) (by omega) (by omega) (by omega)) d_MD_threshold_35 (by decide) (fun c35 => ?_) (fun c35 => ?_)
      · exact absurd c35 (by decide)
      · refine g_1 (fun w => lv_lconst (v := lZ 0) X.1 X.2.1 d_MD_threshold_38 (by decide) w) ?_
        exact g_lret X (⟨2, 0, rfl, hm, hkT, Or.inr (Or.inl ⟨by have y := if_0 c10; omega, by have z := if_1 c24; omega, rfl⟩)⟩) (by decide) (by decide) d_MD_threshold_39

set_option maxHeartbeats 4000000 in
set_option maxRecDepth 100000 in
theorem c_MD_gain {D : va_G} {s0 : State} {l : Launch} {h : gH} (B0 : gB D s0) {a n : Nat} {M : Mdl} {bs : Nat → Blk} (hm : isMD D h a M) (hv : mV M n bs) (hw : ∀ b, b < n → wfC (bs b)) {i j : Int} (hi : i_ok i) (hj : i_ok j) : gMet D s0 l y_MD_gain b_MD_gain 5 (some .long) ({ frames := 3, cells := 0, slots := 0, locals := 77 } : Room) [.ref a, .int (iZ (i)), .int (iZ (j))] h (fun v h' => ∃ t r : Int, some (.long (lZ r)) = v ∧ isMD D h' a (t, M.2) ∧ kp P_MD h h' ∧ ((¬ (0 ≤ i ∧ i < n) ∧ t = 1) ∨ (∃ b : Nat, (b : Int) = i ∧ b < n ∧ ¬ (0 ≤ j ∧ j < bS (bs b)) ∧ t = 2) ∨ ∃ b k : Nat, (b : Int) = i ∧ (k : Int) = j ∧ b < n ∧ k < bS (bs b) ∧ t = 0 ∧ r = bG (bs b) (bC (bs b) (k + 1)) - bG (bs b) (bC (bs b) k))) := by
  obtain ⟨p3, p4, p6, p7, p9, p10, p11, p12, p13, p14, f0, f3, f4, f6, f7, f9, f10, f11, f12, f13, f14⟩ := id hm
  obtain ⟨v1, v2, v3, v4, v5⟩ := id hv
  obtain ⟨hi1, hi2⟩ := id hi
  obtain ⟨hj1, hj2⟩ := id hj
  refine g_enter B0 (plainFor_of_name (by decide)) (Nat.le_of_ble_eq_true rfl) (fun p e s m below meth c ls X hnm hl => ?_)
  have hl : lv_has ls 5 [(0, .ref a), (1, .int (iZ (i))), (2, .int (iZ (j)))] := hl
  refine g_1 (fun w => lv_iload_n X.1 X.2.1 d_MD_gain_0 rfl (lv_at hl 1 rfl) w) ?_
  refine g_1 (fun w => lv_iconst (v := iZ 0) X.1 X.2.1 d_MD_gain_1 rfl w) ?_
  refine g_1 (fun w => lv_aload_n X.1 X.2.1 d_MD_gain_2 rfl (lv_at hl 0 rfl) w) ?_
  refine g_get X (ci := 4) rfl f0 1 (by decide) ⟨rfl, rfl⟩ tw_503 (Or.inl rfl) rfl d_MD_gain_3 ?_
  refine g_1 (fun w => lv_iconst (v := iZ 1) X.1 X.2.1 d_MD_gain_6 rfl w) ?_
  refine g_isub X d_MD_gain_7 ?_
  refine g_callS (na := 3) X (c_MD_out B0 ⟨by omega, by omega⟩ ⟨by omega, by omega⟩ ⟨by omega, by omega⟩) rfl ⟨⟨tw_570, tw_5⟩, ⟨by decide, by decide, by decide +kernel⟩, by decide, by decide⟩ tw_568 tw_569 rfl hl.1 (Nat.le_of_ble_eq_true rfl) ⟨by decide, by decide⟩ d_MD_gain_8 (fun v h' hp => ?_)
  obtain ⟨rfl, rfl⟩ := hp
  refine g_widen (k' := 0) (n' := 0) (by decide) (by decide) ?_
  show G D s0 p l e _ s m _ below meth c h _ _ _ (F0 m 11 ls [.int (iZ (if i < 0 ∨ (mN M) - 1 < i then 1 else 0))])
  refine g_s (fun kk => lv_istore_n (lv' := [(3, .int (iZ (if i < 0 ∨ (mN M) - 1 < i then 1 else 0))), (0, .ref a), (1, .int (iZ (i))), (2, .int (iZ (j)))]) X.1 X.2.1 d_MD_gain_11 rfl hl (by decide) rfl kk) (fun ls hl => ?_)
  refine g_1 (fun w => lv_iload_n X.1 X.2.1 d_MD_gain_12 rfl (lv_at hl 0 rfl) w) ?_
  refine g_if_eq (tgt := 20) X (by first | exact ok_if (k5 _) | exact ⟨by omega, by omega⟩ | (split <;> exact ⟨by omega, by omega⟩) | exact cmpZ_ok _ _ | exact mul_ok (by omega) (by omega) (by omega) (by omega)) d_MD_gain_13 (by decide) (fun c13 => ?_) (fun c13 => ?_)
  · obtain ⟨bi, rfl, hbi⟩ : ∃ bi : Nat, (bi : Int) = i ∧ bi < n := ⟨i.toNat, by have z := if_0 c13; omega, by have z := if_0 c13; omega⟩
    obtain ⟨u1, u2, u3⟩ := v5 bi hbi
    obtain ⟨⟨⟨k1, k2, k3, k4, k5, k6, k7, k8⟩, w2, w3, w4⟩, w5, w6⟩ := id (hw bi hbi)
    have wc := hw bi hbi
    refine g_1 (fun w => lv_aload_n X.1 X.2.1 d_MD_gain_20 rfl (lv_at hl 1 rfl) w) ?_
    refine g_1 (fun w => lv_iload_n X.1 X.2.1 d_MD_gain_21 rfl (lv_at hl 2 rfl) w) ?_
    refine g_1 (fun w => lv_iload_n X.1 X.2.1 d_MD_gain_22 rfl (lv_at hl 3 rfl) w) ?_
    refine g_callV (na := 2) X (c_MD_beginOf B0 hm hv hw bi hbi ⟨by omega, by omega⟩) rfl f0 rfl ⟨⟨tw_581, tw_5⟩, ⟨by decide, by decide, by decide +kernel⟩, by decide, by decide⟩ tw_578 tw_580 ts_MD_beginOf rfl hl.1 (Nat.le_of_ble_eq_true rfl) ⟨by decide, by decide⟩ d_MD_gain_23 (fun v h' hp => ?_)
    obtain ⟨rfl, rfl⟩ := hp
    refine g_widen (k' := 0) (n' := 0) (by decide) (by decide) ?_
    show G D s0 p l e _ s m _ below meth c h _ _ _ (F0 m 26 ls [.int (iZ (if 0 ≤ j ∧ j < bS (bs bi) then (bC (bs bi) j.toNat : Int) else -1))])
    refine g_s (fun kk => lv_istore (lv' := [(4, .int (iZ (if 0 ≤ j ∧ j < bS (bs bi) then (bC (bs bi) j.toNat : Int) else -1))), (3, .int (iZ (if (bi : Int) < 0 ∨ (mN M) - 1 < (bi : Int) then 1 else 0))), (0, .ref a), (1, .int (iZ (bi))), (2, .int (iZ (j)))]) X.1 X.2.1 d_MD_gain_26 hl (by decide) rfl kk) (fun ls hl => ?_)
    refine g_1 (fun w => lv_aload_n X.1 X.2.1 d_MD_gain_28 rfl (lv_at hl 2 rfl) w) ?_
    refine g_1 (fun w => lv_iload_n X.1 X.2.1 d_MD_gain_29 rfl (lv_at hl 1 rfl) w) ?_
    refine g_1 (fun w => lv_iload_n X.1 X.2.1 d_MD_gain_30 rfl (lv_at hl 1 rfl) w) ?_
    refine g_if_ne (tgt := 43) X (by first | exact ok_if (k5 _) | exact ⟨by omega, by omega⟩ | (split <;> exact ⟨by omega, by omega⟩) | exact cmpZ_ok _ _ | exact mul_ok (by omega) (by omega) (by omega) (by omega)) d_MD_gain_31 (by decide) (fun c31 => ?_) (fun c31 => ?_)
    · exact absurd c13 c31
    · refine g_1 (fun w => lv_iload X.1 X.2.1 d_MD_gain_34 (lv_at hl 0 rfl) w) ?_
      refine g_if_ge (tgt := 43) X (by first | exact ok_if (k5 _) | exact ⟨by omega, by omega⟩ | (split <;> exact ⟨by omega, by omega⟩) | exact cmpZ_ok _ _ | exact mul_ok (by omega) (by omega) (by omega) (by omega)) d_MD_gain_36 (by decide) (fun c36 => ?_) (fun c36 => ?_)
      · have cj : 0 ≤ j ∧ j < bS (bs bi) := by
          rcases Classical.em (0 ≤ j ∧ j < bS (bs bi)) with z | z
          · exact z
          · rw [if_neg z] at c36; exact absurd c36 (by decide)
        refine g_1 (fun w => lv_iconst (v := iZ 0) X.1 X.2.1 d_MD_gain_43 rfl w) ?_
        refine g_callV (na := 2) X (c_MD_throwing B0 hm (by split <;> exact ⟨by omega, by omega⟩) ⟨by omega, by omega⟩ (t := 0) (thr_0 c13 rfl).symm (r := 0) (by decide)) rfl f0 rfl ⟨⟨tw_563, tw_5⟩, ⟨by decide, by decide, by decide +kernel⟩, by decide, by decide⟩ tw_560 tw_562 ts_MD_throwing rfl hl.1 (Nat.le_of_ble_eq_true rfl) ⟨by decide, by decide⟩ d_MD_gain_44 (fun v h_1 hp => ?_)
        obtain ⟨rfl, hm, hkT⟩ := hp
        obtain ⟨p3, p4, p6, p7, p9, p10, p11, p12, p13, p14, f0, f3, f4, f6, f7, f9, f10, f11, f12, f13, f14⟩ := id hm
        refine g_widen (k' := 0) (n' := 0) (by decide) (by decide) ?_
        show G D s0 p l e _ s m _ below meth c h_1 _ _ _ (F0 m 47 ls [.int (iZ (0))])
        refine g_if_eq (tgt := 52) X (by first | exact ok_if (k5 _) | exact ⟨by omega, by omega⟩ | (split <;> exact ⟨by omega, by omega⟩) | exact cmpZ_ok _ _ | exact mul_ok (by omega) (by omega) (by omega) (by omega)) d_MD_gain_47 (by decide) (fun c47 => ?_) (fun c47 => ?_)
        · obtain ⟨si, rfl, hsi⟩ : ∃ si : Nat, (si : Int) = j ∧ si < bS (bs bi) := ⟨j.toNat, by omega, by omega⟩
          have hl : lv_has ls 5 [(4, .int (iZ (bC (bs bi) si))), (3, .int (iZ (if (bi : Int) < 0 ∨ (mN M) - 1 < (bi : Int) then 1 else 0))), (0, .ref a), (1, .int (iZ (bi))), (2, .int (iZ (si)))] := by
            have z : (if 0 ≤ (si : Int) ∧ (si : Int) < bS (bs bi) then (bC (bs bi) (si : Int).toNat : Int) else -1) = bC (bs bi) si := by rw [if_pos (by omega), show (si : Int).toNat = si by omega]
            rw [z] at hl
            exact hl
          have y1 := w3 si hsi
          have y2 := w5.1 si hsi
          have y3 : eN (sfr (bs bi) (bC (bs bi) si) (bP (bs bi))) = (bC (bs bi) (si + 1) : Int) := by rw [y2]; exact eN_s (by omega)
          have y4 := wc.cle (s := si) (by omega)
          refine g_1 (fun w => lv_aload_n X.1 X.2.1 d_MD_gain_52 rfl (lv_at hl 2 rfl) w) ?_
          refine g_1 (fun w => lv_iload_n X.1 X.2.1 d_MD_gain_53 rfl (lv_at hl 3 rfl) w) ?_
          refine g_1 (fun w => lv_iload X.1 X.2.1 d_MD_gain_54 (lv_at hl 0 rfl) w) ?_
          refine g_1 (fun w => lv_aload_n X.1 X.2.1 d_MD_gain_56 rfl (lv_at hl 2 rfl) w) ?_
          refine g_1 (fun w => lv_iload_n X.1 X.2.1 d_MD_gain_57 rfl (lv_at hl 3 rfl) w) ?_
          refine g_1 (fun w => lv_iload X.1 X.2.1 d_MD_gain_58 (lv_at hl 0 rfl) w) ?_
          refine g_callV (na := 2) X (c_MD_stepFrom B0 hm hv hw bi (bC (bs bi) si) (by omega) (by omega)) rfl f0 rfl ⟨⟨tw_585, tw_5⟩, ⟨by decide, by decide, by decide +kernel⟩, by decide, by decide⟩ tw_582 tw_584 ts_MD_stepFrom rfl hl.1 (Nat.le_of_ble_eq_true rfl) ⟨by decide, by decide⟩ d_MD_gain_60 (fun v h' hp => ?_)
          obtain ⟨rfl, rfl⟩ := hp
          refine g_widen (k' := 0) (n' := 0) (by decide) (by decide) ?_
          show G D s0 p l e _ s m _ below meth c h_1 _ _ _ (F0 m 63 ls [.int (iZ (eN (sfr (bs bi) (bC (bs bi) si) (bP (bs bi))))), .int (iZ (bC (bs bi) si)), .int (iZ (bi)), .ref a])
          refine g_ti (congrArg iZ (show (eN (sfr (bs bi) (bC (bs bi) si) (bP (bs bi))) : Int) = bC (bs bi) (si + 1) from y3)) ?_
          refine g_callV (na := 3) X (c_MD_gainOf B0 hm hv hw bi (bC (bs bi) si) (bC (bs bi) (si + 1)) (by omega) (by omega) (by omega)) rfl f0 rfl ⟨⟨tw_589, tw_5⟩, ⟨by decide, by decide, by decide +kernel⟩, by decide, by decide⟩ tw_586 tw_588 ts_MD_gainOf rfl hl.1 (Nat.le_of_ble_eq_true rfl) ⟨by decide, by decide⟩ d_MD_gain_63 (fun v h' hp => ?_)
          obtain ⟨rfl, rfl⟩ := hp
          refine g_widen (k' := 0) (n' := 0) (by decide) (by decide) ?_
          show G D s0 p l e _ s m _ below meth c h_1 _ _ _ (F0 m 66 ls [.long (lZ (bG (bs bi) (bC (bs bi) (si + 1)) - bG (bs bi) (bC (bs bi) si)))])
          exact g_lret X (⟨0, _, rfl, hm, hkT, Or.inr (Or.inr ⟨bi, si, rfl, rfl, hbi, hsi, rfl, rfl⟩)⟩) (by decide) (by decide) d_MD_gain_66
        · exact absurd c47 (by decide)
      · have cj : ¬ (0 ≤ j ∧ j < bS (bs bi)) := fun z => by rw [if_pos z] at c36; omega
        refine g_1 (fun w => lv_iconst (v := iZ 1) X.1 X.2.1 d_MD_gain_39 rfl w) ?_
        refine g_goto (tgt := 44) X d_MD_gain_40 (by decide) ?_
        refine g_callV (na := 2) X (c_MD_throwing B0 hm (by split <;> exact ⟨by omega, by omega⟩) ⟨by omega, by omega⟩ (t := 2) (thr_2 c13 (by decide)).symm (r := 1) (by decide)) rfl f0 rfl ⟨⟨tw_563, tw_5⟩, ⟨by decide, by decide, by decide +kernel⟩, by decide, by decide⟩ tw_560 tw_562 ts_MD_throwing rfl hl.1 (Nat.le_of_ble_eq_true rfl) ⟨by decide, by decide⟩ d_MD_gain_44 (fun v h_2 hp => ?_)
        obtain ⟨rfl, hm, hkT⟩ := hp
        obtain ⟨p3, p4, p6, p7, p9, p10, p11, p12, p13, p14, f0, f3, f4, f6, f7, f9, f10, f11, f12, f13, f14⟩ := id hm
        refine g_widen (k' := 0) (n' := 0) (by decide) (by decide) ?_
        show G D s0 p l e _ s m _ below meth c h_2 _ _ _ (F0 m 47 ls [.int (iZ (1))])
        refine g_if_eq (tgt := 52) X (by first | exact ok_if (k5 _) | exact ⟨by omega, by omega⟩ | (split <;> exact ⟨by omega, by omega⟩) | exact cmpZ_ok _ _ | exact mul_ok (by omega) (by omega) (by omega) (by omega)) d_MD_gain_47 (by decide) (fun c47 => ?_) (fun c47 => ?_)
        · exact absurd c47 (by decide)
        · refine g_1 (fun w => lv_lconst (v := lZ 0) X.1 X.2.1 d_MD_gain_50 (by decide) w) ?_
          exact g_lret X (⟨2, 0, rfl, hm, hkT, Or.inr (Or.inl ⟨bi, rfl, hbi, cj, rfl⟩)⟩) (by decide) (by decide) d_MD_gain_51
  · refine g_1 (fun w => lv_iconst (v := iZ 0) X.1 X.2.1 d_MD_gain_16 rfl w) ?_
    refine g_goto (tgt := 26) X d_MD_gain_17 (by decide) ?_
    refine g_s (fun kk => lv_istore (lv' := [(4, .int (iZ (0))), (3, .int (iZ (if i < 0 ∨ (mN M) - 1 < i then 1 else 0))), (0, .ref a), (1, .int (iZ (i))), (2, .int (iZ (j)))]) X.1 X.2.1 d_MD_gain_26 hl (by decide) rfl kk) (fun ls hl => ?_)
    refine g_1 (fun w => lv_aload_n X.1 X.2.1 d_MD_gain_28 rfl (lv_at hl 2 rfl) w) ?_
    refine g_1 (fun w => lv_iload_n X.1 X.2.1 d_MD_gain_29 rfl (lv_at hl 1 rfl) w) ?_
    refine g_1 (fun w => lv_iload_n X.1 X.2.1 d_MD_gain_30 rfl (lv_at hl 1 rfl) w) ?_
    refine g_if_ne (tgt := 43) X (by first | exact ok_if (k5 _) | exact ⟨by omega, by omega⟩ | (split <;> exact ⟨by omega, by omega⟩) | exact cmpZ_ok _ _ | exact mul_ok (by omega) (by omega) (by omega) (by omega)) d_MD_gain_31 (by decide) (fun c31 => ?_) (fun c31 => ?_)
    · refine g_1 (fun w => lv_iconst (v := iZ 0) X.1 X.2.1 d_MD_gain_43 rfl w) ?_
      refine g_callV (na := 2) X (c_MD_throwing B0 hm (by split <;> exact ⟨by omega, by omega⟩) ⟨by omega, by omega⟩ (t := 1) (thr_1 c13).symm (r := 1) (by decide)) rfl f0 rfl ⟨⟨tw_563, tw_5⟩, ⟨by decide, by decide, by decide +kernel⟩, by decide, by decide⟩ tw_560 tw_562 ts_MD_throwing rfl hl.1 (Nat.le_of_ble_eq_true rfl) ⟨by decide, by decide⟩ d_MD_gain_44 (fun v h_3 hp => ?_)
      obtain ⟨rfl, hm, hkT⟩ := hp
      obtain ⟨p3, p4, p6, p7, p9, p10, p11, p12, p13, p14, f0, f3, f4, f6, f7, f9, f10, f11, f12, f13, f14⟩ := id hm
      refine g_widen (k' := 0) (n' := 0) (by decide) (by decide) ?_
      show G D s0 p l e _ s m _ below meth c h_3 _ _ _ (F0 m 47 ls [.int (iZ (1))])
      refine g_if_eq (tgt := 52) X (by first | exact ok_if (k5 _) | exact ⟨by omega, by omega⟩ | (split <;> exact ⟨by omega, by omega⟩) | exact cmpZ_ok _ _ | exact mul_ok (by omega) (by omega) (by omega) (by omega)) d_MD_gain_47 (by decide) (fun c47 => ?_) (fun c47 => ?_)
      · exact absurd c47 (by decide)
      · refine g_1 (fun w => lv_lconst (v := lZ 0) X.1 X.2.1 d_MD_gain_50 (by decide) w) ?_
        exact g_lret X (⟨1, 0, rfl, hm, hkT, Or.inl ⟨by have z := if_1 c13; omega, rfl⟩⟩) (by decide) (by decide) d_MD_gain_51
    · exact absurd c31 c13

set_option maxHeartbeats 4000000 in
set_option maxRecDepth 100000 in
theorem c_MD_step {D : va_G} {s0 : State} {l : Launch} {h : gH} (B0 : gB D s0) {a n : Nat} {M : Mdl} {bs : Nat → Blk} (hm : isMD D h a M) (hv : mV M n bs) (hw : ∀ b, b < n → wfC (bs b)) {i j z : Int} (hi : i_ok i) (hj : i_ok j) (hz : i_ok z) : gMet D s0 l y_MD_step b_MD_step 6 (some .int) ({ frames := 3, cells := 0, slots := 0, locals := 77 } : Room) [.ref a, .int (iZ (i)), .int (iZ (j)), .int (iZ (z))] h (fun v h' => ∃ t r : Int, some (.int (iZ r)) = v ∧ isMD D h' a (t, M.2) ∧ kp P_MD h h' ∧ ((sBad n i j z ∧ t = 1) ∨ (¬ sBad n i j z ∧ ∃ b : Nat, (b : Int) = i ∧ b < n ∧ ((j = -1 ∧ t = 0 ∧ r = bS (bs b)) ∨ (j ≠ -1 ∧ ¬ (0 ≤ j ∧ j < bS (bs b)) ∧ t = 2) ∨ (j ≠ -1 ∧ t = 0 ∧ ∃ k : Nat, (k : Int) = j ∧ k < bS (bs b) ∧ r = if z = 0 then (bC (bs b) (k + 1) : Int) else bB (bs b) (bC (bs b) (k + 1)) - bB (bs b) (bC (bs b) k)))))) := by
  obtain ⟨p3, p4, p6, p7, p9, p10, p11, p12, p13, p14, f0, f3, f4, f6, f7, f9, f10, f11, f12, f13, f14⟩ := id hm
  obtain ⟨v1, v2, v3, v4, v5⟩ := id hv
  obtain ⟨hi1, hi2⟩ := id hi
  obtain ⟨hj1, hj2⟩ := id hj
  obtain ⟨hz1, hz2⟩ := id hz
  refine g_enter B0 (plainFor_of_name (by decide)) (Nat.le_of_ble_eq_true rfl) (fun p e s m below meth c ls X hnm hl => ?_)
  have hl : lv_has ls 6 [(0, .ref a), (1, .int (iZ (i))), (2, .int (iZ (j))), (3, .int (iZ (z)))] := hl
  refine g_1 (fun w => lv_iload_n X.1 X.2.1 d_MD_step_0 rfl (lv_at hl 1 rfl) w) ?_
  refine g_1 (fun w => lv_iconst (v := iZ 0) X.1 X.2.1 d_MD_step_1 rfl w) ?_
  refine g_1 (fun w => lv_aload_n X.1 X.2.1 d_MD_step_2 rfl (lv_at hl 0 rfl) w) ?_
  refine g_get X (ci := 4) rfl f0 1 (by decide) ⟨rfl, rfl⟩ tw_503 (Or.inl rfl) rfl d_MD_step_3 ?_
  refine g_1 (fun w => lv_iconst (v := iZ 1) X.1 X.2.1 d_MD_step_6 rfl w) ?_
  refine g_isub X d_MD_step_7 ?_
  refine g_callS (na := 3) X (c_MD_out B0 ⟨by omega, by omega⟩ ⟨by omega, by omega⟩ ⟨by omega, by omega⟩) rfl ⟨⟨tw_570, tw_5⟩, ⟨by decide, by decide, by decide +kernel⟩, by decide, by decide⟩ tw_568 tw_569 rfl hl.1 (Nat.le_of_ble_eq_true rfl) ⟨by decide, by decide⟩ d_MD_step_8 (fun v h' hp => ?_)
  obtain ⟨rfl, rfl⟩ := hp
  refine g_widen (k' := 0) (n' := 0) (by decide) (by decide) ?_
  show G D s0 p l e _ s m _ below meth c h _ _ _ (F0 m 11 ls [.int (iZ (if i < 0 ∨ (mN M) - 1 < i then 1 else 0))])
  refine g_if_ne (tgt := 28) X (by first | exact ok_if (k5 _) | exact ⟨by omega, by omega⟩ | (split <;> exact ⟨by omega, by omega⟩) | exact cmpZ_ok _ _ | exact mul_ok (by omega) (by omega) (by omega) (by omega)) d_MD_step_11 (by decide) (fun c11 => ?_) (fun c11 => ?_)
  · refine g_1 (fun w => lv_iconst (v := iZ 1) X.1 X.2.1 d_MD_step_28 rfl w) ?_
    refine g_goto (tgt := 33) X d_MD_step_29 (by decide) ?_
    refine g_s (fun kk => lv_istore (lv' := [(4, .int (iZ (1))), (0, .ref a), (1, .int (iZ (i))), (2, .int (iZ (j))), (3, .int (iZ (z)))]) X.1 X.2.1 d_MD_step_33 hl (by decide) rfl kk) (fun ls hl => ?_)
    refine g_1 (fun w => lv_iload X.1 X.2.1 d_MD_step_35 (lv_at hl 0 rfl) w) ?_
    refine g_if_ne (tgt := 45) X (by first | exact ok_if (k5 _) | exact ⟨by omega, by omega⟩ | (split <;> exact ⟨by omega, by omega⟩) | exact cmpZ_ok _ _ | exact mul_ok (by omega) (by omega) (by omega) (by omega)) d_MD_step_37 (by decide) (fun c37 => ?_) (fun c37 => ?_)
    · refine g_1 (fun w => lv_iconst (v := iZ 0) X.1 X.2.1 d_MD_step_45 rfl w) ?_
      refine g_goto (tgt := 55) X d_MD_step_46 (by decide) ?_
      refine g_s (fun kk => lv_istore (lv' := [(5, .int (iZ (0))), (4, .int (iZ (1))), (0, .ref a), (1, .int (iZ (i))), (2, .int (iZ (j))), (3, .int (iZ (z)))]) X.1 X.2.1 d_MD_step_55 hl (by decide) rfl kk) (fun ls hl => ?_)
      refine g_1 (fun w => lv_aload_n X.1 X.2.1 d_MD_step_57 rfl (lv_at hl 2 rfl) w) ?_
      refine g_1 (fun w => lv_iload X.1 X.2.1 d_MD_step_58 (lv_at hl 1 rfl) w) ?_
      refine g_1 (fun w => lv_iload X.1 X.2.1 d_MD_step_60 (lv_at hl 1 rfl) w) ?_
      refine g_if_ne (tgt := 74) X (by first | exact ok_if (k5 _) | exact ⟨by omega, by omega⟩ | (split <;> exact ⟨by omega, by omega⟩) | exact cmpZ_ok _ _ | exact mul_ok (by omega) (by omega) (by omega) (by omega)) d_MD_step_62 (by decide) (fun c62 => ?_) (fun c62 => ?_)
      · refine g_1 (fun w => lv_iconst (v := iZ 0) X.1 X.2.1 d_MD_step_74 rfl w) ?_
        refine g_callV (na := 2) X (c_MD_throwing B0 hm ⟨by omega, by omega⟩ ⟨by omega, by omega⟩ (t := 1) (by decide) (r := 1) (by decide)) rfl f0 rfl ⟨⟨tw_563, tw_5⟩, ⟨by decide, by decide, by decide +kernel⟩, by decide, by decide⟩ tw_560 tw_562 ts_MD_throwing rfl hl.1 (Nat.le_of_ble_eq_true rfl) ⟨by decide, by decide⟩ d_MD_step_75 (fun v h_1 hp => ?_)
        obtain ⟨rfl, hm, hkT⟩ := hp
        obtain ⟨p3, p4, p6, p7, p9, p10, p11, p12, p13, p14, f0, f3, f4, f6, f7, f9, f10, f11, f12, f13, f14⟩ := id hm
        refine g_widen (k' := 0) (n' := 0) (by decide) (by decide) ?_
        show G D s0 p l e _ s m _ below meth c h_1 _ _ _ (F0 m 78 ls [.int (iZ (1))])
        refine g_if_eq (tgt := 83) X (by first | exact ok_if (k5 _) | exact ⟨by omega, by omega⟩ | (split <;> exact ⟨by omega, by omega⟩) | exact cmpZ_ok _ _ | exact mul_ok (by omega) (by omega) (by omega) (by omega)) d_MD_step_78 (by decide) (fun c78 => ?_) (fun c78 => ?_)
        · exact absurd c78 (by decide)
        · refine g_1 (fun w => lv_iconst (v := iZ 0) X.1 X.2.1 d_MD_step_81 rfl w) ?_
          exact g_iret X (⟨1, 0, rfl, hm, hkT, Or.inl ⟨by have y := if_1 c11; omega, rfl⟩⟩) (by decide) (by decide) d_MD_step_82
      · exact absurd c62 (by decide)
    · exact absurd c37 (by decide)
  · obtain ⟨bi, rfl, hbi⟩ : ∃ bi : Nat, (bi : Int) = i ∧ bi < n := ⟨i.toNat, by have z := if_0 c11; omega, by have z := if_0 c11; omega⟩
    obtain ⟨u1, u2, u3⟩ := v5 bi hbi
    obtain ⟨⟨⟨k1, k2, k3, k4, k5, k6, k7, k8⟩, w2, w3, w4⟩, w5, w6⟩ := id (hw bi hbi)
    have wc := hw bi hbi
    refine g_1 (fun w => lv_iload_n X.1 X.2.1 d_MD_step_14 rfl (lv_at hl 2 rfl) w) ?_
    refine g_1 (fun w => lv_iconst (v := iZ (-1)) X.1 X.2.1 d_MD_step_15 rfl w) ?_
    refine g_icmp_eq (tgt := 32) X (by first | exact ok_if (k5 _) | exact ⟨by omega, by omega⟩ | (split <;> exact ⟨by omega, by omega⟩) | exact cmpZ_ok _ _ | exact mul_ok (by omega) (by omega) (by omega) (by omega)) (by first | exact ok_if (k5 _) | exact ⟨by omega, by omega⟩ | (split <;> exact ⟨by omega, by omega⟩) | exact cmpZ_ok _ _ | exact mul_ok (by omega) (by omega) (by omega) (by omega)) d_MD_step_16 (by decide) (fun c16 => ?_) (fun c16 => ?_)
    · refine g_1 (fun w => lv_iconst (v := iZ 0) X.1 X.2.1 d_MD_step_32 rfl w) ?_
      refine g_s (fun kk => lv_istore (lv' := [(4, .int (iZ (0))), (0, .ref a), (1, .int (iZ (bi))), (2, .int (iZ (j))), (3, .int (iZ (z)))]) X.1 X.2.1 d_MD_step_33 hl (by decide) rfl kk) (fun ls hl => ?_)
      refine g_1 (fun w => lv_iload X.1 X.2.1 d_MD_step_35 (lv_at hl 0 rfl) w) ?_
      refine g_if_ne (tgt := 45) X (by first | exact ok_if (k5 _) | exact ⟨by omega, by omega⟩ | (split <;> exact ⟨by omega, by omega⟩) | exact cmpZ_ok _ _ | exact mul_ok (by omega) (by omega) (by omega) (by omega)) d_MD_step_37 (by decide) (fun c37 => ?_) (fun c37 => ?_)
      · exact absurd c37 (by decide)
      · refine g_1 (fun w => lv_iload_n X.1 X.2.1 d_MD_step_40 rfl (lv_at hl 3 rfl) w) ?_
        refine g_1 (fun w => lv_iconst (v := iZ (-1)) X.1 X.2.1 d_MD_step_41 rfl w) ?_
        refine g_icmp_ne (tgt := 49) X (by first | exact ok_if (k5 _) | exact ⟨by omega, by omega⟩ | (split <;> exact ⟨by omega, by omega⟩) | exact cmpZ_ok _ _ | exact mul_ok (by omega) (by omega) (by omega) (by omega)) (by first | exact ok_if (k5 _) | exact ⟨by omega, by omega⟩ | (split <;> exact ⟨by omega, by omega⟩) | exact cmpZ_ok _ _ | exact mul_ok (by omega) (by omega) (by omega) (by omega)) d_MD_step_42 (by decide) (fun c42 => ?_) (fun c42 => ?_)
        · exact absurd c16 c42
        · refine g_1 (fun w => lv_iconst (v := iZ 0) X.1 X.2.1 d_MD_step_45 rfl w) ?_
          refine g_goto (tgt := 55) X d_MD_step_46 (by decide) ?_
          refine g_s (fun kk => lv_istore (lv' := [(5, .int (iZ (0))), (4, .int (iZ (0))), (0, .ref a), (1, .int (iZ (bi))), (2, .int (iZ (j))), (3, .int (iZ (z)))]) X.1 X.2.1 d_MD_step_55 hl (by decide) rfl kk) (fun ls hl => ?_)
          refine g_1 (fun w => lv_aload_n X.1 X.2.1 d_MD_step_57 rfl (lv_at hl 2 rfl) w) ?_
          refine g_1 (fun w => lv_iload X.1 X.2.1 d_MD_step_58 (lv_at hl 1 rfl) w) ?_
          refine g_1 (fun w => lv_iload X.1 X.2.1 d_MD_step_60 (lv_at hl 1 rfl) w) ?_
          refine g_if_ne (tgt := 74) X (by first | exact ok_if (k5 _) | exact ⟨by omega, by omega⟩ | (split <;> exact ⟨by omega, by omega⟩) | exact cmpZ_ok _ _ | exact mul_ok (by omega) (by omega) (by omega) (by omega)) d_MD_step_62 (by decide) (fun c62 => ?_) (fun c62 => ?_)
          · exact absurd c62 (by decide)
          · refine g_1 (fun w => lv_iload X.1 X.2.1 d_MD_step_65 (lv_at hl 0 rfl) w) ?_
            refine g_if_ge (tgt := 74) X (by first | exact ok_if (k5 _) | exact ⟨by omega, by omega⟩ | (split <;> exact ⟨by omega, by omega⟩) | exact cmpZ_ok _ _ | exact mul_ok (by omega) (by omega) (by omega) (by omega)) d_MD_step_67 (by decide) (fun c67 => ?_) (fun c67 => ?_)
            · refine g_1 (fun w => lv_iconst (v := iZ 0) X.1 X.2.1 d_MD_step_74 rfl w) ?_
              refine g_callV (na := 2) X (c_MD_throwing B0 hm ⟨by omega, by omega⟩ ⟨by omega, by omega⟩ (t := 0) (by decide) (r := 0) (by decide)) rfl f0 rfl ⟨⟨tw_563, tw_5⟩, ⟨by decide, by decide, by decide +kernel⟩, by decide, by decide⟩ tw_560 tw_562 ts_MD_throwing rfl hl.1 (Nat.le_of_ble_eq_true rfl) ⟨by decide, by decide⟩ d_MD_step_75 (fun v h_2 hp => ?_)
              obtain ⟨rfl, hm, hkT⟩ := hp
              obtain ⟨p3, p4, p6, p7, p9, p10, p11, p12, p13, p14, f0, f3, f4, f6, f7, f9, f10, f11, f12, f13, f14⟩ := id hm
              refine g_widen (k' := 0) (n' := 0) (by decide) (by decide) ?_
              show G D s0 p l e _ s m _ below meth c h_2 _ _ _ (F0 m 78 ls [.int (iZ (0))])
              refine g_if_eq (tgt := 83) X (by first | exact ok_if (k5 _) | exact ⟨by omega, by omega⟩ | (split <;> exact ⟨by omega, by omega⟩) | exact cmpZ_ok _ _ | exact mul_ok (by omega) (by omega) (by omega) (by omega)) d_MD_step_78 (by decide) (fun c78 => ?_) (fun c78 => ?_)
              · refine g_1 (fun w => lv_iload_n X.1 X.2.1 d_MD_step_83 rfl (lv_at hl 4 rfl) w) ?_
                refine g_1 (fun w => lv_iconst (v := iZ (-1)) X.1 X.2.1 d_MD_step_84 rfl w) ?_
                refine g_icmp_ne (tgt := 94) X (by first | exact ok_if (k5 _) | exact ⟨by omega, by omega⟩ | (split <;> exact ⟨by omega, by omega⟩) | exact cmpZ_ok _ _ | exact mul_ok (by omega) (by omega) (by omega) (by omega)) (by first | exact ok_if (k5 _) | exact ⟨by omega, by omega⟩ | (split <;> exact ⟨by omega, by omega⟩) | exact cmpZ_ok _ _ | exact mul_ok (by omega) (by omega) (by omega) (by omega)) d_MD_step_85 (by decide) (fun c85 => ?_) (fun c85 => ?_)
                · exact absurd c16 c85
                · refine g_1 (fun w => lv_aload_n X.1 X.2.1 d_MD_step_88 rfl (lv_at hl 2 rfl) w) ?_
                  refine g_1 (fun w => lv_iload_n X.1 X.2.1 d_MD_step_89 rfl (lv_at hl 3 rfl) w) ?_
                  refine g_callV (na := 1) X (c_MD_countOf B0 hm hv hw bi hbi) rfl f0 rfl ⟨⟨tw_600, tw_5⟩, ⟨by decide, by decide, by decide +kernel⟩, by decide, by decide⟩ tw_597 tw_599 ts_MD_countOf rfl hl.1 (Nat.le_of_ble_eq_true rfl) ⟨by decide, by decide⟩ d_MD_step_90 (fun v h' hp => ?_)
                  obtain ⟨rfl, rfl⟩ := hp
                  refine g_widen (k' := 0) (n' := 0) (by decide) (by decide) ?_
                  show G D s0 p l e _ s m _ below meth c h_2 _ _ _ (F0 m 93 ls [.int (iZ (bS (bs bi)))])
                  exact g_iret X (⟨0, _, rfl, hm, hkT, Or.inr ⟨by omega, bi, rfl, hbi, Or.inl ⟨by omega, rfl, rfl⟩⟩⟩) (by decide) (by decide) d_MD_step_93
              · exact absurd c78 (by decide)
            · exact absurd c67 (by decide)
    · refine g_1 (fun w => lv_iload_n X.1 X.2.1 d_MD_step_19 rfl (lv_at hl 3 rfl) w) ?_
      refine g_1 (fun w => lv_iconst (v := iZ 0) X.1 X.2.1 d_MD_step_20 rfl w) ?_
      refine g_1 (fun w => lv_iconst (v := iZ 1) X.1 X.2.1 d_MD_step_21 rfl w) ?_
      refine g_callS (na := 3) X (c_MD_out B0 ⟨by omega, by omega⟩ ⟨by omega, by omega⟩ ⟨by omega, by omega⟩) rfl ⟨⟨tw_570, tw_5⟩, ⟨by decide, by decide, by decide +kernel⟩, by decide, by decide⟩ tw_568 tw_569 rfl hl.1 (Nat.le_of_ble_eq_true rfl) ⟨by decide, by decide⟩ d_MD_step_22 (fun v h' hp => ?_)
      obtain ⟨rfl, rfl⟩ := hp
      refine g_widen (k' := 0) (n' := 0) (by decide) (by decide) ?_
      show G D s0 p l e _ s m _ below meth c h _ _ _ (F0 m 25 ls [.int (iZ (if z < 0 ∨ 1 < z then 1 else 0))])
      refine g_if_eq (tgt := 32) X (by first | exact ok_if (k5 _) | exact ⟨by omega, by omega⟩ | (split <;> exact ⟨by omega, by omega⟩) | exact cmpZ_ok _ _ | exact mul_ok (by omega) (by omega) (by omega) (by omega)) d_MD_step_25 (by decide) (fun c25 => ?_) (fun c25 => ?_)
      · refine g_1 (fun w => lv_iconst (v := iZ 0) X.1 X.2.1 d_MD_step_32 rfl w) ?_
        refine g_s (fun kk => lv_istore (lv' := [(4, .int (iZ (0))), (0, .ref a), (1, .int (iZ (bi))), (2, .int (iZ (j))), (3, .int (iZ (z)))]) X.1 X.2.1 d_MD_step_33 hl (by decide) rfl kk) (fun ls hl => ?_)
        refine g_1 (fun w => lv_iload X.1 X.2.1 d_MD_step_35 (lv_at hl 0 rfl) w) ?_
        refine g_if_ne (tgt := 45) X (by first | exact ok_if (k5 _) | exact ⟨by omega, by omega⟩ | (split <;> exact ⟨by omega, by omega⟩) | exact cmpZ_ok _ _ | exact mul_ok (by omega) (by omega) (by omega) (by omega)) d_MD_step_37 (by decide) (fun c37 => ?_) (fun c37 => ?_)
        · exact absurd c37 (by decide)
        · refine g_1 (fun w => lv_iload_n X.1 X.2.1 d_MD_step_40 rfl (lv_at hl 3 rfl) w) ?_
          refine g_1 (fun w => lv_iconst (v := iZ (-1)) X.1 X.2.1 d_MD_step_41 rfl w) ?_
          refine g_icmp_ne (tgt := 49) X (by first | exact ok_if (k5 _) | exact ⟨by omega, by omega⟩ | (split <;> exact ⟨by omega, by omega⟩) | exact cmpZ_ok _ _ | exact mul_ok (by omega) (by omega) (by omega) (by omega)) (by first | exact ok_if (k5 _) | exact ⟨by omega, by omega⟩ | (split <;> exact ⟨by omega, by omega⟩) | exact cmpZ_ok _ _ | exact mul_ok (by omega) (by omega) (by omega) (by omega)) d_MD_step_42 (by decide) (fun c42 => ?_) (fun c42 => ?_)
          · refine g_1 (fun w => lv_aload_n X.1 X.2.1 d_MD_step_49 rfl (lv_at hl 1 rfl) w) ?_
            refine g_1 (fun w => lv_iload_n X.1 X.2.1 d_MD_step_50 rfl (lv_at hl 2 rfl) w) ?_
            refine g_1 (fun w => lv_iload_n X.1 X.2.1 d_MD_step_51 rfl (lv_at hl 3 rfl) w) ?_
            refine g_callV (na := 2) X (c_MD_beginOf B0 hm hv hw bi hbi ⟨by omega, by omega⟩) rfl f0 rfl ⟨⟨tw_581, tw_5⟩, ⟨by decide, by decide, by decide +kernel⟩, by decide, by decide⟩ tw_578 tw_580 ts_MD_beginOf rfl hl.1 (Nat.le_of_ble_eq_true rfl) ⟨by decide, by decide⟩ d_MD_step_52 (fun v h' hp => ?_)
            obtain ⟨rfl, rfl⟩ := hp
            refine g_widen (k' := 0) (n' := 0) (by decide) (by decide) ?_
            show G D s0 p l e _ s m _ below meth c h _ _ _ (F0 m 55 ls [.int (iZ (if 0 ≤ j ∧ j < bS (bs bi) then (bC (bs bi) j.toNat : Int) else -1))])
            refine g_s (fun kk => lv_istore (lv' := [(5, .int (iZ (if 0 ≤ j ∧ j < bS (bs bi) then (bC (bs bi) j.toNat : Int) else -1))), (4, .int (iZ (0))), (0, .ref a), (1, .int (iZ (bi))), (2, .int (iZ (j))), (3, .int (iZ (z)))]) X.1 X.2.1 d_MD_step_55 hl (by decide) rfl kk) (fun ls hl => ?_)
            refine g_1 (fun w => lv_aload_n X.1 X.2.1 d_MD_step_57 rfl (lv_at hl 2 rfl) w) ?_
            refine g_1 (fun w => lv_iload X.1 X.2.1 d_MD_step_58 (lv_at hl 1 rfl) w) ?_
            refine g_1 (fun w => lv_iload X.1 X.2.1 d_MD_step_60 (lv_at hl 1 rfl) w) ?_
            refine g_if_ne (tgt := 74) X (by first | exact ok_if (k5 _) | exact ⟨by omega, by omega⟩ | (split <;> exact ⟨by omega, by omega⟩) | exact cmpZ_ok _ _ | exact mul_ok (by omega) (by omega) (by omega) (by omega)) d_MD_step_62 (by decide) (fun c62 => ?_) (fun c62 => ?_)
            · exact absurd c62 (by decide)
            · refine g_1 (fun w => lv_iload X.1 X.2.1 d_MD_step_65 (lv_at hl 0 rfl) w) ?_
              refine g_if_ge (tgt := 74) X (by first | exact ok_if (k5 _) | exact ⟨by omega, by omega⟩ | (split <;> exact ⟨by omega, by omega⟩) | exact cmpZ_ok _ _ | exact mul_ok (by omega) (by omega) (by omega) (by omega)) d_MD_step_67 (by decide) (fun c67 => ?_) (fun c67 => ?_)
              · have cj : 0 ≤ j ∧ j < bS (bs bi) := by
                  rcases Classical.em (0 ≤ j ∧ j < bS (bs bi)) with z | z
                  · exact z
                  · rw [if_neg z] at c67; exact absurd c67 (by decide)
                refine g_1 (fun w => lv_iconst (v := iZ 0) X.1 X.2.1 d_MD_step_74 rfl w) ?_
                refine g_callV (na := 2) X (c_MD_throwing B0 hm ⟨by omega, by omega⟩ ⟨by omega, by omega⟩ (t := 0) (by decide) (r := 0) (by decide)) rfl f0 rfl ⟨⟨tw_563, tw_5⟩, ⟨by decide, by decide, by decide +kernel⟩, by decide, by decide⟩ tw_560 tw_562 ts_MD_throwing rfl hl.1 (Nat.le_of_ble_eq_true rfl) ⟨by decide, by decide⟩ d_MD_step_75 (fun v h_3 hp => ?_)
                obtain ⟨rfl, hm, hkT⟩ := hp
                obtain ⟨p3, p4, p6, p7, p9, p10, p11, p12, p13, p14, f0, f3, f4, f6, f7, f9, f10, f11, f12, f13, f14⟩ := id hm
                refine g_widen (k' := 0) (n' := 0) (by decide) (by decide) ?_
                show G D s0 p l e _ s m _ below meth c h_3 _ _ _ (F0 m 78 ls [.int (iZ (0))])
                refine g_if_eq (tgt := 83) X (by first | exact ok_if (k5 _) | exact ⟨by omega, by omega⟩ | (split <;> exact ⟨by omega, by omega⟩) | exact cmpZ_ok _ _ | exact mul_ok (by omega) (by omega) (by omega) (by omega)) d_MD_step_78 (by decide) (fun c78 => ?_) (fun c78 => ?_)
                · refine g_1 (fun w => lv_iload_n X.1 X.2.1 d_MD_step_83 rfl (lv_at hl 4 rfl) w) ?_
                  refine g_1 (fun w => lv_iconst (v := iZ (-1)) X.1 X.2.1 d_MD_step_84 rfl w) ?_
                  refine g_icmp_ne (tgt := 94) X (by first | exact ok_if (k5 _) | exact ⟨by omega, by omega⟩ | (split <;> exact ⟨by omega, by omega⟩) | exact cmpZ_ok _ _ | exact mul_ok (by omega) (by omega) (by omega) (by omega)) (by first | exact ok_if (k5 _) | exact ⟨by omega, by omega⟩ | (split <;> exact ⟨by omega, by omega⟩) | exact cmpZ_ok _ _ | exact mul_ok (by omega) (by omega) (by omega) (by omega)) d_MD_step_85 (by decide) (fun c85 => ?_) (fun c85 => ?_)
                  · obtain ⟨si, rfl, hsi⟩ : ∃ si : Nat, (si : Int) = j ∧ si < bS (bs bi) := ⟨j.toNat, by omega, by omega⟩
                    have hl : lv_has ls 6 [(5, .int (iZ (bC (bs bi) si))), (4, .int (iZ (0))), (0, .ref a), (1, .int (iZ (bi))), (2, .int (iZ (si))), (3, .int (iZ (z)))] := by
                      have z : (if 0 ≤ (si : Int) ∧ (si : Int) < bS (bs bi) then (bC (bs bi) (si : Int).toNat : Int) else -1) = bC (bs bi) si := by rw [if_pos (by omega), show (si : Int).toNat = si by omega]
                      rw [z] at hl
                      exact hl
                    have y1 := w3 si hsi
                    have y2 := w5.1 si hsi
                    have y3 : eN (sfr (bs bi) (bC (bs bi) si) (bP (bs bi))) = (bC (bs bi) (si + 1) : Int) := by rw [y2]; exact eN_s (by omega)
                    have y4 := wc.cle (s := si) (by omega)
                    refine g_1 (fun w => lv_iload_n X.1 X.2.1 d_MD_step_94 rfl (lv_at hl 5 rfl) w) ?_
                    refine g_if_ne (tgt := 108) X (by first | exact ok_if (k5 _) | exact ⟨by omega, by omega⟩ | (split <;> exact ⟨by omega, by omega⟩) | exact cmpZ_ok _ _ | exact mul_ok (by omega) (by omega) (by omega) (by omega)) d_MD_step_95 (by decide) (fun c95 => ?_) (fun c95 => ?_)
                    · refine g_1 (fun w => lv_aload_n X.1 X.2.1 d_MD_step_108 rfl (lv_at hl 2 rfl) w) ?_
                      refine g_1 (fun w => lv_iload_n X.1 X.2.1 d_MD_step_109 rfl (lv_at hl 3 rfl) w) ?_
                      refine g_1 (fun w => lv_iload X.1 X.2.1 d_MD_step_110 (lv_at hl 0 rfl) w) ?_
                      refine g_1 (fun w => lv_aload_n X.1 X.2.1 d_MD_step_112 rfl (lv_at hl 2 rfl) w) ?_
                      refine g_1 (fun w => lv_iload_n X.1 X.2.1 d_MD_step_113 rfl (lv_at hl 3 rfl) w) ?_
                      refine g_1 (fun w => lv_iload X.1 X.2.1 d_MD_step_114 (lv_at hl 0 rfl) w) ?_
                      refine g_callV (na := 2) X (c_MD_stepFrom B0 hm hv hw bi (bC (bs bi) si) (by omega) (by omega)) rfl f0 rfl ⟨⟨tw_585, tw_5⟩, ⟨by decide, by decide, by decide +kernel⟩, by decide, by decide⟩ tw_582 tw_584 ts_MD_stepFrom rfl hl.1 (Nat.le_of_ble_eq_true rfl) ⟨by decide, by decide⟩ d_MD_step_116 (fun v h' hp => ?_)
                      obtain ⟨rfl, rfl⟩ := hp
                      refine g_widen (k' := 0) (n' := 0) (by decide) (by decide) ?_
                      show G D s0 p l e _ s m _ below meth c h_3 _ _ _ (F0 m 119 ls [.int (iZ (eN (sfr (bs bi) (bC (bs bi) si) (bP (bs bi))))), .int (iZ (bC (bs bi) si)), .int (iZ (bi)), .ref a])
                      refine g_ti (congrArg iZ (show (eN (sfr (bs bi) (bC (bs bi) si) (bP (bs bi))) : Int) = bC (bs bi) (si + 1) from y3)) ?_
                      refine g_callV (na := 3) X (c_MD_bytesOf B0 hm hv hw bi (bC (bs bi) si) (bC (bs bi) (si + 1)) (by omega) (by omega) (by omega)) rfl f0 rfl ⟨⟨tw_593, tw_5⟩, ⟨by decide, by decide, by decide +kernel⟩, by decide, by decide⟩ tw_590 tw_592 ts_MD_bytesOf rfl hl.1 (Nat.le_of_ble_eq_true rfl) ⟨by decide, by decide⟩ d_MD_step_119 (fun v h' hp => ?_)
                      obtain ⟨rfl, rfl⟩ := hp
                      refine g_widen (k' := 0) (n' := 0) (by decide) (by decide) ?_
                      show G D s0 p l e _ s m _ below meth c h_3 _ _ _ (F0 m 122 ls [.int (iZ (bB (bs bi) (bC (bs bi) (si + 1)) - bB (bs bi) (bC (bs bi) si)))])
                      exact g_iret X (⟨0, _, rfl, hm, hkT, Or.inr ⟨by first | omega | (have z2 := if_0 c25; omega), bi, rfl, hbi, Or.inr (Or.inr ⟨by omega, rfl, si, rfl, hsi, by rw [if_neg c95]⟩)⟩⟩) (by decide) (by decide) d_MD_step_122
                    · refine g_1 (fun w => lv_aload_n X.1 X.2.1 d_MD_step_98 rfl (lv_at hl 2 rfl) w) ?_
                      refine g_1 (fun w => lv_iload_n X.1 X.2.1 d_MD_step_99 rfl (lv_at hl 3 rfl) w) ?_
                      refine g_1 (fun w => lv_iload X.1 X.2.1 d_MD_step_100 (lv_at hl 0 rfl) w) ?_
                      refine g_callV (na := 2) X (c_MD_stepFrom B0 hm hv hw bi (bC (bs bi) si) (by omega) (by omega)) rfl f0 rfl ⟨⟨tw_585, tw_5⟩, ⟨by decide, by decide, by decide +kernel⟩, by decide, by decide⟩ tw_582 tw_584 ts_MD_stepFrom rfl hl.1 (Nat.le_of_ble_eq_true rfl) ⟨by decide, by decide⟩ d_MD_step_102 (fun v h' hp => ?_)
                      obtain ⟨rfl, rfl⟩ := hp
                      refine g_widen (k' := 0) (n' := 0) (by decide) (by decide) ?_
                      show G D s0 p l e _ s m _ below meth c h_3 _ _ _ (F0 m 105 ls [.int (iZ (eN (sfr (bs bi) (bC (bs bi) si) (bP (bs bi)))))])
                      refine g_ti (congrArg iZ (show (eN (sfr (bs bi) (bC (bs bi) si) (bP (bs bi))) : Int) = bC (bs bi) (si + 1) from y3)) ?_
                      refine g_goto (tgt := 122) X d_MD_step_105 (by decide) ?_
                      exact g_iret X (⟨0, _, rfl, hm, hkT, Or.inr ⟨by first | omega | (have z2 := if_0 c25; omega), bi, rfl, hbi, Or.inr (Or.inr ⟨by omega, rfl, si, rfl, hsi, by rw [if_pos c95]⟩)⟩⟩) (by decide) (by decide) d_MD_step_122
                  · exact absurd c85 c16
                · exact absurd c78 (by decide)
              · have cj : ¬ (0 ≤ j ∧ j < bS (bs bi)) := fun z => by rw [if_pos z] at c67; omega
                refine g_1 (fun w => lv_iconst (v := iZ 1) X.1 X.2.1 d_MD_step_70 rfl w) ?_
                refine g_goto (tgt := 75) X d_MD_step_71 (by decide) ?_
                refine g_callV (na := 2) X (c_MD_throwing B0 hm ⟨by omega, by omega⟩ ⟨by omega, by omega⟩ (t := 2) (by decide) (r := 1) (by decide)) rfl f0 rfl ⟨⟨tw_563, tw_5⟩, ⟨by decide, by decide, by decide +kernel⟩, by decide, by decide⟩ tw_560 tw_562 ts_MD_throwing rfl hl.1 (Nat.le_of_ble_eq_true rfl) ⟨by decide, by decide⟩ d_MD_step_75 (fun v h_4 hp => ?_)
                obtain ⟨rfl, hm, hkT⟩ := hp
                obtain ⟨p3, p4, p6, p7, p9, p10, p11, p12, p13, p14, f0, f3, f4, f6, f7, f9, f10, f11, f12, f13, f14⟩ := id hm
                refine g_widen (k' := 0) (n' := 0) (by decide) (by decide) ?_
                show G D s0 p l e _ s m _ below meth c h_4 _ _ _ (F0 m 78 ls [.int (iZ (1))])
                refine g_if_eq (tgt := 83) X (by first | exact ok_if (k5 _) | exact ⟨by omega, by omega⟩ | (split <;> exact ⟨by omega, by omega⟩) | exact cmpZ_ok _ _ | exact mul_ok (by omega) (by omega) (by omega) (by omega)) d_MD_step_78 (by decide) (fun c78 => ?_) (fun c78 => ?_)
                · exact absurd c78 (by decide)
                · refine g_1 (fun w => lv_iconst (v := iZ 0) X.1 X.2.1 d_MD_step_81 rfl w) ?_
                  exact g_iret X (⟨2, 0, rfl, hm, hkT, Or.inr ⟨by have z2 := if_0 c25; omega, bi, rfl, hbi, Or.inr (Or.inl ⟨by omega, cj, rfl⟩)⟩⟩) (by decide) (by decide) d_MD_step_82
          · exact absurd c42 c16
      · refine g_1 (fun w => lv_iconst (v := iZ 1) X.1 X.2.1 d_MD_step_28 rfl w) ?_
        refine g_goto (tgt := 33) X d_MD_step_29 (by decide) ?_
        refine g_s (fun kk => lv_istore (lv' := [(4, .int (iZ (1))), (0, .ref a), (1, .int (iZ (bi))), (2, .int (iZ (j))), (3, .int (iZ (z)))]) X.1 X.2.1 d_MD_step_33 hl (by decide) rfl kk) (fun ls hl => ?_)
        refine g_1 (fun w => lv_iload X.1 X.2.1 d_MD_step_35 (lv_at hl 0 rfl) w) ?_
        refine g_if_ne (tgt := 45) X (by first | exact ok_if (k5 _) | exact ⟨by omega, by omega⟩ | (split <;> exact ⟨by omega, by omega⟩) | exact cmpZ_ok _ _ | exact mul_ok (by omega) (by omega) (by omega) (by omega)) d_MD_step_37 (by decide) (fun c37 => ?_) (fun c37 => ?_)
        · refine g_1 (fun w => lv_iconst (v := iZ 0) X.1 X.2.1 d_MD_step_45 rfl w) ?_
          refine g_goto (tgt := 55) X d_MD_step_46 (by decide) ?_
          refine g_s (fun kk => lv_istore (lv' := [(5, .int (iZ (0))), (4, .int (iZ (1))), (0, .ref a), (1, .int (iZ (bi))), (2, .int (iZ (j))), (3, .int (iZ (z)))]) X.1 X.2.1 d_MD_step_55 hl (by decide) rfl kk) (fun ls hl => ?_)
          refine g_1 (fun w => lv_aload_n X.1 X.2.1 d_MD_step_57 rfl (lv_at hl 2 rfl) w) ?_
          refine g_1 (fun w => lv_iload X.1 X.2.1 d_MD_step_58 (lv_at hl 1 rfl) w) ?_
          refine g_1 (fun w => lv_iload X.1 X.2.1 d_MD_step_60 (lv_at hl 1 rfl) w) ?_
          refine g_if_ne (tgt := 74) X (by first | exact ok_if (k5 _) | exact ⟨by omega, by omega⟩ | (split <;> exact ⟨by omega, by omega⟩) | exact cmpZ_ok _ _ | exact mul_ok (by omega) (by omega) (by omega) (by omega)) d_MD_step_62 (by decide) (fun c62 => ?_) (fun c62 => ?_)
          · refine g_1 (fun w => lv_iconst (v := iZ 0) X.1 X.2.1 d_MD_step_74 rfl w) ?_
            refine g_callV (na := 2) X (c_MD_throwing B0 hm ⟨by omega, by omega⟩ ⟨by omega, by omega⟩ (t := 1) (by decide) (r := 1) (by decide)) rfl f0 rfl ⟨⟨tw_563, tw_5⟩, ⟨by decide, by decide, by decide +kernel⟩, by decide, by decide⟩ tw_560 tw_562 ts_MD_throwing rfl hl.1 (Nat.le_of_ble_eq_true rfl) ⟨by decide, by decide⟩ d_MD_step_75 (fun v h_5 hp => ?_)
            obtain ⟨rfl, hm, hkT⟩ := hp
            obtain ⟨p3, p4, p6, p7, p9, p10, p11, p12, p13, p14, f0, f3, f4, f6, f7, f9, f10, f11, f12, f13, f14⟩ := id hm
            refine g_widen (k' := 0) (n' := 0) (by decide) (by decide) ?_
            show G D s0 p l e _ s m _ below meth c h_5 _ _ _ (F0 m 78 ls [.int (iZ (1))])
            refine g_if_eq (tgt := 83) X (by first | exact ok_if (k5 _) | exact ⟨by omega, by omega⟩ | (split <;> exact ⟨by omega, by omega⟩) | exact cmpZ_ok _ _ | exact mul_ok (by omega) (by omega) (by omega) (by omega)) d_MD_step_78 (by decide) (fun c78 => ?_) (fun c78 => ?_)
            · exact absurd c78 (by decide)
            · refine g_1 (fun w => lv_iconst (v := iZ 0) X.1 X.2.1 d_MD_step_81 rfl w) ?_
              exact g_iret X (⟨1, 0, rfl, hm, hkT, Or.inl ⟨by have y := if_1 c25; omega, rfl⟩⟩) (by decide) (by decide) d_MD_step_82
          · exact absurd c62 (by decide)
        · exact absurd c37 (by decide)
end
