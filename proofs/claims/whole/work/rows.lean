section
-- ===== PART A: goes FIRST, ahead of the names: the tables' words, and 'selects' of the private methods out of them =====
/-- a private method of a class that the tables say can be made, by its rows of tables_1 -/
def lw_okq (q : MethodName × Nat) : Prop := (q.1.cls ≠ "java/lang/invoke/MethodHandle" ∧ q.1.cls ≠ "java/lang/invoke/VarHandle") ∧ Cond.instantiable q.1.cls q.2 ∈ tables_1 ∧ Cond.privateMethod q.1 ∈ tables_1 ∧ Cond.instanceMethod q.1 ∈ tables_1
theorem lw_p0 : lw_okq (⟨"CloudBench", "areTwo", "(II)Z"⟩, 8) := ⟨⟨by decide +kernel, by decide +kernel⟩, List.mem_of_getElem? (i := 21) (by decide +kernel), List.mem_of_getElem? (i := 373) (by decide +kernel), List.mem_of_getElem? (i := 374) (by decide +kernel)⟩
theorem lw_p1 : lw_okq (⟨"CloudBench$Reach", "gatherGaps", "(LCloudBench$Sample;LCloudBench$Sample;)I"⟩, 9) := ⟨⟨by decide +kernel, by decide +kernel⟩, List.mem_of_getElem? (i := 204) (by decide +kernel), List.mem_of_getElem? (i := 414) (by decide +kernel), List.mem_of_getElem? (i := 415) (by decide +kernel)⟩
theorem lw_p2 : lw_okq (⟨"CloudBench$Reach", "findStep", "(IIII)I"⟩, 9) := ⟨⟨by decide +kernel, by decide +kernel⟩, List.mem_of_getElem? (i := 204) (by decide +kernel), List.mem_of_getElem? (i := 421) (by decide +kernel), List.mem_of_getElem? (i := 422) (by decide +kernel)⟩
theorem lw_p3 : lw_okq (⟨"CloudBench$Reach", "countPairs", "(II)V"⟩, 9) := ⟨⟨by decide +kernel, by decide +kernel⟩, List.mem_of_getElem? (i := 204) (by decide +kernel), List.mem_of_getElem? (i := 425) (by decide +kernel), List.mem_of_getElem? (i := 426) (by decide +kernel)⟩
theorem lw_p4 : lw_okq (⟨"CloudBench$Ways", "greatestSum", "(II)I"⟩, 5) := ⟨⟨by decide +kernel, by decide +kernel⟩, List.mem_of_getElem? (i := 105) (by decide +kernel), List.mem_of_getElem? (i := 433) (by decide +kernel), List.mem_of_getElem? (i := 434) (by decide +kernel)⟩
theorem lw_p5 : lw_okq (⟨"CloudBench$Ways", "clear", "(II)V"⟩, 5) := ⟨⟨by decide +kernel, by decide +kernel⟩, List.mem_of_getElem? (i := 105) (by decide +kernel), List.mem_of_getElem? (i := 437) (by decide +kernel), List.mem_of_getElem? (i := 438) (by decide +kernel)⟩
theorem lw_p6 : lw_okq (⟨"CloudBench$Ways", "chooseNext", "(III)V"⟩, 5) := ⟨⟨by decide +kernel, by decide +kernel⟩, List.mem_of_getElem? (i := 105) (by decide +kernel), List.mem_of_getElem? (i := 445) (by decide +kernel), List.mem_of_getElem? (i := 446) (by decide +kernel)⟩
theorem lw_p7 : lw_okq (⟨"CloudBench$Ways", "settle", "(III)V"⟩, 5) := ⟨⟨by decide +kernel, by decide +kernel⟩, List.mem_of_getElem? (i := 105) (by decide +kernel), List.mem_of_getElem? (i := 449) (by decide +kernel), List.mem_of_getElem? (i := 450) (by decide +kernel)⟩
theorem lw_p8 : lw_okq (⟨"CloudBench$Grid", "addUp", "()V"⟩, 13) := ⟨⟨by decide +kernel, by decide +kernel⟩, List.mem_of_getElem? (i := 243) (by decide +kernel), List.mem_of_getElem? (i := 497) (by decide +kernel), List.mem_of_getElem? (i := 498) (by decide +kernel)⟩
theorem lw_p9 : lw_okq (⟨"CloudBench$Grid", "waysToSplit", "(III)J"⟩, 13) := ⟨⟨by decide +kernel, by decide +kernel⟩, List.mem_of_getElem? (i := 243) (by decide +kernel), List.mem_of_getElem? (i := 501) (by decide +kernel), List.mem_of_getElem? (i := 502) (by decide +kernel)⟩
theorem lw_p10 : lw_okq (⟨"CloudBench$Grid", "tally", "()V"⟩, 13) := ⟨⟨by decide +kernel, by decide +kernel⟩, List.mem_of_getElem? (i := 243) (by decide +kernel), List.mem_of_getElem? (i := 506) (by decide +kernel), List.mem_of_getElem? (i := 507) (by decide +kernel)⟩
theorem lw_p11 : lw_okq (⟨"CloudBench$Grid", "fillColumn", "(IIIIJ)V"⟩, 13) := ⟨⟨by decide +kernel, by decide +kernel⟩, List.mem_of_getElem? (i := 243) (by decide +kernel), List.mem_of_getElem? (i := 510) (by decide +kernel), List.mem_of_getElem? (i := 511) (by decide +kernel)⟩
theorem lw_p12 : lw_okq (⟨"CloudBench$Grid", "note", "(J)V"⟩, 13) := ⟨⟨by decide +kernel, by decide +kernel⟩, List.mem_of_getElem? (i := 243) (by decide +kernel), List.mem_of_getElem? (i := 514) (by decide +kernel), List.mem_of_getElem? (i := 515) (by decide +kernel)⟩
theorem lw_p13 : lw_okq (⟨"CloudBench$Grid", "fillBelow", "(IIIIIJ)V"⟩, 13) := ⟨⟨by decide +kernel, by decide +kernel⟩, List.mem_of_getElem? (i := 243) (by decide +kernel), List.mem_of_getElem? (i := 520) (by decide +kernel), List.mem_of_getElem? (i := 521) (by decide +kernel)⟩
theorem lw_p14 : lw_okq (⟨"CloudBench", "canBeAsked", "(III)Z"⟩, 8) := ⟨⟨by decide +kernel, by decide +kernel⟩, List.mem_of_getElem? (i := 21) (by decide +kernel), List.mem_of_getElem? (i := 529) (by decide +kernel), List.mem_of_getElem? (i := 530) (by decide +kernel)⟩
theorem lw_p15 : lw_okq (⟨"CloudBench$Question", "poseSums", "(LCloudBench$Sample;LCloudBench$Sample;)V"⟩, 14) := ⟨⟨by decide +kernel, by decide +kernel⟩, List.mem_of_getElem? (i := 133) (by decide +kernel), List.mem_of_getElem? (i := 548) (by decide +kernel), List.mem_of_getElem? (i := 549) (by decide +kernel)⟩
def lw_privs_1 : List (MethodName × Nat) := [(⟨"CloudBench", "areTwo", "(II)Z"⟩, 8), (⟨"CloudBench$Reach", "gatherGaps", "(LCloudBench$Sample;LCloudBench$Sample;)I"⟩, 9), (⟨"CloudBench$Reach", "findStep", "(IIII)I"⟩, 9), (⟨"CloudBench$Reach", "countPairs", "(II)V"⟩, 9), (⟨"CloudBench$Ways", "greatestSum", "(II)I"⟩, 5), (⟨"CloudBench$Ways", "clear", "(II)V"⟩, 5), (⟨"CloudBench$Ways", "chooseNext", "(III)V"⟩, 5), (⟨"CloudBench$Ways", "settle", "(III)V"⟩, 5), (⟨"CloudBench$Grid", "addUp", "()V"⟩, 13), (⟨"CloudBench$Grid", "waysToSplit", "(III)J"⟩, 13), (⟨"CloudBench$Grid", "tally", "()V"⟩, 13), (⟨"CloudBench$Grid", "fillColumn", "(IIIIJ)V"⟩, 13), (⟨"CloudBench$Grid", "note", "(J)V"⟩, 13), (⟨"CloudBench$Grid", "fillBelow", "(IIIIIJ)V"⟩, 13), (⟨"CloudBench", "canBeAsked", "(III)Z"⟩, 8), (⟨"CloudBench$Question", "poseSums", "(LCloudBench$Sample;LCloudBench$Sample;)V"⟩, 14)]
theorem lw_r1 : ∀ q ∈ lw_privs_1, lw_okq q := List.forall_mem_cons.mpr ⟨lw_p0, List.forall_mem_cons.mpr ⟨lw_p1, List.forall_mem_cons.mpr ⟨lw_p2, List.forall_mem_cons.mpr ⟨lw_p3, List.forall_mem_cons.mpr ⟨lw_p4, List.forall_mem_cons.mpr ⟨lw_p5, List.forall_mem_cons.mpr ⟨lw_p6, List.forall_mem_cons.mpr ⟨lw_p7, List.forall_mem_cons.mpr ⟨lw_p8, List.forall_mem_cons.mpr ⟨lw_p9, List.forall_mem_cons.mpr ⟨lw_p10, List.forall_mem_cons.mpr ⟨lw_p11, List.forall_mem_cons.mpr ⟨lw_p12, List.forall_mem_cons.mpr ⟨lw_p13, List.forall_mem_cons.mpr ⟨lw_p14, List.forall_mem_cons.mpr ⟨lw_p15, fun _ h => absurd h List.not_mem_nil⟩⟩⟩⟩⟩⟩⟩⟩⟩⟩⟩⟩⟩⟩⟩⟩
theorem lw_p16 : lw_okq (⟨"CloudBench$Question", "poseChoice", "(LCloudBench$Sample;LCloudBench$Sample;)V"⟩, 14) := ⟨⟨by decide +kernel, by decide +kernel⟩, List.mem_of_getElem? (i := 133) (by decide +kernel), List.mem_of_getElem? (i := 552) (by decide +kernel), List.mem_of_getElem? (i := 553) (by decide +kernel)⟩
theorem lw_p17 : lw_okq (⟨"CloudBench$Question", "measure", "(IIII)V"⟩, 14) := ⟨⟨by decide +kernel, by decide +kernel⟩, List.mem_of_getElem? (i := 133) (by decide +kernel), List.mem_of_getElem? (i := 566) (by decide +kernel), List.mem_of_getElem? (i := 567) (by decide +kernel)⟩
theorem lw_p18 : lw_okq (⟨"CloudBench$Question", "poseRanks", "(LCloudBench$Sample;LCloudBench$Sample;)V"⟩, 14) := ⟨⟨by decide +kernel, by decide +kernel⟩, List.mem_of_getElem? (i := 133) (by decide +kernel), List.mem_of_getElem? (i := 570) (by decide +kernel), List.mem_of_getElem? (i := 571) (by decide +kernel)⟩
theorem lw_p19 : lw_okq (⟨"CloudBench$Question", "poseMost", "(LCloudBench$Sample;LCloudBench$Sample;)V"⟩, 14) := ⟨⟨by decide +kernel, by decide +kernel⟩, List.mem_of_getElem? (i := 133) (by decide +kernel), List.mem_of_getElem? (i := 575) (by decide +kernel), List.mem_of_getElem? (i := 576) (by decide +kernel)⟩
theorem lw_p20 : lw_okq (⟨"CloudBench$Question", "poseSigns", "(LCloudBench$Sample;LCloudBench$Sample;)V"⟩, 14) := ⟨⟨by decide +kernel, by decide +kernel⟩, List.mem_of_getElem? (i := 133) (by decide +kernel), List.mem_of_getElem? (i := 587) (by decide +kernel), List.mem_of_getElem? (i := 588) (by decide +kernel)⟩
theorem lw_p21 : lw_okq (⟨"CloudBench$Question", "posePairs", "(LCloudBench$Sample;LCloudBench$Sample;)V"⟩, 14) := ⟨⟨by decide +kernel, by decide +kernel⟩, List.mem_of_getElem? (i := 133) (by decide +kernel), List.mem_of_getElem? (i := 591) (by decide +kernel), List.mem_of_getElem? (i := 592) (by decide +kernel)⟩
theorem lw_p22 : lw_okq (⟨"CloudBench$Question", "poseTurns", "(LCloudBench$Sample;LCloudBench$Sample;)V"⟩, 14) := ⟨⟨by decide +kernel, by decide +kernel⟩, List.mem_of_getElem? (i := 133) (by decide +kernel), List.mem_of_getElem? (i := 596) (by decide +kernel), List.mem_of_getElem? (i := 597) (by decide +kernel)⟩
theorem lw_p23 : lw_okq (⟨"CloudBench$Question", "poseOrder", "(LCloudBench$Sample;LCloudBench$Sample;)V"⟩, 14) := ⟨⟨by decide +kernel, by decide +kernel⟩, List.mem_of_getElem? (i := 133) (by decide +kernel), List.mem_of_getElem? (i := 600) (by decide +kernel), List.mem_of_getElem? (i := 601) (by decide +kernel)⟩
theorem lw_p24 : lw_okq (⟨"CloudBench$Question", "countWays", "()V"⟩, 14) := ⟨⟨by decide +kernel, by decide +kernel⟩, List.mem_of_getElem? (i := 133) (by decide +kernel), List.mem_of_getElem? (i := 610) (by decide +kernel), List.mem_of_getElem? (i := 611) (by decide +kernel)⟩
theorem lw_p25 : lw_okq (⟨"CloudBench$Ways", "addGaps", "(I)V"⟩, 5) := ⟨⟨by decide +kernel, by decide +kernel⟩, List.mem_of_getElem? (i := 105) (by decide +kernel), List.mem_of_getElem? (i := 620) (by decide +kernel), List.mem_of_getElem? (i := 621) (by decide +kernel)⟩
theorem lw_p26 : lw_okq (⟨"CloudBench$Ways", "liftGaps", "(II)V"⟩, 5) := ⟨⟨by decide +kernel, by decide +kernel⟩, List.mem_of_getElem? (i := 105) (by decide +kernel), List.mem_of_getElem? (i := 625) (by decide +kernel), List.mem_of_getElem? (i := 626) (by decide +kernel)⟩
theorem lw_p27 : lw_okq (⟨"CloudBench$Question", "isOnSide", "(JI)Z"⟩, 14) := ⟨⟨by decide +kernel, by decide +kernel⟩, List.mem_of_getElem? (i := 133) (by decide +kernel), List.mem_of_getElem? (i := 638) (by decide +kernel), List.mem_of_getElem? (i := 639) (by decide +kernel)⟩
theorem lw_p28 : lw_okq (⟨"CloudBench$Question", "far", "(J)J"⟩, 14) := ⟨⟨by decide +kernel, by decide +kernel⟩, List.mem_of_getElem? (i := 133) (by decide +kernel), List.mem_of_getElem? (i := 642) (by decide +kernel), List.mem_of_getElem? (i := 643) (by decide +kernel)⟩
theorem lw_p29 : lw_okq (⟨"CloudBench$Roll", "leastLeft", "()I"⟩, 4) := ⟨⟨by decide +kernel, by decide +kernel⟩, List.mem_of_getElem? (i := 289) (by decide +kernel), List.mem_of_getElem? (i := 667) (by decide +kernel), List.mem_of_getElem? (i := 668) (by decide +kernel)⟩
theorem lw_p30 : lw_okq (⟨"java/lang/Throwable", "fillInStackTrace", "(I)Ljava/lang/Throwable;"⟩, 6) := ⟨⟨by decide +kernel, by decide +kernel⟩, List.mem_of_getElem? (i := 726) (by decide +kernel), List.mem_of_getElem? (i := 724) (by decide +kernel), List.mem_of_getElem? (i := 725) (by decide +kernel)⟩
theorem lw_p31 : lw_okq (⟨"CloudBench", "mustBeAsked", "(III)V"⟩, 8) := ⟨⟨by decide +kernel, by decide +kernel⟩, List.mem_of_getElem? (i := 21) (by decide +kernel), List.mem_of_getElem? (i := 764) (by decide +kernel), List.mem_of_getElem? (i := 765) (by decide +kernel)⟩
def lw_privs_2 : List (MethodName × Nat) := [(⟨"CloudBench$Question", "poseChoice", "(LCloudBench$Sample;LCloudBench$Sample;)V"⟩, 14), (⟨"CloudBench$Question", "measure", "(IIII)V"⟩, 14), (⟨"CloudBench$Question", "poseRanks", "(LCloudBench$Sample;LCloudBench$Sample;)V"⟩, 14), (⟨"CloudBench$Question", "poseMost", "(LCloudBench$Sample;LCloudBench$Sample;)V"⟩, 14), (⟨"CloudBench$Question", "poseSigns", "(LCloudBench$Sample;LCloudBench$Sample;)V"⟩, 14), (⟨"CloudBench$Question", "posePairs", "(LCloudBench$Sample;LCloudBench$Sample;)V"⟩, 14), (⟨"CloudBench$Question", "poseTurns", "(LCloudBench$Sample;LCloudBench$Sample;)V"⟩, 14), (⟨"CloudBench$Question", "poseOrder", "(LCloudBench$Sample;LCloudBench$Sample;)V"⟩, 14), (⟨"CloudBench$Question", "countWays", "()V"⟩, 14), (⟨"CloudBench$Ways", "addGaps", "(I)V"⟩, 5), (⟨"CloudBench$Ways", "liftGaps", "(II)V"⟩, 5), (⟨"CloudBench$Question", "isOnSide", "(JI)Z"⟩, 14), (⟨"CloudBench$Question", "far", "(J)J"⟩, 14), (⟨"CloudBench$Roll", "leastLeft", "()I"⟩, 4), (⟨"java/lang/Throwable", "fillInStackTrace", "(I)Ljava/lang/Throwable;"⟩, 6), (⟨"CloudBench", "mustBeAsked", "(III)V"⟩, 8)]
theorem lw_r2 : ∀ q ∈ lw_privs_2, lw_okq q := List.forall_mem_cons.mpr ⟨lw_p16, List.forall_mem_cons.mpr ⟨lw_p17, List.forall_mem_cons.mpr ⟨lw_p18, List.forall_mem_cons.mpr ⟨lw_p19, List.forall_mem_cons.mpr ⟨lw_p20, List.forall_mem_cons.mpr ⟨lw_p21, List.forall_mem_cons.mpr ⟨lw_p22, List.forall_mem_cons.mpr ⟨lw_p23, List.forall_mem_cons.mpr ⟨lw_p24, List.forall_mem_cons.mpr ⟨lw_p25, List.forall_mem_cons.mpr ⟨lw_p26, List.forall_mem_cons.mpr ⟨lw_p27, List.forall_mem_cons.mpr ⟨lw_p28, List.forall_mem_cons.mpr ⟨lw_p29, List.forall_mem_cons.mpr ⟨lw_p30, List.forall_mem_cons.mpr ⟨lw_p31, fun _ h => absurd h List.not_mem_nil⟩⟩⟩⟩⟩⟩⟩⟩⟩⟩⟩⟩⟩⟩⟩⟩
theorem lw_p32 : lw_okq (⟨"CloudBenchModel", "isPair", "(II)Z"⟩, 38) := ⟨⟨by decide +kernel, by decide +kernel⟩, List.mem_of_getElem? (i := 814) (by decide +kernel), List.mem_of_getElem? (i := 963) (by decide +kernel), List.mem_of_getElem? (i := 964) (by decide +kernel)⟩
theorem lw_p33 : lw_okq (⟨"CloudBenchModel", "takeAll", "(II)V"⟩, 38) := ⟨⟨by decide +kernel, by decide +kernel⟩, List.mem_of_getElem? (i := 814) (by decide +kernel), List.mem_of_getElem? (i := 967) (by decide +kernel), List.mem_of_getElem? (i := 968) (by decide +kernel)⟩
theorem lw_p34 : lw_okq (⟨"CloudBenchModel", "ranks", "()V"⟩, 38) := ⟨⟨by decide +kernel, by decide +kernel⟩, List.mem_of_getElem? (i := 814) (by decide +kernel), List.mem_of_getElem? (i := 971) (by decide +kernel), List.mem_of_getElem? (i := 972) (by decide +kernel)⟩
theorem lw_p35 : lw_okq (⟨"CloudBenchModel", "takeDifferences", "(II)V"⟩, 38) := ⟨⟨by decide +kernel, by decide +kernel⟩, List.mem_of_getElem? (i := 814) (by decide +kernel), List.mem_of_getElem? (i := 979) (by decide +kernel), List.mem_of_getElem? (i := 980) (by decide +kernel)⟩
theorem lw_p36 : lw_okq (⟨"CloudBenchModel", "asks", "(III)Z"⟩, 38) := ⟨⟨by decide +kernel, by decide +kernel⟩, List.mem_of_getElem? (i := 814) (by decide +kernel), List.mem_of_getElem? (i := 987) (by decide +kernel), List.mem_of_getElem? (i := 988) (by decide +kernel)⟩
theorem lw_p37 : lw_okq (⟨"CloudBenchModel", "canAsk", "(III)Z"⟩, 38) := ⟨⟨by decide +kernel, by decide +kernel⟩, List.mem_of_getElem? (i := 814) (by decide +kernel), List.mem_of_getElem? (i := 991) (by decide +kernel), List.mem_of_getElem? (i := 992) (by decide +kernel)⟩
theorem lw_p38 : lw_okq (⟨"CloudBenchModel", "hasTwice", "(I)Z"⟩, 38) := ⟨⟨by decide +kernel, by decide +kernel⟩, List.mem_of_getElem? (i := 814) (by decide +kernel), List.mem_of_getElem? (i := 995) (by decide +kernel), List.mem_of_getElem? (i := 996) (by decide +kernel)⟩
theorem lw_p39 : lw_okq (⟨"CloudBenchModel", "fill", "(III)V"⟩, 38) := ⟨⟨by decide +kernel, by decide +kernel⟩, List.mem_of_getElem? (i := 814) (by decide +kernel), List.mem_of_getElem? (i := 999) (by decide +kernel), List.mem_of_getElem? (i := 1000) (by decide +kernel)⟩
theorem lw_p40 : lw_okq (⟨"CloudBenchModel", "chosen", "([IIIIJJ)V"⟩, 38) := ⟨⟨by decide +kernel, by decide +kernel⟩, List.mem_of_getElem? (i := 814) (by decide +kernel), List.mem_of_getElem? (i := 1004) (by decide +kernel), List.mem_of_getElem? (i := 1005) (by decide +kernel)⟩
theorem lw_p41 : lw_okq (⟨"CloudBenchModel", "tells", "(JJ)V"⟩, 38) := ⟨⟨by decide +kernel, by decide +kernel⟩, List.mem_of_getElem? (i := 814) (by decide +kernel), List.mem_of_getElem? (i := 1008) (by decide +kernel), List.mem_of_getElem? (i := 1009) (by decide +kernel)⟩
theorem lw_p42 : lw_okq (⟨"CloudBenchModel", "most", "(II)V"⟩, 38) := ⟨⟨by decide +kernel, by decide +kernel⟩, List.mem_of_getElem? (i := 814) (by decide +kernel), List.mem_of_getElem? (i := 1012) (by decide +kernel), List.mem_of_getElem? (i := 1013) (by decide +kernel)⟩
theorem lw_p43 : lw_okq (⟨"CloudBenchModel", "group", "()V"⟩, 38) := ⟨⟨by decide +kernel, by decide +kernel⟩, List.mem_of_getElem? (i := 814) (by decide +kernel), List.mem_of_getElem? (i := 1016) (by decide +kernel), List.mem_of_getElem? (i := 1017) (by decide +kernel)⟩
theorem lw_p44 : lw_okq (⟨"CloudBenchModel", "within", "(III)J"⟩, 38) := ⟨⟨by decide +kernel, by decide +kernel⟩, List.mem_of_getElem? (i := 814) (by decide +kernel), List.mem_of_getElem? (i := 1023) (by decide +kernel), List.mem_of_getElem? (i := 1024) (by decide +kernel)⟩
theorem lw_p45 : lw_okq (⟨"CloudBenchModel", "any", "([IIIJJ)V"⟩, 38) := ⟨⟨by decide +kernel, by decide +kernel⟩, List.mem_of_getElem? (i := 814) (by decide +kernel), List.mem_of_getElem? (i := 1027) (by decide +kernel), List.mem_of_getElem? (i := 1028) (by decide +kernel)⟩
theorem lw_p46 : lw_okq (⟨"CloudBenchModel", "order", "(II)V"⟩, 38) := ⟨⟨by decide +kernel, by decide +kernel⟩, List.mem_of_getElem? (i := 814) (by decide +kernel), List.mem_of_getElem? (i := 1032) (by decide +kernel), List.mem_of_getElem? (i := 1033) (by decide +kernel)⟩
theorem lw_p47 : lw_okq (⟨"CloudBenchModel", "counted", "(I)J"⟩, 38) := ⟨⟨by decide +kernel, by decide +kernel⟩, List.mem_of_getElem? (i := 814) (by decide +kernel), List.mem_of_getElem? (i := 1045) (by decide +kernel), List.mem_of_getElem? (i := 1046) (by decide +kernel)⟩
def lw_privs_3 : List (MethodName × Nat) := [(⟨"CloudBenchModel", "isPair", "(II)Z"⟩, 38), (⟨"CloudBenchModel", "takeAll", "(II)V"⟩, 38), (⟨"CloudBenchModel", "ranks", "()V"⟩, 38), (⟨"CloudBenchModel", "takeDifferences", "(II)V"⟩, 38), (⟨"CloudBenchModel", "asks", "(III)Z"⟩, 38), (⟨"CloudBenchModel", "canAsk", "(III)Z"⟩, 38), (⟨"CloudBenchModel", "hasTwice", "(I)Z"⟩, 38), (⟨"CloudBenchModel", "fill", "(III)V"⟩, 38), (⟨"CloudBenchModel", "chosen", "([IIIIJJ)V"⟩, 38), (⟨"CloudBenchModel", "tells", "(JJ)V"⟩, 38), (⟨"CloudBenchModel", "most", "(II)V"⟩, 38), (⟨"CloudBenchModel", "group", "()V"⟩, 38), (⟨"CloudBenchModel", "within", "(III)J"⟩, 38), (⟨"CloudBenchModel", "any", "([IIIJJ)V"⟩, 38), (⟨"CloudBenchModel", "order", "(II)V"⟩, 38), (⟨"CloudBenchModel", "counted", "(I)J"⟩, 38)]
theorem lw_r3 : ∀ q ∈ lw_privs_3, lw_okq q := List.forall_mem_cons.mpr ⟨lw_p32, List.forall_mem_cons.mpr ⟨lw_p33, List.forall_mem_cons.mpr ⟨lw_p34, List.forall_mem_cons.mpr ⟨lw_p35, List.forall_mem_cons.mpr ⟨lw_p36, List.forall_mem_cons.mpr ⟨lw_p37, List.forall_mem_cons.mpr ⟨lw_p38, List.forall_mem_cons.mpr ⟨lw_p39, List.forall_mem_cons.mpr ⟨lw_p40, List.forall_mem_cons.mpr ⟨lw_p41, List.forall_mem_cons.mpr ⟨lw_p42, List.forall_mem_cons.mpr ⟨lw_p43, List.forall_mem_cons.mpr ⟨lw_p44, List.forall_mem_cons.mpr ⟨lw_p45, List.forall_mem_cons.mpr ⟨lw_p46, List.forall_mem_cons.mpr ⟨lw_p47, fun _ h => absurd h List.not_mem_nil⟩⟩⟩⟩⟩⟩⟩⟩⟩⟩⟩⟩⟩⟩⟩⟩
theorem lw_p48 : lw_okq (⟨"CloudBenchModel", "far", "(J)J"⟩, 38) := ⟨⟨by decide +kernel, by decide +kernel⟩, List.mem_of_getElem? (i := 814) (by decide +kernel), List.mem_of_getElem? (i := 1049) (by decide +kernel), List.mem_of_getElem? (i := 1050) (by decide +kernel)⟩
theorem lw_p49 : lw_okq (⟨"CloudBenchModel", "pairsOf", "(II)V"⟩, 38) := ⟨⟨by decide +kernel, by decide +kernel⟩, List.mem_of_getElem? (i := 814) (by decide +kernel), List.mem_of_getElem? (i := 1065) (by decide +kernel), List.mem_of_getElem? (i := 1066) (by decide +kernel)⟩
theorem lw_p50 : lw_okq (⟨"CloudBenchModel", "put", "(III)J"⟩, 38) := ⟨⟨by decide +kernel, by decide +kernel⟩, List.mem_of_getElem? (i := 814) (by decide +kernel), List.mem_of_getElem? (i := 1089) (by decide +kernel), List.mem_of_getElem? (i := 1090) (by decide +kernel)⟩
def lw_privs_4 : List (MethodName × Nat) := [(⟨"CloudBenchModel", "far", "(J)J"⟩, 38), (⟨"CloudBenchModel", "pairsOf", "(II)V"⟩, 38), (⟨"CloudBenchModel", "put", "(III)J"⟩, 38)]
theorem lw_r4 : ∀ q ∈ lw_privs_4, lw_okq q := List.forall_mem_cons.mpr ⟨lw_p48, List.forall_mem_cons.mpr ⟨lw_p49, List.forall_mem_cons.mpr ⟨lw_p50, fun _ h => absurd h List.not_mem_nil⟩⟩⟩
def lw_privs : List (MethodName × Nat) := lw_privs_1 ++ (lw_privs_2 ++ (lw_privs_3 ++ (lw_privs_4)))
def lw_tbl : List Cond := k2_sels lw_privs ++ tables_1
theorem lw_privs_ok : ∀ q ∈ lw_privs, lw_okq q := by
  show ∀ q ∈ lw_privs_1 ++ (lw_privs_2 ++ (lw_privs_3 ++ (lw_privs_4))), lw_okq q
  exact List.forall_mem_append.mpr ⟨lw_r1, List.forall_mem_append.mpr ⟨lw_r2, List.forall_mem_append.mpr ⟨lw_r3, lw_r4⟩⟩⟩

def RX0 : String := "CloudBench$Choices"
def TX0 : u_T := fun k => match k with
  | _ => ("CloudBench$Choices", "cells", "[J", true)
def tyX0 : Nat → FieldType := fun k => match k with
  | _ => .array .long
abbrev wsX00 : List Cond := u_ws RX0 TX0 1
theorem nmX0 : ∀ a, a < 1 → ∀ b, b < 1 → a ≠ b → (TX0 a).2.1 ≠ (TX0 b).2.1 := by decide +kernel
theorem tyX0_ok : ∀ k, k < 1 → parseFieldDescriptor (TX0 k).2.2.1 = some (tyX0 k) := by decide +kernel
abbrev cX0_init : ByteArray := prog_2_method_1_code
def yX0_init : MethodName := ⟨RX0, "<init>", "()V"⟩
abbrev cX0_of : ByteArray := prog_2_method_2_code
def yX0_of : MethodName := ⟨RX0, "of", "(II)J"⟩
def RX1 : String := "CloudBench$Grid"
def TX1 : u_T := fun k => match k with
  | 0 => ("CloudBench$Grid", "choices", "LCloudBench$Choices;", true)
  | 1 => ("CloudBench$Grid", "counts", "[I", true)
  | 2 => ("CloudBench$Grid", "rowSums", "[I", true)
  | 3 => ("CloudBench$Grid", "columnSums", "[I", true)
  | 4 => ("CloudBench$Grid", "rows", "I", false)
  | 5 => ("CloudBench$Grid", "columns", "I", false)
  | 6 => ("CloudBench$Grid", "things", "I", false)
  | 7 => ("CloudBench$Grid", "firstNow", "I", false)
  | 8 => ("CloudBench$Grid", "ownWays", "J", false)
  | 9 => ("CloudBench$Grid", "unlikelyWays", "J", false)
  | 10 => ("CloudBench$Grid", "tables", "J", false)
  | 11 => ("CloudBench$Grid", "notLessWays", "J", false)
  | _ => ("CloudBench$Grid", "notGreaterWays", "J", false)
def tyX1 : Nat → FieldType := fun k => match k with
  | 0 => .object "CloudBench$Choices"
  | 1 => .array .int
  | 2 => .array .int
  | 3 => .array .int
  | 4 => .int
  | 5 => .int
  | 6 => .int
  | 7 => .int
  | 8 => .long
  | 9 => .long
  | 10 => .long
  | 11 => .long
  | _ => .long
abbrev wsX10 : List Cond := u_ws RX1 TX1 13
theorem nmX1 : ∀ a, a < 13 → ∀ b, b < 13 → a ≠ b → (TX1 a).2.1 ≠ (TX1 b).2.1 := by decide +kernel
theorem tyX1_ok : ∀ k, k < 13 → parseFieldDescriptor (TX1 k).2.2.1 = some (tyX1 k) := by decide +kernel
abbrev cX1_init : ByteArray := prog_3_method_1_code
def yX1_init : MethodName := ⟨RX1, "<init>", "(LCloudBench$Choices;)V"⟩
abbrev cX1_layOut : ByteArray := prog_3_method_2_code
def yX1_layOut : MethodName := ⟨RX1, "layOut", "(II)Z"⟩
abbrev cX1_fillIn : ByteArray := prog_3_method_3_code
def yX1_fillIn : MethodName := ⟨RX1, "fillIn", "(III)Z"⟩
abbrev cX1_figure : ByteArray := prog_3_method_4_code
def yX1_figure : MethodName := ⟨RX1, "figure", "(I)J"⟩
abbrev cX1_addUp : ByteArray := prog_3_method_5_code
def yX1_addUp : MethodName := ⟨RX1, "addUp", "()V"⟩
abbrev cX1_tally : ByteArray := prog_3_method_6_code
def yX1_tally : MethodName := ⟨RX1, "tally", "()V"⟩
abbrev cX1_fillColumn : ByteArray := prog_3_method_7_code
def yX1_fillColumn : MethodName := ⟨RX1, "fillColumn", "(IIIIJ)V"⟩
abbrev cX1_fillBelow : ByteArray := prog_3_method_8_code
def yX1_fillBelow : MethodName := ⟨RX1, "fillBelow", "(IIIIIJ)V"⟩
abbrev cX1_note : ByteArray := prog_3_method_9_code
def yX1_note : MethodName := ⟨RX1, "note", "(J)V"⟩
abbrev cX1_waysToSplit : ByteArray := prog_3_method_10_code
def yX1_waysToSplit : MethodName := ⟨RX1, "waysToSplit", "(III)J"⟩
def RX2 : String := "CloudBench$Ladder"
def TX2 : u_T := fun k => match k with
  | 0 => ("CloudBench$Ladder", "scores", "[J", true)
  | 1 => ("CloudBench$Ladder", "shares", "[J", true)
  | _ => ("CloudBench$Ladder", "size", "I", false)
def tyX2 : Nat → FieldType := fun k => match k with
  | 0 => .array .long
  | 1 => .array .long
  | _ => .int
abbrev wsX20 : List Cond := u_ws RX2 TX2 3
theorem nmX2 : ∀ a, a < 3 → ∀ b, b < 3 → a ≠ b → (TX2 a).2.1 ≠ (TX2 b).2.1 := by decide +kernel
theorem tyX2_ok : ∀ k, k < 3 → parseFieldDescriptor (TX2 k).2.2.1 = some (tyX2 k) := by decide +kernel
abbrev cX2_init : ByteArray := prog_4_method_1_code
def yX2_init : MethodName := ⟨RX2, "<init>", "()V"⟩
abbrev cX2_append : ByteArray := prog_4_method_2_code
def yX2_append : MethodName := ⟨RX2, "append", "(JJ)V"⟩
def RX3 : String := "CloudBench$Pairing"
def TX3 : u_T := fun k => match k with
  | 0 => ("CloudBench$Pairing", "differences", "[I", true)
  | 1 => ("CloudBench$Pairing", "sizes", "[I", true)
  | 2 => ("CloudBench$Pairing", "size", "I", false)
  | _ => ("CloudBench$Pairing", "leftOut", "I", false)
def tyX3 : Nat → FieldType := fun k => match k with
  | 0 => .array .int
  | 1 => .array .int
  | 2 => .int
  | _ => .int
abbrev wsX30 : List Cond := u_ws RX3 TX3 4
theorem nmX3 : ∀ a, a < 4 → ∀ b, b < 4 → a ≠ b → (TX3 a).2.1 ≠ (TX3 b).2.1 := by decide +kernel
theorem tyX3_ok : ∀ k, k < 4 → parseFieldDescriptor (TX3 k).2.2.1 = some (tyX3 k) := by decide +kernel
abbrev cX3_init : ByteArray := prog_5_method_1_code
def yX3_init : MethodName := ⟨RX3, "<init>", "()V"⟩
abbrev cX3_gather : ByteArray := prog_5_method_2_code
def yX3_gather : MethodName := ⟨RX3, "gather", "(LCloudBench$Sample;LCloudBench$Sample;)V"⟩
def RX4 : String := "CloudBench$Pool"
def TX4 : u_T := fun k => match k with
  | 0 => ("CloudBench$Pool", "numbers", "[I", true)
  | _ => ("CloudBench$Pool", "size", "I", false)
def tyX4 : Nat → FieldType := fun k => match k with
  | 0 => .array .int
  | _ => .int
abbrev wsX40 : List Cond := u_ws RX4 TX4 2
theorem nmX4 : ∀ a, a < 2 → ∀ b, b < 2 → a ≠ b → (TX4 a).2.1 ≠ (TX4 b).2.1 := by decide +kernel
theorem tyX4_ok : ∀ k, k < 2 → parseFieldDescriptor (TX4 k).2.2.1 = some (tyX4 k) := by decide +kernel
abbrev cX4_init : ByteArray := prog_6_method_1_code
def yX4_init : MethodName := ⟨RX4, "<init>", "()V"⟩
abbrev cX4_gather : ByteArray := prog_6_method_2_code
def yX4_gather : MethodName := ⟨RX4, "gather", "(LCloudBench$Sample;LCloudBench$Sample;)V"⟩
abbrev cX4_least : ByteArray := prog_6_method_3_code
def yX4_least : MethodName := ⟨RX4, "least", "()I"⟩
def RX5 : String := "CloudBench$Question"
def TX5 : u_T := fun k => match k with
  | 0 => ("CloudBench$Question", "pool", "LCloudBench$Pool;", true)
  | 1 => ("CloudBench$Question", "pairing", "LCloudBench$Pairing;", true)
  | 2 => ("CloudBench$Question", "choices", "LCloudBench$Choices;", true)
  | 3 => ("CloudBench$Question", "ways", "LCloudBench$Ways;", true)
  | 4 => ("CloudBench$Question", "values", "[I", true)
  | 5 => ("CloudBench$Question", "test", "I", false)
  | 6 => ("CloudBench$Question", "size", "I", false)
  | 7 => ("CloudBench$Question", "chosen", "I", false)
  | 8 => ("CloudBench$Question", "score", "J", false)
  | 9 => ("CloudBench$Question", "total", "J", false)
  | 10 => ("CloudBench$Question", "stretch", "J", false)
  | 11 => ("CloudBench$Question", "shift", "J", false)
  | 12 => ("CloudBench$Question", "farTimes", "J", false)
  | _ => ("CloudBench$Question", "farCentre", "J", false)
def tyX5 : Nat → FieldType := fun k => match k with
  | 0 => .object "CloudBench$Pool"
  | 1 => .object "CloudBench$Pairing"
  | 2 => .object "CloudBench$Choices"
  | 3 => .object "CloudBench$Ways"
  | 4 => .array .int
  | 5 => .int
  | 6 => .int
  | 7 => .int
  | 8 => .long
  | 9 => .long
  | 10 => .long
  | 11 => .long
  | 12 => .long
  | _ => .long
abbrev wsX50 : List Cond := u_ws RX5 TX5 14
theorem nmX5 : ∀ a, a < 14 → ∀ b, b < 14 → a ≠ b → (TX5 a).2.1 ≠ (TX5 b).2.1 := by decide +kernel
theorem tyX5_ok : ∀ k, k < 14 → parseFieldDescriptor (TX5 k).2.2.1 = some (tyX5 k) := by decide +kernel
abbrev cX5_init : ByteArray := prog_7_method_1_code
def yX5_init : MethodName := ⟨RX5, "<init>", "(LCloudBench$Pool;LCloudBench$Pairing;LCloudBench$Choices;LCloudBench$Ways;)V"⟩
abbrev cX5_pose : ByteArray := prog_7_method_2_code
def yX5_pose : MethodName := ⟨RX5, "pose", "(ILCloudBench$Sample;LCloudBench$Sample;)V"⟩
abbrev cX5_countBy : ByteArray := prog_7_method_3_code
def yX5_countBy : MethodName := ⟨RX5, "countBy", "(I)J"⟩
abbrev cX5_listInto : ByteArray := prog_7_method_4_code
def yX5_listInto : MethodName := ⟨RX5, "listInto", "(LCloudBench$Ladder;)V"⟩
abbrev cX5_isOnSide : ByteArray := prog_7_method_5_code
def yX5_isOnSide : MethodName := ⟨RX5, "isOnSide", "(JI)Z"⟩
abbrev cX5_far : ByteArray := prog_7_method_6_code
def yX5_far : MethodName := ⟨RX5, "far", "(J)J"⟩
abbrev cX5_countWays : ByteArray := prog_7_method_7_code
def yX5_countWays : MethodName := ⟨RX5, "countWays", "()V"⟩
abbrev cX5_poseSums : ByteArray := prog_7_method_8_code
def yX5_poseSums : MethodName := ⟨RX5, "poseSums", "(LCloudBench$Sample;LCloudBench$Sample;)V"⟩
abbrev cX5_poseRanks : ByteArray := prog_7_method_9_code
def yX5_poseRanks : MethodName := ⟨RX5, "poseRanks", "(LCloudBench$Sample;LCloudBench$Sample;)V"⟩
abbrev cX5_poseMost : ByteArray := prog_7_method_10_code
def yX5_poseMost : MethodName := ⟨RX5, "poseMost", "(LCloudBench$Sample;LCloudBench$Sample;)V"⟩
abbrev cX5_poseSigns : ByteArray := prog_7_method_11_code
def yX5_poseSigns : MethodName := ⟨RX5, "poseSigns", "(LCloudBench$Sample;LCloudBench$Sample;)V"⟩
abbrev cX5_poseTurns : ByteArray := prog_7_method_12_code
def yX5_poseTurns : MethodName := ⟨RX5, "poseTurns", "(LCloudBench$Sample;LCloudBench$Sample;)V"⟩
abbrev cX5_poseOrder : ByteArray := prog_7_method_13_code
def yX5_poseOrder : MethodName := ⟨RX5, "poseOrder", "(LCloudBench$Sample;LCloudBench$Sample;)V"⟩
abbrev cX5_poseChoice : ByteArray := prog_7_method_14_code
def yX5_poseChoice : MethodName := ⟨RX5, "poseChoice", "(LCloudBench$Sample;LCloudBench$Sample;)V"⟩
abbrev cX5_posePairs : ByteArray := prog_7_method_15_code
def yX5_posePairs : MethodName := ⟨RX5, "posePairs", "(LCloudBench$Sample;LCloudBench$Sample;)V"⟩
abbrev cX5_measure : ByteArray := prog_7_method_16_code
def yX5_measure : MethodName := ⟨RX5, "measure", "(IIII)V"⟩
def RX6 : String := "CloudBench$Reach"
def TX6 : u_T := fun k => match k with
  | 0 => ("CloudBench$Reach", "choices", "LCloudBench$Choices;", true)
  | 1 => ("CloudBench$Reach", "ways", "LCloudBench$Ways;", true)
  | 2 => ("CloudBench$Reach", "places", "[I", true)
  | 3 => ("CloudBench$Reach", "gaps", "[I", true)
  | 4 => ("CloudBench$Reach", "isMeasured", "Z", false)
  | 5 => ("CloudBench$Reach", "step", "I", false)
  | 6 => ("CloudBench$Reach", "lower", "I", false)
  | 7 => ("CloudBench$Reach", "upper", "I", false)
  | _ => ("CloudBench$Reach", "middle", "I", false)
def tyX6 : Nat → FieldType := fun k => match k with
  | 0 => .object "CloudBench$Choices"
  | 1 => .object "CloudBench$Ways"
  | 2 => .array .int
  | 3 => .array .int
  | 4 => .boolean
  | 5 => .int
  | 6 => .int
  | 7 => .int
  | _ => .int
abbrev wsX60 : List Cond := u_ws RX6 TX6 9
theorem nmX6 : ∀ a, a < 9 → ∀ b, b < 9 → a ≠ b → (TX6 a).2.1 ≠ (TX6 b).2.1 := by decide +kernel
theorem tyX6_ok : ∀ k, k < 9 → parseFieldDescriptor (TX6 k).2.2.1 = some (tyX6 k) := by decide +kernel
abbrev cX6_init : ByteArray := prog_8_method_1_code
def yX6_init : MethodName := ⟨RX6, "<init>", "(LCloudBench$Choices;LCloudBench$Ways;)V"⟩
abbrev cX6_measure : ByteArray := prog_8_method_2_code
def yX6_measure : MethodName := ⟨RX6, "measure", "(LCloudBench$Sample;LCloudBench$Sample;II)V"⟩
abbrev cX6_waysOfPairs : ByteArray := prog_8_method_3_code
def yX6_waysOfPairs : MethodName := ⟨RX6, "waysOfPairs", "(III)J"⟩
abbrev cX6_gatherGaps : ByteArray := prog_8_method_4_code
def yX6_gatherGaps : MethodName := ⟨RX6, "gatherGaps", "(LCloudBench$Sample;LCloudBench$Sample;)I"⟩
abbrev cX6_findStep : ByteArray := prog_8_method_5_code
def yX6_findStep : MethodName := ⟨RX6, "findStep", "(IIII)I"⟩
abbrev cX6_countPairs : ByteArray := prog_8_method_6_code
def yX6_countPairs : MethodName := ⟨RX6, "countPairs", "(II)V"⟩
def RX7 : String := "CloudBench$Roll"
def TX7 : u_T := fun k => match k with
  | 0 => ("CloudBench$Roll", "counts", "[J", true)
  | 1 => ("CloudBench$Roll", "totals", "[J", true)
  | 2 => ("CloudBench$Roll", "different", "[Z", true)
  | _ => ("CloudBench$Roll", "size", "I", false)
def tyX7 : Nat → FieldType := fun k => match k with
  | 0 => .array .long
  | 1 => .array .long
  | 2 => .array .boolean
  | _ => .int
abbrev wsX70 : List Cond := u_ws RX7 TX7 4
theorem nmX7 : ∀ a, a < 4 → ∀ b, b < 4 → a ≠ b → (TX7 a).2.1 ≠ (TX7 b).2.1 := by decide +kernel
theorem tyX7_ok : ∀ k, k < 4 → parseFieldDescriptor (TX7 k).2.2.1 = some (tyX7 k) := by decide +kernel
abbrev cX7_init : ByteArray := prog_9_method_1_code
def yX7_init : MethodName := ⟨RX7, "<init>", "()V"⟩
abbrev cX7_isFull : ByteArray := prog_9_method_2_code
def yX7_isFull : MethodName := ⟨RX7, "isFull", "()Z"⟩
abbrev cX7_append : ByteArray := prog_9_method_3_code
def yX7_append : MethodName := ⟨RX7, "append", "(JJ)I"⟩
abbrev cX7_callDifferent : ByteArray := prog_9_method_4_code
def yX7_callDifferent : MethodName := ⟨RX7, "callDifferent", "(II)I"⟩
abbrev cX7_leastLeft : ByteArray := prog_9_method_5_code
def yX7_leastLeft : MethodName := ⟨RX7, "leastLeft", "()I"⟩
abbrev cX7_compareShares : ByteArray := prog_9_method_6_code
def yX7_compareShares : MethodName := ⟨RX7, "compareShares", "(JJJJ)I"⟩
def RX8 : String := "CloudBench$Sample"
def TX8 : u_T := fun k => match k with
  | 0 => ("CloudBench$Sample", "numbers", "[I", true)
  | _ => ("CloudBench$Sample", "size", "I", false)
def tyX8 : Nat → FieldType := fun k => match k with
  | 0 => .array .int
  | _ => .int
abbrev wsX80 : List Cond := u_ws RX8 TX8 2
theorem nmX8 : ∀ a, a < 2 → ∀ b, b < 2 → a ≠ b → (TX8 a).2.1 ≠ (TX8 b).2.1 := by decide +kernel
theorem tyX8_ok : ∀ k, k < 2 → parseFieldDescriptor (TX8 k).2.2.1 = some (tyX8 k) := by decide +kernel
abbrev cX8_init : ByteArray := prog_10_method_1_code
def yX8_init : MethodName := ⟨RX8, "<init>", "()V"⟩
abbrev cX8_append : ByteArray := prog_10_method_2_code
def yX8_append : MethodName := ⟨RX8, "append", "(I)Z"⟩
abbrev cX8_staysWithin : ByteArray := prog_10_method_3_code
def yX8_staysWithin : MethodName := ⟨RX8, "staysWithin", "(II)Z"⟩
abbrev cX8_change : ByteArray := prog_10_method_4_code
def yX8_change : MethodName := ⟨RX8, "change", "(II)V"⟩
abbrev cX8_hasTwice : ByteArray := prog_10_method_5_code
def yX8_hasTwice : MethodName := ⟨RX8, "hasTwice", "()Z"⟩
abbrev cX8_countUpTo : ByteArray := prog_10_method_6_code
def yX8_countUpTo : MethodName := ⟨RX8, "countUpTo", "(I)I"⟩
def RX9 : String := "CloudBench$Ways"
def TX9 : u_T := fun k => match k with
  | 0 => ("CloudBench$Ways", "cells", "[J", true)
  | 1 => ("CloudBench$Ways", "leastSums", "[I", true)
  | 2 => ("CloudBench$Ways", "start", "I", false)
  | 3 => ("CloudBench$Ways", "first", "I", false)
  | _ => ("CloudBench$Ways", "last", "I", false)
def tyX9 : Nat → FieldType := fun k => match k with
  | 0 => .array .long
  | 1 => .array .int
  | 2 => .int
  | 3 => .int
  | _ => .int
abbrev wsX90 : List Cond := u_ws RX9 TX9 5
theorem nmX9 : ∀ a, a < 5 → ∀ b, b < 5 → a ≠ b → (TX9 a).2.1 ≠ (TX9 b).2.1 := by decide +kernel
theorem tyX9_ok : ∀ k, k < 5 → parseFieldDescriptor (TX9 k).2.2.1 = some (tyX9 k) := by decide +kernel
abbrev cX9_init : ByteArray := prog_11_method_1_code
def yX9_init : MethodName := ⟨RX9, "<init>", "()V"⟩
abbrev cX9_of : ByteArray := prog_11_method_2_code
def yX9_of : MethodName := ⟨RX9, "of", "(I)J"⟩
abbrev cX9_chooseSums : ByteArray := prog_11_method_3_code
def yX9_chooseSums : MethodName := ⟨RX9, "chooseSums", "([III)V"⟩
abbrev cX9_chooseNext : ByteArray := prog_11_method_4_code
def yX9_chooseNext : MethodName := ⟨RX9, "chooseNext", "(III)V"⟩
abbrev cX9_greatestSum : ByteArray := prog_11_method_5_code
def yX9_greatestSum : MethodName := ⟨RX9, "greatestSum", "(II)I"⟩
abbrev cX9_chooseGaps : ByteArray := prog_11_method_6_code
def yX9_chooseGaps : MethodName := ⟨RX9, "chooseGaps", "([III)V"⟩
abbrev cX9_addGaps : ByteArray := prog_11_method_7_code
def yX9_addGaps : MethodName := ⟨RX9, "addGaps", "(I)V"⟩
abbrev cX9_liftGaps : ByteArray := prog_11_method_8_code
def yX9_liftGaps : MethodName := ⟨RX9, "liftGaps", "(II)V"⟩
abbrev cX9_turnSums : ByteArray := prog_11_method_9_code
def yX9_turnSums : MethodName := ⟨RX9, "turnSums", "([II)V"⟩
abbrev cX9_orderPairs : ByteArray := prog_11_method_10_code
def yX9_orderPairs : MethodName := ⟨RX9, "orderPairs", "(I)V"⟩
abbrev cX9_clear : ByteArray := prog_11_method_11_code
def yX9_clear : MethodName := ⟨RX9, "clear", "(II)V"⟩
abbrev cX9_settle : ByteArray := prog_11_method_12_code
def yX9_settle : MethodName := ⟨RX9, "settle", "(III)V"⟩
abbrev cX9_startOfSums : ByteArray := prog_11_method_13_code
def yX9_startOfSums : MethodName := ⟨RX9, "startOfSums", "(I)I"⟩
def RX10 : String := "CloudBench"
def TX10 : u_T := fun k => match k with
  | 0 => ("CloudBench", "samples", "[LCloudBench$Sample;", true)
  | 1 => ("CloudBench", "pool", "LCloudBench$Pool;", true)
  | 2 => ("CloudBench", "pairing", "LCloudBench$Pairing;", true)
  | 3 => ("CloudBench", "question", "LCloudBench$Question;", true)
  | 4 => ("CloudBench", "ladder", "LCloudBench$Ladder;", true)
  | 5 => ("CloudBench", "reach", "LCloudBench$Reach;", true)
  | 6 => ("CloudBench", "grid", "LCloudBench$Grid;", true)
  | _ => ("CloudBench", "roll", "LCloudBench$Roll;", true)
def tyX10 : Nat → FieldType := fun k => match k with
  | 0 => .array (.object "CloudBench$Sample")
  | 1 => .object "CloudBench$Pool"
  | 2 => .object "CloudBench$Pairing"
  | 3 => .object "CloudBench$Question"
  | 4 => .object "CloudBench$Ladder"
  | 5 => .object "CloudBench$Reach"
  | 6 => .object "CloudBench$Grid"
  | _ => .object "CloudBench$Roll"
abbrev wsX100 : List Cond := u_ws RX10 TX10 8
theorem nmX10 : ∀ a, a < 8 → ∀ b, b < 8 → a ≠ b → (TX10 a).2.1 ≠ (TX10 b).2.1 := by decide +kernel
theorem tyX10_ok : ∀ k, k < 8 → parseFieldDescriptor (TX10 k).2.2.1 = some (tyX10 k) := by decide +kernel
abbrev cX10_init : ByteArray := prog_1_method_1_code
def yX10_init : MethodName := ⟨RX10, "<init>", "()V"⟩
abbrev cX10_put : ByteArray := prog_1_method_2_code
def yX10_put : MethodName := ⟨RX10, "put", "(II)I"⟩
abbrev cX10_drop : ByteArray := prog_1_method_3_code
def yX10_drop : MethodName := ⟨RX10, "drop", "(I)I"⟩
abbrev cX10_turn : ByteArray := prog_1_method_4_code
def yX10_turn : MethodName := ⟨RX10, "turn", "(III)Z"⟩
abbrev cX10_number : ByteArray := prog_1_method_5_code
def yX10_number : MethodName := ⟨RX10, "number", "(II)I"⟩
abbrev cX10_rank : ByteArray := prog_1_method_6_code
def yX10_rank : MethodName := ⟨RX10, "rank", "(III)I"⟩
abbrev cX10_noughts : ByteArray := prog_1_method_7_code
def yX10_noughts : MethodName := ⟨RX10, "noughts", "(II)I"⟩
abbrev cX10_score : ByteArray := prog_1_method_8_code
def yX10_score : MethodName := ⟨RX10, "score", "(III)J"⟩
abbrev cX10_total : ByteArray := prog_1_method_9_code
def yX10_total : MethodName := ⟨RX10, "total", "(III)J"⟩
abbrev cX10_count : ByteArray := prog_1_method_10_code
def yX10_count : MethodName := ⟨RX10, "count", "(IIII)J"⟩
abbrev cX10_spread : ByteArray := prog_1_method_11_code
def yX10_spread : MethodName := ⟨RX10, "spread", "(III)I"⟩
abbrev cX10_row : ByteArray := prog_1_method_12_code
def yX10_row : MethodName := ⟨RX10, "row", "(II)J"⟩
abbrev cX10_span : ByteArray := prog_1_method_13_code
def yX10_span : MethodName := ⟨RX10, "span", "(IIII)I"⟩
abbrev cX10_ends : ByteArray := prog_1_method_14_code
def yX10_ends : MethodName := ⟨RX10, "ends", "(I)I"⟩
abbrev cX10_pairs : ByteArray := prog_1_method_15_code
def yX10_pairs : MethodName := ⟨RX10, "pairs", "(III)J"⟩
abbrev cX10_table : ByteArray := prog_1_method_16_code
def yX10_table : MethodName := ⟨RX10, "table", "(II)Z"⟩
abbrev cX10_cell : ByteArray := prog_1_method_17_code
def yX10_cell : MethodName := ⟨RX10, "cell", "(III)Z"⟩
abbrev cX10_margins : ByteArray := prog_1_method_18_code
def yX10_margins : MethodName := ⟨RX10, "margins", "(I)J"⟩
abbrev cX10_ask : ByteArray := prog_1_method_19_code
def yX10_ask : MethodName := ⟨RX10, "ask", "(IIII)I"⟩
abbrev cX10_asked : ByteArray := prog_1_method_20_code
def yX10_asked : MethodName := ⟨RX10, "asked", "(II)J"⟩
abbrev cX10_held : ByteArray := prog_1_method_21_code
def yX10_held : MethodName := ⟨RX10, "held", "(II)I"⟩
abbrev cX10_anew : ByteArray := prog_1_method_22_code
def yX10_anew : MethodName := ⟨RX10, "anew", "()V"⟩
abbrev cX10_mustBeAsked : ByteArray := prog_1_method_23_code
def yX10_mustBeAsked : MethodName := ⟨RX10, "mustBeAsked", "(III)V"⟩
abbrev cX10_canBeAsked : ByteArray := prog_1_method_24_code
def yX10_canBeAsked : MethodName := ⟨RX10, "canBeAsked", "(III)Z"⟩
abbrev cX10_areTwo : ByteArray := prog_1_method_25_code
def yX10_areTwo : MethodName := ⟨RX10, "areTwo", "(II)Z"⟩
abbrev cX10_isSample : ByteArray := prog_1_method_26_code
def yX10_isSample : MethodName := ⟨RX10, "isSample", "(I)Z"⟩
abbrev cX10_isNumber : ByteArray := prog_1_method_27_code
def yX10_isNumber : MethodName := ⟨RX10, "isNumber", "(I)Z"⟩
abbrev cX10_isSide : ByteArray := prog_1_method_28_code
def yX10_isSide : MethodName := ⟨RX10, "isSide", "(I)Z"⟩
abbrev cX10_isChance : ByteArray := prog_1_method_29_code
def yX10_isChance : MethodName := ⟨RX10, "isChance", "(II)Z"⟩
abbrev cX10_doubledRank : ByteArray := prog_1_method_30_code
def yX10_doubledRank : MethodName := ⟨RX10, "doubledRank", "([III)I"⟩
abbrev cX10_sumOf : ByteArray := prog_1_method_31_code
def yX10_sumOf : MethodName := ⟨RX10, "sumOf", "([II)I"⟩
abbrev cX10_sort : ByteArray := prog_1_method_32_code
def yX10_sort : MethodName := ⟨RX10, "sort", "([II)V"⟩
def RX11 : String := "CloudBenchModel"
def TX11 : u_T := fun k => match k with
  | 0 => ("CloudBenchModel", "numbers", "[I", true)
  | 1 => ("CloudBenchModel", "sizes", "[I", true)
  | 2 => ("CloudBenchModel", "thrown", "I", false)
  | 3 => ("CloudBenchModel", "choose", "[J", true)
  | 4 => ("CloudBenchModel", "sums", "[J", true)
  | 5 => ("CloudBenchModel", "score", "[J", true)
  | 6 => ("CloudBenchModel", "many", "[J", true)
  | 7 => ("CloudBenchModel", "scores", "I", false)
  | 8 => ("CloudBenchModel", "total", "J", false)
  | 9 => ("CloudBenchModel", "there", "J", false)
  | 10 => ("CloudBenchModel", "farTimes", "J", false)
  | 11 => ("CloudBenchModel", "farLess", "J", false)
  | 12 => ("CloudBenchModel", "shown", "[J", true)
  | 13 => ("CloudBenchModel", "shownMany", "I", false)
  | 14 => ("CloudBenchModel", "all", "[I", true)
  | 15 => ("CloudBenchModel", "allMany", "I", false)
  | 16 => ("CloudBenchModel", "rank", "[I", true)
  | 17 => ("CloudBenchModel", "above", "[Z", true)
  | 18 => ("CloudBenchModel", "left0", "I", false)
  | 19 => ("CloudBenchModel", "groups", "[I", true)
  | 20 => ("CloudBenchModel", "groupMany", "I", false)
  | 21 => ("CloudBenchModel", "ways", "[J", true)
  | 22 => ("CloudBenchModel", "next", "[J", true)
  | 23 => ("CloudBenchModel", "differences", "[I", true)
  | 24 => ("CloudBenchModel", "ends", "[I", true)
  | 25 => ("CloudBenchModel", "hasEnds", "Z", false)
  | 26 => ("CloudBenchModel", "rows", "I", false)
  | 27 => ("CloudBenchModel", "columns", "I", false)
  | 28 => ("CloudBenchModel", "cells", "[I", true)
  | 29 => ("CloudBenchModel", "first", "[I", true)
  | 30 => ("CloudBenchModel", "second", "[I", true)
  | 31 => ("CloudBenchModel", "left", "[I", true)
  | 32 => ("CloudBenchModel", "product", "[J", true)
  | 33 => ("CloudBenchModel", "listed", "I", false)
  | 34 => ("CloudBenchModel", "listCount", "[J", true)
  | 35 => ("CloudBenchModel", "listTotal", "[J", true)
  | 36 => ("CloudBenchModel", "differs", "[Z", true)
  | _ => ("CloudBenchModel", "line", "[I", true)
def tyX11 : Nat → FieldType := fun k => match k with
  | 0 => .array .int
  | 1 => .array .int
  | 2 => .int
  | 3 => .array .long
  | 4 => .array .long
  | 5 => .array .long
  | 6 => .array .long
  | 7 => .int
  | 8 => .long
  | 9 => .long
  | 10 => .long
  | 11 => .long
  | 12 => .array .long
  | 13 => .int
  | 14 => .array .int
  | 15 => .int
  | 16 => .array .int
  | 17 => .array .boolean
  | 18 => .int
  | 19 => .array .int
  | 20 => .int
  | 21 => .array .long
  | 22 => .array .long
  | 23 => .array .int
  | 24 => .array .int
  | 25 => .boolean
  | 26 => .int
  | 27 => .int
  | 28 => .array .int
  | 29 => .array .int
  | 30 => .array .int
  | 31 => .array .int
  | 32 => .array .long
  | 33 => .int
  | 34 => .array .long
  | 35 => .array .long
  | 36 => .array .boolean
  | _ => .array .int
abbrev wsX110 : List Cond := u_ws RX11 TX11 38
theorem nmX11 : ∀ a, a < 38 → ∀ b, b < 38 → a ≠ b → (TX11 a).2.1 ≠ (TX11 b).2.1 := by decide +kernel
theorem tyX11_ok : ∀ k, k < 38 → parseFieldDescriptor (TX11 k).2.2.1 = some (tyX11 k) := by decide +kernel
abbrev cX11_init : ByteArray := prog_13_method_1_code
def yX11_init : MethodName := ⟨RX11, "<init>", "()V"⟩
abbrev cX11_thrown : ByteArray := prog_13_method_2_code
def yX11_thrown : MethodName := ⟨RX11, "thrown", "()I"⟩
abbrev cX11_isSample : ByteArray := prog_13_method_3_code
def yX11_isSample : MethodName := ⟨RX11, "isSample", "(I)Z"⟩
abbrev cX11_put : ByteArray := prog_13_method_4_code
def yX11_put : MethodName := ⟨RX11, "put", "(II)I"⟩
abbrev cX11_drop : ByteArray := prog_13_method_5_code
def yX11_drop : MethodName := ⟨RX11, "drop", "(I)I"⟩
abbrev cX11_turn : ByteArray := prog_13_method_6_code
def yX11_turn : MethodName := ⟨RX11, "turn", "(III)Z"⟩
abbrev cX11_number : ByteArray := prog_13_method_7_code
def yX11_number : MethodName := ⟨RX11, "number", "(II)I"⟩
abbrev cX11_isPair : ByteArray := prog_13_method_8_code
def yX11_isPair : MethodName := ⟨RX11, "isPair", "(II)Z"⟩
abbrev cX11_ranks : ByteArray := prog_13_method_9_code
def yX11_ranks : MethodName := ⟨RX11, "ranks", "()V"⟩
abbrev cX11_takeAll : ByteArray := prog_13_method_10_code
def yX11_takeAll : MethodName := ⟨RX11, "takeAll", "(II)V"⟩
abbrev cX11_takeDifferences : ByteArray := prog_13_method_11_code
def yX11_takeDifferences : MethodName := ⟨RX11, "takeDifferences", "(II)V"⟩
abbrev cX11_rank : ByteArray := prog_13_method_12_code
def yX11_rank : MethodName := ⟨RX11, "rank", "(III)I"⟩
abbrev cX11_noughts : ByteArray := prog_13_method_13_code
def yX11_noughts : MethodName := ⟨RX11, "noughts", "(II)I"⟩
abbrev cX11_hasTwice : ByteArray := prog_13_method_14_code
def yX11_hasTwice : MethodName := ⟨RX11, "hasTwice", "(I)Z"⟩
abbrev cX11_canAsk : ByteArray := prog_13_method_15_code
def yX11_canAsk : MethodName := ⟨RX11, "canAsk", "(III)Z"⟩
abbrev cX11_tells : ByteArray := prog_13_method_16_code
def yX11_tells : MethodName := ⟨RX11, "tells", "(JJ)V"⟩
abbrev cX11_chosen : ByteArray := prog_13_method_17_code
def yX11_chosen : MethodName := ⟨RX11, "chosen", "([IIIIJJ)V"⟩
abbrev cX11_any : ByteArray := prog_13_method_18_code
def yX11_any : MethodName := ⟨RX11, "any", "([IIIJJ)V"⟩
abbrev cX11_fill : ByteArray := prog_13_method_19_code
def yX11_fill : MethodName := ⟨RX11, "fill", "(III)V"⟩
abbrev cX11_sizeOf : ByteArray := prog_13_method_20_code
def yX11_sizeOf : MethodName := ⟨RX11, "sizeOf", "(I)I"⟩
abbrev cX11_group : ByteArray := prog_13_method_21_code
def yX11_group : MethodName := ⟨RX11, "group", "()V"⟩
abbrev cX11_within : ByteArray := prog_13_method_22_code
def yX11_within : MethodName := ⟨RX11, "within", "(III)J"⟩
abbrev cX11_most : ByteArray := prog_13_method_23_code
def yX11_most : MethodName := ⟨RX11, "most", "(II)V"⟩
abbrev cX11_order : ByteArray := prog_13_method_24_code
def yX11_order : MethodName := ⟨RX11, "order", "(II)V"⟩
abbrev cX11_far : ByteArray := prog_13_method_25_code
def yX11_far : MethodName := ⟨RX11, "far", "(J)J"⟩
abbrev cX11_counted : ByteArray := prog_13_method_26_code
def yX11_counted : MethodName := ⟨RX11, "counted", "(I)J"⟩
abbrev cX11_asks : ByteArray := prog_13_method_27_code
def yX11_asks : MethodName := ⟨RX11, "asks", "(III)Z"⟩
abbrev cX11_score : ByteArray := prog_13_method_28_code
def yX11_score : MethodName := ⟨RX11, "score", "(III)J"⟩
abbrev cX11_total : ByteArray := prog_13_method_29_code
def yX11_total : MethodName := ⟨RX11, "total", "(III)J"⟩
abbrev cX11_count : ByteArray := prog_13_method_30_code
def yX11_count : MethodName := ⟨RX11, "count", "(IIII)J"⟩
abbrev cX11_spread : ByteArray := prog_13_method_31_code
def yX11_spread : MethodName := ⟨RX11, "spread", "(III)I"⟩
abbrev cX11_row : ByteArray := prog_13_method_32_code
def yX11_row : MethodName := ⟨RX11, "row", "(II)J"⟩
abbrev cX11_pairsOf : ByteArray := prog_13_method_33_code
def yX11_pairsOf : MethodName := ⟨RX11, "pairsOf", "(II)V"⟩
abbrev cX11_span : ByteArray := prog_13_method_34_code
def yX11_span : MethodName := ⟨RX11, "span", "(IIII)I"⟩
abbrev cX11_ends : ByteArray := prog_13_method_35_code
def yX11_ends : MethodName := ⟨RX11, "ends", "(I)I"⟩
abbrev cX11_pairs : ByteArray := prog_13_method_36_code
def yX11_pairs : MethodName := ⟨RX11, "pairs", "(III)J"⟩
abbrev cX11_table : ByteArray := prog_13_method_37_code
def yX11_table : MethodName := ⟨RX11, "table", "(II)Z"⟩
abbrev cX11_cell : ByteArray := prog_13_method_38_code
def yX11_cell : MethodName := ⟨RX11, "cell", "(III)Z"⟩
abbrev cX11_put_ : ByteArray := prog_13_method_39_code
def yX11_put_ : MethodName := ⟨RX11, "put", "(III)J"⟩
abbrev cX11_margins : ByteArray := prog_13_method_40_code
def yX11_margins : MethodName := ⟨RX11, "margins", "(I)J"⟩
abbrev cX11_ask : ByteArray := prog_13_method_41_code
def yX11_ask : MethodName := ⟨RX11, "ask", "(IIII)I"⟩
abbrev cX11_asked : ByteArray := prog_13_method_42_code
def yX11_asked : MethodName := ⟨RX11, "asked", "(II)J"⟩
abbrev cX11_over : ByteArray := prog_13_method_43_code
def yX11_over : MethodName := ⟨RX11, "over", "(JJJJ)I"⟩
abbrev cX11_held : ByteArray := prog_13_method_44_code
def yX11_held : MethodName := ⟨RX11, "held", "(II)I"⟩
abbrev cX11_anew : ByteArray := prog_13_method_45_code
def yX11_anew : MethodName := ⟨RX11, "anew", "()V"⟩
def RJ13 : String := "java/lang/Long"
def TJ13 : u_T := fun k => match k with
  | _ => ("", "", "", false)
def tyJ13 : Nat → FieldType := fun k => match k with
  | _ => .int
abbrev wsJ130 : List Cond := u_ws RJ13 TJ13 0
theorem nmJ13 : ∀ a, a < 0 → ∀ b, b < 0 → a ≠ b → (TJ13 a).2.1 ≠ (TJ13 b).2.1 := by decide +kernel
theorem tyJ13_ok : ∀ k, k < 0 → parseFieldDescriptor (TJ13 k).2.2.1 = some (tyJ13 k) := by decide +kernel
abbrev cJ13_compare_74951 : ByteArray := prog_16_method_42_code
def yJ13_compare_74951 : MethodName := ⟨RJ13, "compare", "(JJ)I"⟩
def RJ9 : String := "java/lang/Math"
def TJ9 : u_T := fun k => match k with
  | _ => ("", "", "", false)
def tyJ9 : Nat → FieldType := fun k => match k with
  | _ => .int
abbrev wsJ90 : List Cond := u_ws RJ9 TJ9 0
theorem nmJ9 : ∀ a, a < 0 → ∀ b, b < 0 → a ≠ b → (TJ9 a).2.1 ≠ (TJ9 b).2.1 := by decide +kernel
theorem tyJ9_ok : ∀ k, k < 0 → parseFieldDescriptor (TJ9 k).2.2.1 = some (tyJ9 k) := by decide +kernel
abbrev cJ9_abs_0f7a4 : ByteArray := prog_17_method_59_code
def yJ9_abs_0f7a4 : MethodName := ⟨RJ9, "abs", "(I)I"⟩
abbrev cJ9_abs_067f4 : ByteArray := prog_17_method_61_code
def yJ9_abs_067f4 : MethodName := ⟨RJ9, "abs", "(J)J"⟩
abbrev cJ9_max_7cf53 : ByteArray := prog_17_method_65_code
def yJ9_max_7cf53 : MethodName := ⟨RJ9, "max", "(II)I"⟩
abbrev cJ9_max_f86c9 : ByteArray := prog_17_method_66_code
def yJ9_max_f86c9 : MethodName := ⟨RJ9, "max", "(JJ)J"⟩
abbrev cJ9_min_7cf53 : ByteArray := prog_17_method_69_code
def yJ9_min_7cf53 : MethodName := ⟨RJ9, "min", "(II)I"⟩
def RJ0 : String := "java/lang/String"
def TJ0 : u_T := fun k => match k with
  | _ => ("", "", "", false)
def tyJ0 : Nat → FieldType := fun k => match k with
  | _ => .int
abbrev wsJ00 : List Cond := u_ws RJ0 TJ0 0
theorem nmJ0 : ∀ a, a < 0 → ∀ b, b < 0 → a ≠ b → (TJ0 a).2.1 ≠ (TJ0 b).2.1 := by decide +kernel
theorem tyJ0_ok : ∀ k, k < 0 → parseFieldDescriptor (TJ0 k).2.2.1 = some (tyJ0 k) := by decide +kernel
def RL : String := "CloudBenchLaw"
abbrev cL_number : ByteArray := method_3_code
def yL_number : MethodName := ⟨RL, "number", "(LCloudBench;II[J)I"⟩
abbrev cL_score : ByteArray := method_4_code
def yL_score : MethodName := ⟨RL, "score", "(LCloudBench;III[J)I"⟩
abbrev cL_total : ByteArray := method_5_code
def yL_total : MethodName := ⟨RL, "total", "(LCloudBench;III[J)I"⟩
abbrev cL_count : ByteArray := method_6_code
def yL_count : MethodName := ⟨RL, "count", "(LCloudBench;IIII[J)I"⟩
abbrev cL_spread : ByteArray := method_7_code
def yL_spread : MethodName := ⟨RL, "spread", "(LCloudBench;III[J)I"⟩
abbrev cL_law : ByteArray := code
def yL_law : MethodName := ⟨RL, "law", "([I)Z"⟩
end
section
/-! own work: values, the world of a run, the judgement J and a row an instruction -/
abbrev AV : Type := (Int ⊕ Int) ⊕ Option (Nat × Nat)
abbrev zi (z : Int) : AV := Sum.inl (Sum.inl z)
abbrev zl (z : Int) : AV := Sum.inl (Sum.inr z)
abbrev zr (g s : Nat) : AV := Sum.inr (some (g, s))
abbrev Mm : Type := Nat → Nat → Nat → Int
abbrev Lo : Type := List (Option AV)
abbrev Kt : Type := Lo → List AV → Mm → Prop
abbrev Ct : Type := List AV → Mm → (Option AV → Mm → Prop) → Prop
abbrev cls12 : List vw_C := [(RX0, TX0, 1), (RX1, TX1, 13), (RX2, TX2, 3), (RX3, TX3, 4), (RX4, TX4, 2), (RX5, TX5, 14), (RX6, TX6, 9), (RX7, TX7, 4), (RX8, TX8, 2), (RX9, TX9, 5), (RX10, TX10, 8), (RX11, TX11, 38)]
/-- of each made thing's fields: 0 int, 1 long, 2 boolean, 3 + g a reference to group g -/
def fkl : Nat → List Nat
  | 0 => [15]
  | 1 => [3, 16, 17, 18, 0, 0, 0, 0, 1, 1, 1, 1, 1]
  | 2 => [19, 20, 0]
  | 3 => [21, 22, 0, 0]
  | 4 => [23, 0]
  | 5 => [7, 6, 3, 12, 24, 0, 0, 0, 1, 1, 1, 1, 1, 1]
  | 6 => [3, 12, 25, 26, 2, 0, 0, 0, 0]
  | 7 => [27, 28, 29, 0]
  | 8 => [30, 0]
  | 9 => [31, 32, 0, 0, 0]
  | 10 => [33, 7, 6, 8, 5, 9, 4, 10]
  | 11 => [34, 35, 0, 36, 37, 38, 39, 0, 1, 1, 1, 1, 40, 0, 41, 0, 42, 43, 0, 44, 0, 45, 46, 47, 48, 2, 0, 0, 49, 50, 51, 52, 53, 0, 54, 55, 56, 57]
  | _ => []
/-- of each array group: what its elements are (as above), how many -/
def aty : Nat → Nat
  | 12 => 1
  | 13 => 0
  | 14 => 0
  | 15 => 0
  | 16 => 1
  | 17 => 1
  | 18 => 0
  | 19 => 0
  | 20 => 0
  | 21 => 0
  | 22 => 0
  | 23 => 0
  | 24 => 1
  | 25 => 1
  | 26 => 2
  | 27 => 0
  | 28 => 1
  | 29 => 0
  | 30 => 11
  | 31 => 0
  | 32 => 0
  | 33 => 1
  | 34 => 1
  | 35 => 1
  | 36 => 1
  | 37 => 1
  | 38 => 0
  | 39 => 0
  | 40 => 2
  | 41 => 0
  | 42 => 1
  | 43 => 1
  | 44 => 0
  | 45 => 0
  | 46 => 0
  | 47 => 0
  | 48 => 0
  | 49 => 0
  | 50 => 1
  | 51 => 1
  | 52 => 1
  | 53 => 2
  | 54 => 0
  | 55 => 1
  | _ => 0
def alen : Nat → Nat
  | 12 => 1681
  | 13 => 12
  | 14 => 3
  | 15 => 4
  | 16 => 2000
  | 17 => 2000
  | 18 => 20
  | 19 => 20
  | 20 => 40
  | 21 => 40
  | 22 => 40
  | 23 => 400
  | 24 => 20
  | 25 => 20
  | 26 => 20
  | 27 => 20
  | 28 => 210021
  | 29 => 41
  | 30 => 8
  | 31 => 160
  | 32 => 8
  | 33 => 1681
  | 34 => 420021
  | 35 => 20002
  | 36 => 20002
  | 37 => 4000
  | 38 => 40
  | 39 => 40
  | 40 => 40
  | 41 => 40
  | 42 => 21
  | 43 => 21
  | 44 => 400
  | 45 => 4
  | 46 => 12
  | 47 => 5
  | 48 => 5
  | 49 => 15
  | 50 => 5
  | 51 => 20
  | 52 => 20
  | 53 => 20
  | 54 => 20
  | 55 => 1
  | _ => 0
/-- how many of a group there are -/
def cnt (g : Nat) : Nat := if g = 8 then 8 else if g = 27 then 8 else if g < 56 then 1 else 0
def en : List (Nat × Nat) := (List.range 56).flatMap (fun g => (List.range (cnt g)).map (fun s => (g, s)))
def cv (ad : Nat → Nat → Nat) (v : AV) : Value := match v with
  | .inl (.inl z) => .int (Int32.ofInt z)
  | .inl (.inr z) => .long (Int64.ofInt z)
  | .inr (some q) => .ref (ad q.1 q.2)
  | .inr none => .null
def fval (ad : Nat → Nat → Nat) (k s : Nat) (z : Int) : Value := match k with
  | 0 => .int (Int32.ofInt z)
  | 1 => .long (Int64.ofInt z)
  | 2 => .int (Int32.ofInt z)
  | g + 3 => .ref (ad g s)
def obf (ad : Nat → Nat → Nat) (g s : Nat) (f : Nat → Int) : List Value := (List.range (fkl g).length).map (fun k => fval ad ((fkl g).getD k 0) s (f k))
def arf (ad : Nat → Nat → Nat) (cA : Nat → ClassId) (t n : Nat) (f : Nat → Int) : ClassId × vp_A := match t with
  | 0 => (cA 0, n, .inl (fun j => Int32.ofInt (f j)))
  | 1 => (cA 1, n, .inr (.inl (fun j => Int64.ofInt (f j))))
  | 2 => (cA 2, n, .inl (fun j => Int32.ofInt (f j)))
  | h + 3 => (cA 3, n, .inr (.inr (.inr (.inr (fun j => some (ad h j))))))
def cel (ad : Nat → Nat → Nat) (cA : Nat → ClassId) (g s : Nat) (f : Nat → Int) : va_E := if g < 12 then .inr (g, obf ad g s f) else .inl (arf ad cA (aty g) (alen g) f)
def wl (ad : Nat → Nat → Nat) (cA : Nat → ClassId) (M : Mm) : va_W := en.map (fun q => (ad q.1 q.2, cel ad cA q.1 q.2 (M q.1 q.2)))
def tysA (cA : Nat → ClassId) : List (ClassId × FieldType) := [(cA 0, .int), (cA 1, .long), (cA 2, .boolean), (cA 3, .object "CloudBench$Sample")]
/-- one group's one member anew -/
def stc (M : Mm) (g s : Nat) (f : Nat → Int) : Mm := fun g' s' => if g' = g ∧ s' = s then f else M g' s'
/-- one place anew -/
def stm (M : Mm) (g s k : Nat) (v : Int) : Mm := fun g' s' k' => if g' = g ∧ s' = s ∧ k' = k then v else M g' s' k'
theorem stm_stc (M : Mm) (g s k : Nat) (v : Int) : stm M g s k v = stc M g s (fun j => if j = k then v else M g s j) := by
  funext g' s' k'
  unfold stm stc
  by_cases h : g' = g ∧ s' = s
  · obtain ⟨rfl, rfl⟩ := h
    simp
  · rw [if_neg h, if_neg (fun q => h ⟨q.1, q.2.1⟩)]
theorem en_nd : en.Nodup := by decide +kernel
theorem en_mem {g s : Nat} (h : s < cnt g) : (g, s) ∈ en := by
  have hg : g < 56 := by
    unfold cnt at h
    split at h
    · omega
    · split at h
      · omega
      · split at h
        · assumption
        · omega
  exact List.mem_flatMap.mpr ⟨g, List.mem_range.mpr hg, List.mem_map.mpr ⟨s, List.mem_range.mpr h, rfl⟩⟩
theorem wl_at (ad : Nat → Nat → Nat) (cA : Nat → ClassId) (M : Mm) {g s : Nat} (h : s < cnt g) : ∃ k : Nat, en[k]? = some (g, s) ∧ (wl ad cA M)[k]? = some (ad g s, cel ad cA g s (M g s)) := by
  obtain ⟨k, hk⟩ := List.getElem?_of_mem (en_mem h)
  exact ⟨k, hk, by simp [wl, hk]⟩
theorem wl_set (ad : Nat → Nat → Nat) (cA : Nat → ClassId) (M : Mm) {g s k : Nat} (hk : en[k]? = some (g, s)) (f : Nat → Int) : (wl ad cA M).set k (ad g s, cel ad cA g s f) = wl ad cA (stc M g s f) := by
  refine List.ext_getElem? fun i => ?_
  rw [List.getElem?_set]
  have hlt : k < en.length := (List.getElem?_eq_some_iff.mp hk).1
  by_cases hi : k = i
  · subst hi
    rw [if_pos rfl, if_pos (by simpa [wl] using hlt)]
    simp [wl, hk, stc]
  · rw [if_neg hi]
    cases hq : en[i]? with
    | none => simp [wl, hq]
    | some q =>
      have hne : ¬ (q.1 = g ∧ q.2 = s) := fun h => by
        have : q = (g, s) := Prod.ext h.1 h.2
        subst this
        exact hi ((List.getElem?_inj hlt en_nd).mp (hk.trans hq.symm))
      simp [wl, hq, stc, hne]
theorem wl_D {ad : Nat → Nat → Nat} {cA : Nat → ClassId} {A : Nat → Prop} {M : Mm} (h : va_D A (wl ad cA M)) (M' : Mm) : va_D A (wl ad cA M') := by
  have key : ∀ (N N' : Mm) (k : Nat) (q : Nat × va_E), (wl ad cA N)[k]? = some q → ∃ q' : Nat × va_E, (wl ad cA N')[k]? = some q' ∧ q'.1 = q.1 := by
    intro N N' k q hq
    simp only [wl, List.getElem?_map, Option.map_eq_some_iff] at hq ⊢
    obtain ⟨a, ha, rfl⟩ := hq
    exact ⟨_, ⟨a, ha, rfl⟩, rfl⟩
  refine ⟨fun i j p q hi hj hpq => ?_, fun k q hk => ?_⟩
  · obtain ⟨p', hp', e1⟩ := key M' M i p hi
    obtain ⟨q', hq', e2⟩ := key M' M j q hj
    exact h.1 i j p' q' hp' hq' (by rw [e1, e2]; exact hpq)
  · obtain ⟨q', hq', e2⟩ := key M' M k q hk
    rw [← e2]
    exact h.2 k q' hq'
def lvF (ad : Nat → Nat → Nat) (ls : Array Slot) (nL : Nat) (lo : Lo) : Prop := ls.size = nL ∧ lv_wf ls ∧ ∀ (i : Nat) (v : AV), lo[i]? = some (some v) → ls[i]? = some (.val (cv ad v))
abbrev Xc : Type := Program × Launch × Env × Room × State × MethodId × Array Value × List Frame × Method × Code × (Nat × Nat) × (State → Prop) × va_G × (Nat → Nat → Nat) × (Nat → ClassId) × (Nat → Prop) × Nat
/-- the words of every method: those of the tables that hold wherever the tables do -/
def gT : List Cond := lw_tbl.filter goodWord
theorem gT_good : GoodIn gT gT := fun w h => ⟨h, good_of_word (List.mem_filter.mp h).2⟩
theorem gT_of {w : Cond} (i : Nat) (h : tables_1[i]? = some w) (hg : goodWord w = true) : w ∈ gT := List.mem_filter.mpr ⟨List.mem_append_right _ (List.mem_of_getElem? h), hg⟩
theorem gT_ofP {w : Cond} (i : Nat) (h : (k2_sels lw_privs)[i]? = some w) (hg : goodWord w = true) : w ∈ gT := List.mem_filter.mpr ⟨List.mem_append_left _ (List.mem_of_getElem? h), hg⟩
def isNest : Cond → Bool
  | .fieldLinkNest .. => true
  | .methodLinkNest .. => true
  | _ => false
/-- the words on members of nest mates -/
def gN : List Cond := tables_1.filter isNest
theorem gN_of {w : Cond} (i : Nat) (h : tables_1[i]? = some w) (hg : isNest w = true) : w ∈ gN := List.mem_filter.mpr ⟨List.mem_of_getElem? h, hg⟩
theorem gN_warm {w : Cond} (h : w ∈ gN) {s U : State} (hW : s.WarmedH U.vm) (hZ : va_Nw w s) : va_Nw w U := by
  have hn := (List.mem_filter.mp h).2
  cases w <;> first | exact va_Nw.warmF hW hZ | exact va_Nw.warmM hW hZ | cases hn
theorem gN_tab {w : Cond} (h : w ∈ gN) : w.onTables = true := by
  have hn := (List.mem_filter.mp h).2
  cases w <;> first | rfl | cases hn
def J (x : Xc) (pc : Nat) (lo : Lo) (st : List AV) (M : Mm) : Prop := match x with
  | (p, l, e, R, s, m, args, below, meth, c, (cells, slots), Q, D, ad, cA, A, nL) => ∀ (H : Heap) (locs : List Loc) (ls : Array Slot), va_P D cls12 (wl ad cA M) H → va_S A s.heap H locs → lvF ad ls nL lo → W p l e R s m args below meth c H locs cells slots Q (F0 m pc ls (st.map (cv ad)))
def Cx (x : Xc) (l0 : Launch) (b : ByteArray) (own : String) (n dd : Nat) : Prop := match x with
  | (p, l, _, R, s, m, args, _, meth, c, (cells, slots), _, D, ad, cA, A, nL) => p.tables.exec = Jvm.exec ∧ c.code = b ∧ c.maxLocals = nL ∧ s.vm.findClass own = some m.cls ∧ (∀ w ∈ gT, w.before args s = true) ∧ va_K D cls12 (tysA cA) s ∧ (∀ M, va_D A (wl ad cA M)) ∧ (∀ q, s.heap.size ≤ q → A q) ∧ cells ≤ R.cells ∧ slots ≤ R.slots ∧ meth.locks = false ∧ nL = n ∧ l = l0 ∧ (dd ≤ R.frames ∧ 100 * dd ≤ R.locals) ∧ ∀ w ∈ gN, va_Nw w s
def Ok (x : Xc) (pc : Nat) (kt : Kt) : Prop := ∀ (lo : Lo) (st : List AV) (M : Mm), kt lo st M → J x pc lo st M
theorem okJ (x : Xc) (pc : Nat) : Ok x pc (J x pc) := fun _ _ _ h => h
abbrev iR (z : Int) : Prop := -2147483648 ≤ z ∧ z < 2147483648
abbrev lR (z : Int) : Prop := -9223372036854775808 ≤ z ∧ z < 9223372036854775808
theorem iR_to {z : Int} (h : iR z) : (Int32.ofInt z).toInt = z := Int32.toInt_ofInt_of_le (by have := h.1; omega) (by have := h.2; omega)
theorem lR_to {z : Int} (h : lR z) : (Int64.ofInt z).toInt = z := Int64.toInt_ofInt_of_le (by have := h.1; omega) (by have := h.2; omega)
theorem iR_lt {a b : Int} (ha : iR a) (hb : iR b) : Int32.ofInt a < Int32.ofInt b ↔ a < b := by rw [Int32.lt_iff_toInt_lt, iR_to ha, iR_to hb]
theorem iR_le {a b : Int} (ha : iR a) (hb : iR b) : Int32.ofInt a ≤ Int32.ofInt b ↔ a ≤ b := by rw [Int32.le_iff_toInt_le, iR_to ha, iR_to hb]
theorem iR_eq {a b : Int} (ha : iR a) (hb : iR b) : Int32.ofInt a = Int32.ofInt b ↔ a = b := ⟨fun h => by rw [← iR_to ha, ← iR_to hb, h], fun h => by rw [h]⟩
theorem lR_lt {a b : Int} (ha : lR a) (hb : lR b) : Int64.ofInt a < Int64.ofInt b ↔ a < b := by rw [Int64.lt_iff_toInt_lt, lR_to ha, lR_to hb]
theorem lR_le {a b : Int} (ha : lR a) (hb : lR b) : Int64.ofInt a ≤ Int64.ofInt b ↔ a ≤ b := by rw [Int64.le_iff_toInt_le, lR_to ha, lR_to hb]
theorem lR_eq {a b : Int} (ha : lR a) (hb : lR b) : Int64.ofInt a = Int64.ofInt b ↔ a = b := ⟨fun h => by rw [← lR_to ha, ← lR_to hb, h], fun h => by rw [h]⟩
theorem iR_zero : Int32.ofInt 0 = 0 := rfl
theorem iR_in {z : Int} {n : Nat} (hz : iR z) (h0 : 0 ≤ z) (h1 : z < n) : vp_in (Int32.ofInt z) n := vp_in_iff.mpr (by rw [iR_to hz]; exact ⟨h0, h1⟩)
theorem iR_cl {z : Int} (hz : iR z) (h0 : 0 ≤ z) : (Int32.ofInt z).toNatClampNeg = z.toNat := by
  rw [Int32.toNatClampNeg, iR_to hz]
/-- what comes behind a step of the machine -/
theorem J_go {x : Xc} {pc pc' : Nat} {lo : Lo} {st st' : List AV} {M : Mm}
    (h : J x pc' lo st' M) (step : ∀ (H : Heap) (locs : List Loc) (ls : Array Slot), (match x with
      | (p, l, e, R, s, m, args, below, meth, c, (cells, slots), Q, D, ad, cA, A, nL) => va_P D cls12 (wl ad cA M) H → va_S A s.heap H locs → lvF ad ls nL lo → W p l e R s m args below meth c H locs cells slots Q (F0 m pc' ls (st'.map (cv ad))) → W p l e R s m args below meth c H locs cells slots Q (F0 m pc ls (st.map (cv ad))))) : J x pc lo st M := by
  obtain ⟨p, l, e, R, s, m, args, below, meth, c, ⟨cells, slots⟩, Q, D, ad, cA, A, nL⟩ := x
  intro H locs ls hP hS hl
  exact step H locs ls hP hS hl (h H locs ls hP hS hl)

/-! stores -/
def klo (lo : Lo) (i : Nat) : Lo := match i with
  | 0 => lo
  | j + 1 => match lo[j]? with
    | some (some (.inl (.inr _))) => lo.set j none
    | _ => lo
def st1 (lo : Lo) (i : Nat) (v : AV) : Lo := (klo lo i).set i (some v)
def st2 (lo : Lo) (i : Nat) (v : AV) : Lo := ((klo lo i).set i (some v)).set (i + 1) none
def lsl (ad : Nat → Nat → Nat) (lo : Lo) : List (Nat × Value) := (List.range lo.length).filterMap (fun i => match lo[i]? with
  | some (some v) => some (i, cv ad v)
  | _ => none)
theorem lsl_mem {ad : Nat → Nat → Nat} {lo : Lo} {i : Nat} {v : AV} (h : lo[i]? = some (some v)) : (i, cv ad v) ∈ lsl ad lo := by
  refine List.mem_filterMap.mpr ⟨i, List.mem_range.mpr (List.getElem?_eq_some_iff.mp h).1, ?_⟩
  simp [h]
theorem lvF_has {ad : Nat → Nat → Nat} {ls : Array Slot} {nL : Nat} {lo : Lo} (h : lvF ad ls nL lo) : lv_has ls nL (lsl ad lo) := by
  refine ⟨h.1, h.2.1, fun q hq => ?_⟩
  obtain ⟨i, -, hi⟩ := List.mem_filterMap.mp hq
  split at hi
  · rename_i v hv
    cases hi
    exact h.2.2 i v hv
  · cases hi
theorem klo_at {lo : Lo} {i j : Nat} {w : AV} (h : (klo lo i)[j]? = some (some w)) : lo[j]? = some (some w) ∧ (j + 1 = i → ∀ z : Int, w ≠ .inl (.inr z)) := by
  unfold klo at h
  split at h
  · exact ⟨h, fun e => by omega⟩
  · rename_i k
    split at h
    · rename_i z hz
      rw [List.getElem?_set] at h
      split at h
      · split at h <;> cases h
      · rename_i hn
        exact ⟨h, fun e => by omega⟩
    · rename_i hz
      refine ⟨h, fun e z q => ?_⟩
      have : j = k := by omega
      subst this
      subst q
      exact hz z h
theorem cv_cat2 {ad : Nat → Nat → Nat} {v : AV} (h : (cv ad v).category = 2) : ∃ z : Int, v = .inl (.inr z) := by
  match v, h with
  | .inl (.inl z), h => simp [cv, Value.category] at h
  | .inl (.inr z), _ => exact ⟨z, rfl⟩
  | .inr (some q), h => simp [cv, Value.category] at h
  | .inr none, h => simp [cv, Value.category] at h
theorem lvF_st1 {ad : Nat → Nat → Nat} {ls : Array Slot} {nL i : Nat} {lo : Lo} {v : AV} (h : lv_has ls nL ((i, cv ad v) :: (lsl ad lo).filter (fun q => !(q.1 == i) && !(q.1 + 1 == i && q.2.category == 2)))) : lvF ad ls nL (st1 lo i v) := by
  refine ⟨h.1, h.2.1, fun j w hj => ?_⟩
  unfold st1 at hj
  rw [List.getElem?_set] at hj
  split at hj
  · rename_i e
    split at hj
    · cases hj
      rw [← e]
      exact h.2.2 (i, cv ad v) List.mem_cons_self
    · cases hj
  · rename_i e
    obtain ⟨h1, h2⟩ := klo_at hj
    refine h.2.2 (j, cv ad w) (List.mem_cons_of_mem _ (List.mem_filter.mpr ⟨lsl_mem h1, ?_⟩))
    simp only [Bool.and_eq_true, Bool.not_eq_true', beq_eq_false_iff_ne, ne_eq, Bool.and_eq_false_iff]
    refine ⟨fun q => e q.symm, ?_⟩
    by_cases q : j + 1 = i
    · refine Or.inr fun c => ?_
      obtain ⟨z, hz⟩ := cv_cat2 c
      exact h2 q z hz
    · exact Or.inl q
theorem lvF_st2 {ad : Nat → Nat → Nat} {ls : Array Slot} {nL i : Nat} {lo : Lo} {v : AV} (h : lv_has ls nL ((i, cv ad v) :: (lsl ad lo).filter (fun q => !(q.1 == i) && (!(q.1 == i + 1) && !(q.1 + 1 == i && q.2.category == 2))))) : lvF ad ls nL (st2 lo i v) := by
  refine ⟨h.1, h.2.1, fun j w hj => ?_⟩
  unfold st2 at hj
  rw [List.getElem?_set] at hj
  split at hj
  · split at hj <;> cases hj
  · rename_i e1
    rw [List.getElem?_set] at hj
    split at hj
    · rename_i e
      split at hj
      · cases hj
        rw [← e]
        exact h.2.2 (i, cv ad v) List.mem_cons_self
      · cases hj
    · rename_i e
      obtain ⟨h1, h2⟩ := klo_at hj
      refine h.2.2 (j, cv ad w) (List.mem_cons_of_mem _ (List.mem_filter.mpr ⟨lsl_mem h1, ?_⟩))
      simp only [Bool.and_eq_true, Bool.not_eq_true', beq_eq_false_iff_ne, ne_eq, Bool.and_eq_false_iff]
      refine ⟨fun q => e q.symm, fun q => e1 q.symm, ?_⟩
      by_cases q : j + 1 = i
      · refine Or.inr fun c => ?_
        obtain ⟨z, hz⟩ := cv_cat2 c
        exact h2 q z hz
      · exact Or.inl q
/-- fewer known locals -/
theorem J_sub {x : Xc} {pc : Nat} {lo : Lo} {st : List AV} {M : Mm} (lo' : Lo) (hs : ∀ (i : Nat) (v : AV), lo'[i]? = some (some v) → lo[i]? = some (some v)) (h : J x pc lo' st M) : J x pc lo st M := by
  obtain ⟨p, l, e, R, s, m, args, below, meth, c, ⟨cells, slots⟩, Q, D, ad, cA, A, nL⟩ := x
  intro H locs ls hP hS hl
  exact h H locs ls hP hS ⟨hl.1, hl.2.1, fun i v q => hl.2.2 i v (hs i v q)⟩
/-- the same, by a list that says which stay -/
def fgt : List Bool → Lo → Lo
  | true :: bs, v :: lo => v :: fgt bs lo
  | false :: bs, _ :: lo => none :: fgt bs lo
  | _, _ => []
theorem fgt_sub (bs : List Bool) (lo : Lo) (i : Nat) (v : AV) (h : (fgt bs lo)[i]? = some (some v)) : lo[i]? = some (some v) := by
  induction bs generalizing lo i with
  | nil => simp [fgt] at h
  | cons b bs ih =>
    cases lo with
    | nil => cases b <;> simp [fgt] at h
    | cons w lo =>
      cases b <;> cases i <;> simp [fgt] at h ⊢
      · exact ih _ _ h
      · exact h
      · exact ih _ _ h
theorem J_fgt {x : Xc} {pc : Nat} {lo : Lo} {st : List AV} {M : Mm} (bs : List Bool) (h : J x pc (fgt bs lo) st M) : J x pc lo st M := J_sub _ (fgt_sub bs lo) h

theorem iR0 : iR 0 := ⟨by decide, by decide⟩
theorem lR0 : lR 0 := ⟨by decide, by decide⟩
def c_iadd (kt : Kt) : Kt := fun lo st M => match st with
  | .inl (.inl y) :: .inl (.inl z) :: r => kt lo (zi (z + y) :: r) M
  | _ => False
theorem r_iadd {x : Xc} {l0 : Launch} {b : ByteArray} {own : String} {nl dd : Nat} {pc : Nat} {kt : Kt} (C : Cx x l0 b own nl dd) (hd : decode b pc = .ok (.iadd, 1)) (h : Ok x (pc + 1) kt) : Ok x pc (c_iadd kt) := by
  intro lo st M hk
  obtain ⟨p, l, e, R, s, m, args, below, meth, c, ⟨cells, slots⟩, Q, D, ad, cA, A, nL⟩ := x
  obtain ⟨hx, hb, hml, hown, hts, hK, hD, hA, hc1, hc2, hlk, hnl, hll, hrm, hN⟩ := C
  match st, hk with
  | .inl (.inl y) :: .inl (.inl z) :: r, hk =>
    intro H locs ls hP hS hl
    have q := h lo _ M hk H locs ls hP hS hl
    simp only [List.map, cv, Int32.ofInt_add] at q
    exact lv_iadd hx hb hd q
def c_isub (kt : Kt) : Kt := fun lo st M => match st with
  | .inl (.inl y) :: .inl (.inl z) :: r => kt lo (zi (z - y) :: r) M
  | _ => False
theorem r_isub {x : Xc} {l0 : Launch} {b : ByteArray} {own : String} {nl dd : Nat} {pc : Nat} {kt : Kt} (C : Cx x l0 b own nl dd) (hd : decode b pc = .ok (.isub, 1)) (h : Ok x (pc + 1) kt) : Ok x pc (c_isub kt) := by
  intro lo st M hk
  obtain ⟨p, l, e, R, s, m, args, below, meth, c, ⟨cells, slots⟩, Q, D, ad, cA, A, nL⟩ := x
  obtain ⟨hx, hb, hml, hown, hts, hK, hD, hA, hc1, hc2, hlk, hnl, hll, hrm, hN⟩ := C
  match st, hk with
  | .inl (.inl y) :: .inl (.inl z) :: r, hk =>
    intro H locs ls hP hS hl
    have q := h lo _ M hk H locs ls hP hS hl
    simp only [List.map, cv, Int32.ofInt_sub] at q
    exact lv_isub hx hb hd q
def c_imul (kt : Kt) : Kt := fun lo st M => match st with
  | .inl (.inl y) :: .inl (.inl z) :: r => kt lo (zi (z * y) :: r) M
  | _ => False
theorem r_imul {x : Xc} {l0 : Launch} {b : ByteArray} {own : String} {nl dd : Nat} {pc : Nat} {kt : Kt} (C : Cx x l0 b own nl dd) (hd : decode b pc = .ok (.imul, 1)) (h : Ok x (pc + 1) kt) : Ok x pc (c_imul kt) := by
  intro lo st M hk
  obtain ⟨p, l, e, R, s, m, args, below, meth, c, ⟨cells, slots⟩, Q, D, ad, cA, A, nL⟩ := x
  obtain ⟨hx, hb, hml, hown, hts, hK, hD, hA, hc1, hc2, hlk, hnl, hll, hrm, hN⟩ := C
  match st, hk with
  | .inl (.inl y) :: .inl (.inl z) :: r, hk =>
    intro H locs ls hP hS hl
    have q := h lo _ M hk H locs ls hP hS hl
    simp only [List.map, cv, Int32.ofInt_mul] at q
    exact lv_imul hx hb hd q
def c_ladd (kt : Kt) : Kt := fun lo st M => match st with
  | .inl (.inr y) :: .inl (.inr z) :: r => kt lo (zl (z + y) :: r) M
  | _ => False
theorem r_ladd {x : Xc} {l0 : Launch} {b : ByteArray} {own : String} {nl dd : Nat} {pc : Nat} {kt : Kt} (C : Cx x l0 b own nl dd) (hd : decode b pc = .ok (.ladd, 1)) (h : Ok x (pc + 1) kt) : Ok x pc (c_ladd kt) := by
  intro lo st M hk
  obtain ⟨p, l, e, R, s, m, args, below, meth, c, ⟨cells, slots⟩, Q, D, ad, cA, A, nL⟩ := x
  obtain ⟨hx, hb, hml, hown, hts, hK, hD, hA, hc1, hc2, hlk, hnl, hll, hrm, hN⟩ := C
  match st, hk with
  | .inl (.inr y) :: .inl (.inr z) :: r, hk =>
    intro H locs ls hP hS hl
    have q := h lo _ M hk H locs ls hP hS hl
    simp only [List.map, cv, Int64.ofInt_add] at q
    exact lv_ladd hx hb hd q
def c_lsub (kt : Kt) : Kt := fun lo st M => match st with
  | .inl (.inr y) :: .inl (.inr z) :: r => kt lo (zl (z - y) :: r) M
  | _ => False
theorem r_lsub {x : Xc} {l0 : Launch} {b : ByteArray} {own : String} {nl dd : Nat} {pc : Nat} {kt : Kt} (C : Cx x l0 b own nl dd) (hd : decode b pc = .ok (.lsub, 1)) (h : Ok x (pc + 1) kt) : Ok x pc (c_lsub kt) := by
  intro lo st M hk
  obtain ⟨p, l, e, R, s, m, args, below, meth, c, ⟨cells, slots⟩, Q, D, ad, cA, A, nL⟩ := x
  obtain ⟨hx, hb, hml, hown, hts, hK, hD, hA, hc1, hc2, hlk, hnl, hll, hrm, hN⟩ := C
  match st, hk with
  | .inl (.inr y) :: .inl (.inr z) :: r, hk =>
    intro H locs ls hP hS hl
    have q := h lo _ M hk H locs ls hP hS hl
    simp only [List.map, cv, Int64.ofInt_sub] at q
    exact lv_lsub hx hb hd q
def c_lmul (kt : Kt) : Kt := fun lo st M => match st with
  | .inl (.inr y) :: .inl (.inr z) :: r => kt lo (zl (z * y) :: r) M
  | _ => False
theorem r_lmul {x : Xc} {l0 : Launch} {b : ByteArray} {own : String} {nl dd : Nat} {pc : Nat} {kt : Kt} (C : Cx x l0 b own nl dd) (hd : decode b pc = .ok (.lmul, 1)) (h : Ok x (pc + 1) kt) : Ok x pc (c_lmul kt) := by
  intro lo st M hk
  obtain ⟨p, l, e, R, s, m, args, below, meth, c, ⟨cells, slots⟩, Q, D, ad, cA, A, nL⟩ := x
  obtain ⟨hx, hb, hml, hown, hts, hK, hD, hA, hc1, hc2, hlk, hnl, hll, hrm, hN⟩ := C
  match st, hk with
  | .inl (.inr y) :: .inl (.inr z) :: r, hk =>
    intro H locs ls hP hS hl
    have q := h lo _ M hk H locs ls hP hS hl
    simp only [List.map, cv, Int64.ofInt_mul] at q
    exact lv_lmul hx hb hd q
def c_ineg (kt : Kt) : Kt := fun lo st M => match st with
  | .inl (.inl z) :: r => kt lo (zi (-z) :: r) M
  | _ => False
theorem r_ineg {x : Xc} {l0 : Launch} {b : ByteArray} {own : String} {nl dd : Nat} {pc : Nat} {kt : Kt} (C : Cx x l0 b own nl dd) (hd : decode b pc = .ok (.ineg, 1)) (h : Ok x (pc + 1) kt) : Ok x pc (c_ineg kt) := by
  intro lo st M hk
  obtain ⟨p, l, e, R, s, m, args, below, meth, c, ⟨cells, slots⟩, Q, D, ad, cA, A, nL⟩ := x
  obtain ⟨hx, hb, hml, hown, hts, hK, hD, hA, hc1, hc2, hlk, hnl, hll, hrm, hN⟩ := C
  match st, hk with
  | .inl (.inl z) :: r, hk =>
    intro H locs ls hP hS hl
    have q := h lo _ M hk H locs ls hP hS hl
    simp only [List.map, cv, Int32.ofInt_neg] at q
    exact lv_ineg hx hb hd q
def c_lneg (kt : Kt) : Kt := fun lo st M => match st with
  | .inl (.inr z) :: r => kt lo (zl (-z) :: r) M
  | _ => False
theorem r_lneg {x : Xc} {l0 : Launch} {b : ByteArray} {own : String} {nl dd : Nat} {pc : Nat} {kt : Kt} (C : Cx x l0 b own nl dd) (hd : decode b pc = .ok (.lneg, 1)) (h : Ok x (pc + 1) kt) : Ok x pc (c_lneg kt) := by
  intro lo st M hk
  obtain ⟨p, l, e, R, s, m, args, below, meth, c, ⟨cells, slots⟩, Q, D, ad, cA, A, nL⟩ := x
  obtain ⟨hx, hb, hml, hown, hts, hK, hD, hA, hc1, hc2, hlk, hnl, hll, hrm, hN⟩ := C
  match st, hk with
  | .inl (.inr z) :: r, hk =>
    intro H locs ls hP hS hl
    have q := h lo _ M hk H locs ls hP hS hl
    simp only [List.map, cv, Int64.ofInt_neg] at q
    exact lv_lneg hx hb hd q
/-- an int constant: iconst, bipush, sipush -/
def c_ic (n : Int) (kt : Kt) : Kt := fun lo st M => kt lo (zi n :: st) M
theorem r_iconst {x : Xc} {l0 : Launch} {b : ByteArray} {own : String} {nl dd : Nat} {pc : Nat} {kt : Kt} {n : Int} (C : Cx x l0 b own nl dd) (hd : decode b pc = .ok (.iconst n, 1)) (h : Ok x (pc + 1) kt) : Ok x pc (c_ic n kt) := by
  intro lo st M hk
  obtain ⟨p, l, e, R, s, m, args, below, meth, c, ⟨cells, slots⟩, Q, D, ad, cA, A, nL⟩ := x
  obtain ⟨hx, hb, hml, hown, hts, hK, hD, hA, hc1, hc2, hlk, hnl, hll, hrm, hN⟩ := C
  intro H locs ls hP hS hl
  exact lv_iconst hx hb hd rfl (h lo _ M hk H locs ls hP hS hl)
theorem r_bipush {x : Xc} {l0 : Launch} {b : ByteArray} {own : String} {nl dd : Nat} {pc : Nat} {kt : Kt} {n : Int} (C : Cx x l0 b own nl dd) (hd : decode b pc = .ok (.bipush n, 2)) (hn : (Int8.ofInt n).toInt32 = Int32.ofInt n) (h : Ok x (pc + 2) kt) : Ok x pc (c_ic n kt) := by
  intro lo st M hk
  obtain ⟨p, l, e, R, s, m, args, below, meth, c, ⟨cells, slots⟩, Q, D, ad, cA, A, nL⟩ := x
  obtain ⟨hx, hb, hml, hown, hts, hK, hD, hA, hc1, hc2, hlk, hnl, hll, hrm, hN⟩ := C
  intro H locs ls hP hS hl
  exact lv_bipush hx hb hd hn (h lo _ M hk H locs ls hP hS hl)
theorem r_sipush {x : Xc} {l0 : Launch} {b : ByteArray} {own : String} {nl dd : Nat} {pc : Nat} {kt : Kt} {n : Int} (C : Cx x l0 b own nl dd) (hd : decode b pc = .ok (.sipush n, 3)) (hn : (Int16.ofInt n).toInt32 = Int32.ofInt n) (h : Ok x (pc + 3) kt) : Ok x pc (c_ic n kt) := by
  intro lo st M hk
  obtain ⟨p, l, e, R, s, m, args, below, meth, c, ⟨cells, slots⟩, Q, D, ad, cA, A, nL⟩ := x
  obtain ⟨hx, hb, hml, hown, hts, hK, hD, hA, hc1, hc2, hlk, hnl, hll, hrm, hN⟩ := C
  intro H locs ls hP hS hl
  exact lv_sipush hx hb hd hn (h lo _ M hk H locs ls hP hS hl)
def c_lc (n : Int) (kt : Kt) : Kt := fun lo st M => kt lo (zl n :: st) M
theorem r_lconst {x : Xc} {l0 : Launch} {b : ByteArray} {own : String} {nl dd : Nat} {pc : Nat} {kt : Kt} {n : Fin 2} {z : Int} (C : Cx x l0 b own nl dd) (hd : decode b pc = .ok (.lconst n, 1)) (hn : Int64.ofNat (n : Nat) = Int64.ofInt z) (h : Ok x (pc + 1) kt) : Ok x pc (c_lc z kt) := by
  intro lo st M hk
  obtain ⟨p, l, e, R, s, m, args, below, meth, c, ⟨cells, slots⟩, Q, D, ad, cA, A, nL⟩ := x
  obtain ⟨hx, hb, hml, hown, hts, hK, hD, hA, hc1, hc2, hlk, hnl, hll, hrm, hN⟩ := C
  intro H locs ls hP hS hl
  exact lv_lconst hx hb hd hn (h lo _ M hk H locs ls hP hS hl)
theorem r_ldc2 {x : Xc} {l0 : Launch} {b : ByteArray} {own : String} {nl dd : Nat} {pc : Nat} {kt : Kt} {i : Nat} {z : Int} {v : Int64} (C : Cx x l0 b own nl dd) (hd : decode b pc = .ok (.ldc2_w i, 3)) (hw : Cond.constantLong own i v ∈ gT) (hn : v = Int64.ofInt z) (h : Ok x (pc + 3) kt) : Ok x pc (c_lc z kt) := by
  intro lo st M hk
  obtain ⟨p, l, e, R, s, m, args, below, meth, c, ⟨cells, slots⟩, Q, D, ad, cA, A, nL⟩ := x
  obtain ⟨hx, hb, hml, hown, hts, hK, hD, hA, hc1, hc2, hlk, hnl, hll, hrm, hN⟩ := C
  intro H locs ls hP hS hl
  subst hn
  exact lv_ldc2 hx hb hown (hts _ hw) hd (h lo _ M hk H locs ls hP hS hl)
def c_iload (i : Nat) (kt : Kt) : Kt := fun lo st M => match lo[i]? with
  | some (some (.inl (.inl z))) => kt lo ((.inl (.inl z)) :: st) M
  | _ => False
theorem r_iload {x : Xc} {l0 : Launch} {b : ByteArray} {own : String} {nl dd : Nat} {pc : Nat} {kt : Kt} {i : Nat} (C : Cx x l0 b own nl dd) (hd : decode b pc = .ok (.iload i, 2)) (h : Ok x (pc + 2) kt) : Ok x pc (c_iload i kt) := by
  intro lo st M hk
  obtain ⟨p, l, e, R, s, m, args, below, meth, c, ⟨cells, slots⟩, Q, D, ad, cA, A, nL⟩ := x
  obtain ⟨hx, hb, hml, hown, hts, hK, hD, hA, hc1, hc2, hlk, hnl, hll, hrm, hN⟩ := C
  unfold c_iload at hk
  split at hk
  · rename_i z hz
    intro H locs ls hP hS hl
    exact lv_iload hx hb hd (hl.2.2 i _ hz) (h lo _ M hk H locs ls hP hS hl)
  · exact hk.elim
theorem r_iload_n {x : Xc} {l0 : Launch} {b : ByteArray} {own : String} {nl dd : Nat} {pc : Nat} {kt : Kt} {j : Fin 4} {i : Nat} (C : Cx x l0 b own nl dd) (hd : decode b pc = .ok (.iload_n j, 1)) (hi : (j : Nat) = i) (h : Ok x (pc + 1) kt) : Ok x pc (c_iload i kt) := by
  intro lo st M hk
  obtain ⟨p, l, e, R, s, m, args, below, meth, c, ⟨cells, slots⟩, Q, D, ad, cA, A, nL⟩ := x
  obtain ⟨hx, hb, hml, hown, hts, hK, hD, hA, hc1, hc2, hlk, hnl, hll, hrm, hN⟩ := C
  unfold c_iload at hk
  split at hk
  · rename_i z hz
    intro H locs ls hP hS hl
    exact lv_iload_n hx hb hd hi (hl.2.2 i _ hz) (h lo _ M hk H locs ls hP hS hl)
  · exact hk.elim
def c_lload (i : Nat) (kt : Kt) : Kt := fun lo st M => match lo[i]? with
  | some (some (.inl (.inr z))) => kt lo ((.inl (.inr z)) :: st) M
  | _ => False
theorem r_lload {x : Xc} {l0 : Launch} {b : ByteArray} {own : String} {nl dd : Nat} {pc : Nat} {kt : Kt} {i : Nat} (C : Cx x l0 b own nl dd) (hd : decode b pc = .ok (.lload i, 2)) (h : Ok x (pc + 2) kt) : Ok x pc (c_lload i kt) := by
  intro lo st M hk
  obtain ⟨p, l, e, R, s, m, args, below, meth, c, ⟨cells, slots⟩, Q, D, ad, cA, A, nL⟩ := x
  obtain ⟨hx, hb, hml, hown, hts, hK, hD, hA, hc1, hc2, hlk, hnl, hll, hrm, hN⟩ := C
  unfold c_lload at hk
  split at hk
  · rename_i z hz
    intro H locs ls hP hS hl
    exact lv_lload hx hb hd (hl.2.2 i _ hz) (h lo _ M hk H locs ls hP hS hl)
  · exact hk.elim
theorem r_lload_n {x : Xc} {l0 : Launch} {b : ByteArray} {own : String} {nl dd : Nat} {pc : Nat} {kt : Kt} {j : Fin 4} {i : Nat} (C : Cx x l0 b own nl dd) (hd : decode b pc = .ok (.lload_n j, 1)) (hi : (j : Nat) = i) (h : Ok x (pc + 1) kt) : Ok x pc (c_lload i kt) := by
  intro lo st M hk
  obtain ⟨p, l, e, R, s, m, args, below, meth, c, ⟨cells, slots⟩, Q, D, ad, cA, A, nL⟩ := x
  obtain ⟨hx, hb, hml, hown, hts, hK, hD, hA, hc1, hc2, hlk, hnl, hll, hrm, hN⟩ := C
  unfold c_lload at hk
  split at hk
  · rename_i z hz
    intro H locs ls hP hS hl
    exact lv_lload_n hx hb hd hi (hl.2.2 i _ hz) (h lo _ M hk H locs ls hP hS hl)
  · exact hk.elim
def c_aload (i : Nat) (kt : Kt) : Kt := fun lo st M => match lo[i]? with
  | some (some (.inr (some z))) => kt lo ((.inr (some z)) :: st) M
  | _ => False
theorem r_aload {x : Xc} {l0 : Launch} {b : ByteArray} {own : String} {nl dd : Nat} {pc : Nat} {kt : Kt} {i : Nat} (C : Cx x l0 b own nl dd) (hd : decode b pc = .ok (.aload i, 2)) (h : Ok x (pc + 2) kt) : Ok x pc (c_aload i kt) := by
  intro lo st M hk
  obtain ⟨p, l, e, R, s, m, args, below, meth, c, ⟨cells, slots⟩, Q, D, ad, cA, A, nL⟩ := x
  obtain ⟨hx, hb, hml, hown, hts, hK, hD, hA, hc1, hc2, hlk, hnl, hll, hrm, hN⟩ := C
  unfold c_aload at hk
  split at hk
  · rename_i z hz
    intro H locs ls hP hS hl
    exact lv_aload hx hb hd (hl.2.2 i _ hz) (h lo _ M hk H locs ls hP hS hl)
  · exact hk.elim
theorem r_aload_n {x : Xc} {l0 : Launch} {b : ByteArray} {own : String} {nl dd : Nat} {pc : Nat} {kt : Kt} {j : Fin 4} {i : Nat} (C : Cx x l0 b own nl dd) (hd : decode b pc = .ok (.aload_n j, 1)) (hi : (j : Nat) = i) (h : Ok x (pc + 1) kt) : Ok x pc (c_aload i kt) := by
  intro lo st M hk
  obtain ⟨p, l, e, R, s, m, args, below, meth, c, ⟨cells, slots⟩, Q, D, ad, cA, A, nL⟩ := x
  obtain ⟨hx, hb, hml, hown, hts, hK, hD, hA, hc1, hc2, hlk, hnl, hll, hrm, hN⟩ := C
  unfold c_aload at hk
  split at hk
  · rename_i z hz
    intro H locs ls hP hS hl
    exact lv_aload_n hx hb hd hi (hl.2.2 i _ hz) (h lo _ M hk H locs ls hP hS hl)
  · exact hk.elim
def c_istore (i : Nat) (kt : Kt) : Kt := fun lo st M => match st with
  | .inl (.inl z) :: r => kt (st1 lo i (.inl (.inl z))) r M
  | _ => False
theorem r_istore {x : Xc} {l0 : Launch} {b : ByteArray} {own : String} {nl dd : Nat} {pc : Nat} {kt : Kt} {i : Nat} (C : Cx x l0 b own nl dd) (hd : decode b pc = .ok (.istore i, 2)) (hn : i < nl) (h : Ok x (pc + 2) kt) : Ok x pc (c_istore i kt) := by
  intro lo st M hk
  obtain ⟨p, l, e, R, s, m, args, below, meth, c, ⟨cells, slots⟩, Q, D, ad, cA, A, nL⟩ := x
  obtain ⟨hx, hb, hml, hown, hts, hK, hD, hA, hc1, hc2, hlk, hnl, hll, hrm, hN⟩ := C
  match st, hk with
  | .inl (.inl z) :: r, hk =>
    intro H locs ls hP hS hl
    exact lv_istore hx hb hd (lvF_has hl) (by omega) rfl (fun ls' hl' => h _ _ M hk H locs ls' hP hS (lvF_st1 hl'))
theorem r_istore_n {x : Xc} {l0 : Launch} {b : ByteArray} {own : String} {nl dd : Nat} {pc : Nat} {kt : Kt} {j : Fin 4} {i : Nat} (C : Cx x l0 b own nl dd) (hd : decode b pc = .ok (.istore_n j, 1)) (hi : (j : Nat) = i) (hn : i < nl) (h : Ok x (pc + 1) kt) : Ok x pc (c_istore i kt) := by
  intro lo st M hk
  obtain ⟨p, l, e, R, s, m, args, below, meth, c, ⟨cells, slots⟩, Q, D, ad, cA, A, nL⟩ := x
  obtain ⟨hx, hb, hml, hown, hts, hK, hD, hA, hc1, hc2, hlk, hnl, hll, hrm, hN⟩ := C
  match st, hk with
  | .inl (.inl z) :: r, hk =>
    intro H locs ls hP hS hl
    exact lv_istore_n hx hb hd hi (lvF_has hl) (by omega) rfl (fun ls' hl' => h _ _ M hk H locs ls' hP hS (lvF_st1 hl'))
def c_astore (i : Nat) (kt : Kt) : Kt := fun lo st M => match st with
  | .inr (some z) :: r => kt (st1 lo i (.inr (some z))) r M
  | _ => False
theorem r_astore {x : Xc} {l0 : Launch} {b : ByteArray} {own : String} {nl dd : Nat} {pc : Nat} {kt : Kt} {i : Nat} (C : Cx x l0 b own nl dd) (hd : decode b pc = .ok (.astore i, 2)) (hn : i < nl) (h : Ok x (pc + 2) kt) : Ok x pc (c_astore i kt) := by
  intro lo st M hk
  obtain ⟨p, l, e, R, s, m, args, below, meth, c, ⟨cells, slots⟩, Q, D, ad, cA, A, nL⟩ := x
  obtain ⟨hx, hb, hml, hown, hts, hK, hD, hA, hc1, hc2, hlk, hnl, hll, hrm, hN⟩ := C
  match st, hk with
  | .inr (some z) :: r, hk =>
    intro H locs ls hP hS hl
    exact lv_astore hx hb hd (lvF_has hl) (by omega) rfl (fun ls' hl' => h _ _ M hk H locs ls' hP hS (lvF_st1 hl'))
theorem r_astore_n {x : Xc} {l0 : Launch} {b : ByteArray} {own : String} {nl dd : Nat} {pc : Nat} {kt : Kt} {j : Fin 4} {i : Nat} (C : Cx x l0 b own nl dd) (hd : decode b pc = .ok (.astore_n j, 1)) (hi : (j : Nat) = i) (hn : i < nl) (h : Ok x (pc + 1) kt) : Ok x pc (c_astore i kt) := by
  intro lo st M hk
  obtain ⟨p, l, e, R, s, m, args, below, meth, c, ⟨cells, slots⟩, Q, D, ad, cA, A, nL⟩ := x
  obtain ⟨hx, hb, hml, hown, hts, hK, hD, hA, hc1, hc2, hlk, hnl, hll, hrm, hN⟩ := C
  match st, hk with
  | .inr (some z) :: r, hk =>
    intro H locs ls hP hS hl
    exact lv_astore_n hx hb hd hi (lvF_has hl) (by omega) rfl (fun ls' hl' => h _ _ M hk H locs ls' hP hS (lvF_st1 hl'))
def c_lstore (i : Nat) (kt : Kt) : Kt := fun lo st M => match st with
  | .inl (.inr z) :: r => kt (st2 lo i (.inl (.inr z))) r M
  | _ => False
theorem r_lstore {x : Xc} {l0 : Launch} {b : ByteArray} {own : String} {nl dd : Nat} {pc : Nat} {kt : Kt} {i : Nat} (C : Cx x l0 b own nl dd) (hd : decode b pc = .ok (.lstore i, 2)) (hn : i + 1 < nl) (h : Ok x (pc + 2) kt) : Ok x pc (c_lstore i kt) := by
  intro lo st M hk
  obtain ⟨p, l, e, R, s, m, args, below, meth, c, ⟨cells, slots⟩, Q, D, ad, cA, A, nL⟩ := x
  obtain ⟨hx, hb, hml, hown, hts, hK, hD, hA, hc1, hc2, hlk, hnl, hll, hrm, hN⟩ := C
  match st, hk with
  | .inl (.inr z) :: r, hk =>
    intro H locs ls hP hS hl
    exact lv_lstore hx hb hd (lvF_has hl) (by omega) rfl (fun ls' hl' => h _ _ M hk H locs ls' hP hS (lvF_st2 hl'))
theorem r_lstore_n {x : Xc} {l0 : Launch} {b : ByteArray} {own : String} {nl dd : Nat} {pc : Nat} {kt : Kt} {j : Fin 4} {i : Nat} (C : Cx x l0 b own nl dd) (hd : decode b pc = .ok (.lstore_n j, 1)) (hi : (j : Nat) = i) (hn : i + 1 < nl) (h : Ok x (pc + 1) kt) : Ok x pc (c_lstore i kt) := by
  intro lo st M hk
  obtain ⟨p, l, e, R, s, m, args, below, meth, c, ⟨cells, slots⟩, Q, D, ad, cA, A, nL⟩ := x
  obtain ⟨hx, hb, hml, hown, hts, hK, hD, hA, hc1, hc2, hlk, hnl, hll, hrm, hN⟩ := C
  match st, hk with
  | .inl (.inr z) :: r, hk =>
    intro H locs ls hP hS hl
    exact lv_lstore_n hx hb hd hi (lvF_has hl) (by omega) rfl (fun ls' hl' => h _ _ M hk H locs ls' hP hS (lvF_st2 hl'))
def c_iinc (i : Nat) (n : Int) (kt : Kt) : Kt := fun lo st M => match lo[i]? with
  | some (some (.inl (.inl z))) => kt (st1 lo i (zi (z + n))) st M
  | _ => False
theorem r_iinc {x : Xc} {l0 : Launch} {b : ByteArray} {own : String} {nl dd : Nat} {pc : Nat} {kt : Kt} {i : Nat} {n : Int} (C : Cx x l0 b own nl dd) (hd : decode b pc = .ok (.iinc i n, 3)) (hn : i < nl) (h : Ok x (pc + 3) kt) : Ok x pc (c_iinc i n kt) := by
  intro lo st M hk
  obtain ⟨p, l, e, R, s, m, args, below, meth, c, ⟨cells, slots⟩, Q, D, ad, cA, A, nL⟩ := x
  obtain ⟨hx, hb, hml, hown, hts, hK, hD, hA, hc1, hc2, hlk, hnl, hll, hrm, hN⟩ := C
  unfold c_iinc at hk
  split at hk
  · rename_i z hz
    intro H locs ls hP hS hl
    obtain ⟨k, hk2⟩ := List.getElem?_of_mem (lsl_mem (ad := ad) hz)
    exact lv_iinc (v := Int32.ofInt (z + n)) hx hb hd (lvF_has hl) hk2 (by rw [Int32.ofInt_add]) (by omega) rfl (fun ls' hl' => h _ _ M hk H locs ls' hP hS (lvF_st1 (v := zi (z + n)) hl'))
  · exact hk.elim
def c_dup (kt : Kt) : Kt := fun lo st M => match st with
  | .inl (.inl z) :: r => kt lo (zi z :: zi z :: r) M
  | .inr v :: r => kt lo (.inr v :: .inr v :: r) M
  | _ => False
theorem r_dup {x : Xc} {l0 : Launch} {b : ByteArray} {own : String} {nl dd : Nat} {pc : Nat} {kt : Kt} (C : Cx x l0 b own nl dd) (hd : decode b pc = .ok (.dup, 1)) (h : Ok x (pc + 1) kt) : Ok x pc (c_dup kt) := by
  intro lo st M hk
  obtain ⟨p, l, e, R, s, m, args, below, meth, c, ⟨cells, slots⟩, Q, D, ad, cA, A, nL⟩ := x
  obtain ⟨hx, hb, hml, hown, hts, hK, hD, hA, hc1, hc2, hlk, hnl, hll, hrm, hN⟩ := C
  match st, hk with
  | .inl (.inl z) :: r, hk =>
    intro H locs ls hP hS hl
    exact lv_dup hx hb hd rfl (h lo _ M hk H locs ls hP hS hl)
  | .inr (some v) :: r, hk =>
    intro H locs ls hP hS hl
    exact lv_dup hx hb hd rfl (h lo _ M hk H locs ls hP hS hl)
  | .inr none :: r, hk =>
    intro H locs ls hP hS hl
    exact lv_dup hx hb hd rfl (h lo _ M hk H locs ls hP hS hl)
/-- dup2 over an array and a place -/
def c_dup2 (kt : Kt) : Kt := fun lo st M => match st with
  | .inl (.inl z) :: .inr (some v) :: r => kt lo (zi z :: .inr (some v) :: zi z :: .inr (some v) :: r) M
  | _ => False
theorem r_dup2 {x : Xc} {l0 : Launch} {b : ByteArray} {own : String} {nl dd : Nat} {pc : Nat} {kt : Kt} (C : Cx x l0 b own nl dd) (hd : decode b pc = .ok (.dup2, 1)) (h : Ok x (pc + 1) kt) : Ok x pc (c_dup2 kt) := by
  intro lo st M hk
  obtain ⟨p, l, e, R, s, m, args, below, meth, c, ⟨cells, slots⟩, Q, D, ad, cA, A, nL⟩ := x
  obtain ⟨hx, hb, hml, hown, hts, hK, hD, hA, hc1, hc2, hlk, hnl, hll, hrm, hN⟩ := C
  match st, hk with
  | .inl (.inl z) :: .inr (some v) :: r, hk =>
    intro H locs ls hP hS hl
    exact lv_dup2_11 hx hb hd rfl rfl (h lo _ M hk H locs ls hP hS hl)
def c_goto (kt : Kt) : Kt := kt
theorem r_goto {x : Xc} {l0 : Launch} {b : ByteArray} {own : String} {nl dd : Nat} {pc : Nat} {kt : Kt} {off : Int} {tgt : Nat} (C : Cx x l0 b own nl dd) (hd : decode b pc = .ok (.goto off, 3)) (ht : (pc : Int) + off = (tgt : Int)) (h : Ok x tgt kt) : Ok x pc (c_goto kt) := by
  intro lo st M hk
  obtain ⟨p, l, e, R, s, m, args, below, meth, c, ⟨cells, slots⟩, Q, D, ad, cA, A, nL⟩ := x
  obtain ⟨hx, hb, hml, hown, hts, hK, hD, hA, hc1, hc2, hlk, hnl, hll, hrm, hN⟩ := C
  intro H locs ls hP hS hl
  exact lv_goto hx hb hd ht (h lo _ M hk H locs ls hP hS hl)
/-- the block's end: what follows has rows of its own -/
def c_i2l (kt : Kt) : Kt := fun lo st M => match st with
  | .inl (.inl z) :: r => iR z ∧ kt lo (zl z :: r) M
  | _ => False
theorem r_i2l {x : Xc} {l0 : Launch} {b : ByteArray} {own : String} {nl dd : Nat} {pc : Nat} {kt : Kt} (C : Cx x l0 b own nl dd) (hd : decode b pc = .ok (.i2l, 1)) (h : Ok x (pc + 1) kt) : Ok x pc (c_i2l kt) := by
  intro lo st M hk
  obtain ⟨p, l, e, R, s, m, args, below, meth, c, ⟨cells, slots⟩, Q, D, ad, cA, A, nL⟩ := x
  obtain ⟨hx, hb, hml, hown, hts, hK, hD, hA, hc1, hc2, hlk, hnl, hll, hrm, hN⟩ := C
  match st, hk with
  | .inl (.inl z) :: r, ⟨hz, hk⟩ =>
    intro H locs ls hP hS hl
    exact lv_i2l hx hb hd (Int64.toInt_inj.mp (by rw [Int32.toInt_toInt64, iR_to hz, lR_to ⟨by omega, by omega⟩])) (h lo _ M hk H locs ls hP hS hl)
def c_l2i (kt : Kt) : Kt := fun lo st M => match st with
  | .inl (.inr z) :: r => lR z ∧ iR z ∧ kt lo (zi z :: r) M
  | _ => False
theorem r_l2i {x : Xc} {l0 : Launch} {b : ByteArray} {own : String} {nl dd : Nat} {pc : Nat} {kt : Kt} (C : Cx x l0 b own nl dd) (hd : decode b pc = .ok (.l2i, 1)) (h : Ok x (pc + 1) kt) : Ok x pc (c_l2i kt) := by
  intro lo st M hk
  obtain ⟨p, l, e, R, s, m, args, below, meth, c, ⟨cells, slots⟩, Q, D, ad, cA, A, nL⟩ := x
  obtain ⟨hx, hb, hml, hown, hts, hK, hD, hA, hc1, hc2, hlk, hnl, hll, hrm, hN⟩ := C
  match st, hk with
  | .inl (.inr z) :: r, ⟨hz, hz2, hk⟩ =>
    intro H locs ls hP hS hl
    exact lv_l2i hx hb hd Int64.toInt32_ofInt (h lo _ M hk H locs ls hP hS hl)
/-- a quotient of what is not below 0 -/
def c_idiv (kt : Kt) : Kt := fun lo st M => match st with
  | .inl (.inl y) :: .inl (.inl z) :: r => (0 ≤ z ∧ z < 2147483648) ∧ (0 < y ∧ y < 2147483648) ∧ kt lo (zi (z / y) :: r) M
  | _ => False
theorem r_idiv {x : Xc} {l0 : Launch} {b : ByteArray} {own : String} {nl dd : Nat} {pc : Nat} {kt : Kt} (C : Cx x l0 b own nl dd) (hd : decode b pc = .ok (.idiv, 1)) (h : Ok x (pc + 1) kt) : Ok x pc (c_idiv kt) := by
  intro lo st M hk
  obtain ⟨p, l, e, R, s, m, args, below, meth, c, ⟨cells, slots⟩, Q, D, ad, cA, A, nL⟩ := x
  obtain ⟨hx, hb, hml, hown, hts, hK, hD, hA, hc1, hc2, hlk, hnl, hll, hrm, hN⟩ := C
  match st, hk with
  | .inl (.inl y) :: .inl (.inl z) :: r, ⟨hz, hy, hk⟩ =>
    intro H locs ls hP hS hl
    have q := h lo _ M hk H locs ls hP hS hl
    have e1 : Int32.ofInt (z / y) = Int32.ofInt z / Int32.ofInt y := by
      rw [← Int.tdiv_eq_ediv_of_nonneg hz.1]
      exact Int32.ofInt_tdiv (by have : Int32.minValue.toInt = -2147483648 := rfl; omega) (by have : Int32.maxValue.toInt = 2147483647 := rfl; omega) (by have : Int32.minValue.toInt = -2147483648 := rfl; omega) (by have : Int32.maxValue.toInt = 2147483647 := rfl; omega)
    simp only [List.map, cv, e1] at q
    refine lv_idiv hx hb hd (fun e => ?_) q
    have := (iR_eq (a := y) (b := 0) ⟨by omega, by omega⟩ ⟨by decide, by decide⟩).mp e
    omega
def c_ldiv (kt : Kt) : Kt := fun lo st M => match st with
  | .inl (.inr y) :: .inl (.inr z) :: r => (0 ≤ z ∧ z < 9223372036854775808) ∧ (0 < y ∧ y < 9223372036854775808) ∧ kt lo (zl (z / y) :: r) M
  | _ => False
theorem ldiv_eq {y z : Int} (hz : 0 ≤ z ∧ z < 9223372036854775808) (hy : 0 < y ∧ y < 9223372036854775808) : Int64.ofInt (z / y) = Int64.ofInt z / Int64.ofInt y := by
  rw [← Int.tdiv_eq_ediv_of_nonneg hz.1]
  exact Int64.ofInt_tdiv (by have : Int64.minValue.toInt = -9223372036854775808 := rfl; omega) (by have : Int64.maxValue.toInt = 9223372036854775807 := rfl; omega) (by have : Int64.minValue.toInt = -9223372036854775808 := rfl; omega) (by have : Int64.maxValue.toInt = 9223372036854775807 := rfl; omega)
theorem r_ldiv {x : Xc} {l0 : Launch} {b : ByteArray} {own : String} {nl dd : Nat} {pc : Nat} {kt : Kt} (C : Cx x l0 b own nl dd) (hd : decode b pc = .ok (.ldiv, 1)) (h : Ok x (pc + 1) kt) : Ok x pc (c_ldiv kt) := by
  intro lo st M hk
  obtain ⟨p, l, e, R, s, m, args, below, meth, c, ⟨cells, slots⟩, Q, D, ad, cA, A, nL⟩ := x
  obtain ⟨hx, hb, hml, hown, hts, hK, hD, hA, hc1, hc2, hlk, hnl, hll, hrm, hN⟩ := C
  match st, hk with
  | .inl (.inr y) :: .inl (.inr z) :: r, ⟨hz, hy, hk⟩ =>
    intro H locs ls hP hS hl
    have q := h lo _ M hk H locs ls hP hS hl
    simp only [List.map, cv, ldiv_eq hz hy] at q
    refine lv_ldiv hx hb hd (fun e => ?_) q
    have := (lR_eq (a := y) (b := 0) ⟨by omega, by omega⟩ ⟨by decide, by decide⟩).mp e
    omega
def c_lrem (kt : Kt) : Kt := fun lo st M => match st with
  | .inl (.inr y) :: .inl (.inr z) :: r => (0 ≤ z ∧ z < 9223372036854775808) ∧ (0 < y ∧ y < 9223372036854775808) ∧ kt lo (zl (z % y) :: r) M
  | _ => False
theorem r_lrem {x : Xc} {l0 : Launch} {b : ByteArray} {own : String} {nl dd : Nat} {pc : Nat} {kt : Kt} (C : Cx x l0 b own nl dd) (hd : decode b pc = .ok (.lrem, 1)) (h : Ok x (pc + 1) kt) : Ok x pc (c_lrem kt) := by
  intro lo st M hk
  obtain ⟨p, l, e, R, s, m, args, below, meth, c, ⟨cells, slots⟩, Q, D, ad, cA, A, nL⟩ := x
  obtain ⟨hx, hb, hml, hown, hts, hK, hD, hA, hc1, hc2, hlk, hnl, hll, hrm, hN⟩ := C
  match st, hk with
  | .inl (.inr y) :: .inl (.inr z) :: r, ⟨hz, hy, hk⟩ =>
    intro H locs ls hP hS hl
    have q := h lo _ M hk H locs ls hP hS hl
    have e1 : Int64.ofInt (z % y) = Int64.ofInt z - Int64.ofInt z / Int64.ofInt y * Int64.ofInt y := by
      rw [← ldiv_eq hz hy, ← Int64.ofInt_mul, ← Int64.ofInt_sub]
      congr 1
      rw [Int.emod_def, Int.mul_comm]
    simp only [List.map, cv, e1] at q
    refine lv_lrem hx hb hd (fun e => ?_) q
    have := (lR_eq (a := y) (b := 0) ⟨by omega, by omega⟩ ⟨by decide, by decide⟩).mp e
    omega
def c_icmp_eq (k1 k2 : Kt) : Kt := fun lo st M => match st with
  | .inl (.inl y) :: .inl (.inl z) :: r => iR z ∧ iR y ∧ (z = y → k1 lo r M) ∧ (¬ (z = y) → k2 lo r M)
  | _ => False
theorem r_icmp_eq {x : Xc} {l0 : Launch} {b : ByteArray} {own : String} {nl dd : Nat} {pc : Nat} {k1 k2 : Kt} {off : Int} {tgt : Nat} (C : Cx x l0 b own nl dd) (hd : decode b pc = .ok (.if_icmp .eq off, 3)) (ht : (pc : Int) + off = (tgt : Int)) (h1 : Ok x tgt k1) (h2 : Ok x (pc + 3) k2) : Ok x pc (c_icmp_eq k1 k2) := by
  intro lo st M hk
  obtain ⟨p, l, e, R, s, m, args, below, meth, c, ⟨cells, slots⟩, Q, D, ad, cA, A, nL⟩ := x
  obtain ⟨hx, hb, hml, hown, hts, hK, hD, hA, hc1, hc2, hlk, hnl, hll, hrm, hN⟩ := C
  match st, hk with
  | .inl (.inl y) :: .inl (.inl z) :: r, ⟨hz, hy, g1, g2⟩ =>
    intro H locs ls hP hS hl
    exact lv_icmp_eq hx hb hd ht (fun q => h1 lo _ M (g1 ((iR_eq hz hy).mp q)) H locs ls hP hS hl) (fun q => h2 lo _ M (g2 (fun z => q ((iR_eq hz hy).mpr z))) H locs ls hP hS hl)
def c_if_eq (k1 k2 : Kt) : Kt := fun lo st M => match st with
  | .inl (.inl z) :: r => iR z ∧ (z = 0 → k1 lo r M) ∧ (¬ (z = 0) → k2 lo r M)
  | _ => False
theorem r_if_eq {x : Xc} {l0 : Launch} {b : ByteArray} {own : String} {nl dd : Nat} {pc : Nat} {k1 k2 : Kt} {off : Int} {tgt : Nat} (C : Cx x l0 b own nl dd) (hd : decode b pc = .ok (.ifCond .eq off, 3)) (ht : (pc : Int) + off = (tgt : Int)) (h1 : Ok x tgt k1) (h2 : Ok x (pc + 3) k2) : Ok x pc (c_if_eq k1 k2) := by
  intro lo st M hk
  obtain ⟨p, l, e, R, s, m, args, below, meth, c, ⟨cells, slots⟩, Q, D, ad, cA, A, nL⟩ := x
  obtain ⟨hx, hb, hml, hown, hts, hK, hD, hA, hc1, hc2, hlk, hnl, hll, hrm, hN⟩ := C
  match st, hk with
  | .inl (.inl z) :: r, ⟨hz, g1, g2⟩ =>
    intro H locs ls hP hS hl
    exact lv_if_eq hx hb hd ht (fun q => h1 lo _ M (g1 ((iR_eq hz iR0).mp q)) H locs ls hP hS hl) (fun q => h2 lo _ M (g2 (fun z => q ((iR_eq hz iR0).mpr z))) H locs ls hP hS hl)
def c_icmp_lt (k1 k2 : Kt) : Kt := fun lo st M => match st with
  | .inl (.inl y) :: .inl (.inl z) :: r => iR z ∧ iR y ∧ (z < y → k1 lo r M) ∧ (¬ (z < y) → k2 lo r M)
  | _ => False
theorem r_icmp_lt {x : Xc} {l0 : Launch} {b : ByteArray} {own : String} {nl dd : Nat} {pc : Nat} {k1 k2 : Kt} {off : Int} {tgt : Nat} (C : Cx x l0 b own nl dd) (hd : decode b pc = .ok (.if_icmp .lt off, 3)) (ht : (pc : Int) + off = (tgt : Int)) (h1 : Ok x tgt k1) (h2 : Ok x (pc + 3) k2) : Ok x pc (c_icmp_lt k1 k2) := by
  intro lo st M hk
  obtain ⟨p, l, e, R, s, m, args, below, meth, c, ⟨cells, slots⟩, Q, D, ad, cA, A, nL⟩ := x
  obtain ⟨hx, hb, hml, hown, hts, hK, hD, hA, hc1, hc2, hlk, hnl, hll, hrm, hN⟩ := C
  match st, hk with
  | .inl (.inl y) :: .inl (.inl z) :: r, ⟨hz, hy, g1, g2⟩ =>
    intro H locs ls hP hS hl
    exact lv_icmp_lt hx hb hd ht (fun q => h1 lo _ M (g1 ((iR_lt hz hy).mp q)) H locs ls hP hS hl) (fun q => h2 lo _ M (g2 (fun z => q ((iR_lt hz hy).mpr z))) H locs ls hP hS hl)
def c_if_lt (k1 k2 : Kt) : Kt := fun lo st M => match st with
  | .inl (.inl z) :: r => iR z ∧ (z < 0 → k1 lo r M) ∧ (¬ (z < 0) → k2 lo r M)
  | _ => False
theorem r_if_lt {x : Xc} {l0 : Launch} {b : ByteArray} {own : String} {nl dd : Nat} {pc : Nat} {k1 k2 : Kt} {off : Int} {tgt : Nat} (C : Cx x l0 b own nl dd) (hd : decode b pc = .ok (.ifCond .lt off, 3)) (ht : (pc : Int) + off = (tgt : Int)) (h1 : Ok x tgt k1) (h2 : Ok x (pc + 3) k2) : Ok x pc (c_if_lt k1 k2) := by
  intro lo st M hk
  obtain ⟨p, l, e, R, s, m, args, below, meth, c, ⟨cells, slots⟩, Q, D, ad, cA, A, nL⟩ := x
  obtain ⟨hx, hb, hml, hown, hts, hK, hD, hA, hc1, hc2, hlk, hnl, hll, hrm, hN⟩ := C
  match st, hk with
  | .inl (.inl z) :: r, ⟨hz, g1, g2⟩ =>
    intro H locs ls hP hS hl
    exact lv_if_lt hx hb hd ht (fun q => h1 lo _ M (g1 ((iR_lt hz iR0).mp q)) H locs ls hP hS hl) (fun q => h2 lo _ M (g2 (fun z => q ((iR_lt hz iR0).mpr z))) H locs ls hP hS hl)
def c_icmp_ge (k1 k2 : Kt) : Kt := fun lo st M => match st with
  | .inl (.inl y) :: .inl (.inl z) :: r => iR z ∧ iR y ∧ (y ≤ z → k1 lo r M) ∧ (¬ (y ≤ z) → k2 lo r M)
  | _ => False
theorem r_icmp_ge {x : Xc} {l0 : Launch} {b : ByteArray} {own : String} {nl dd : Nat} {pc : Nat} {k1 k2 : Kt} {off : Int} {tgt : Nat} (C : Cx x l0 b own nl dd) (hd : decode b pc = .ok (.if_icmp .ge off, 3)) (ht : (pc : Int) + off = (tgt : Int)) (h1 : Ok x tgt k1) (h2 : Ok x (pc + 3) k2) : Ok x pc (c_icmp_ge k1 k2) := by
  intro lo st M hk
  obtain ⟨p, l, e, R, s, m, args, below, meth, c, ⟨cells, slots⟩, Q, D, ad, cA, A, nL⟩ := x
  obtain ⟨hx, hb, hml, hown, hts, hK, hD, hA, hc1, hc2, hlk, hnl, hll, hrm, hN⟩ := C
  match st, hk with
  | .inl (.inl y) :: .inl (.inl z) :: r, ⟨hz, hy, g1, g2⟩ =>
    intro H locs ls hP hS hl
    exact lv_icmp_ge hx hb hd ht (fun q => h1 lo _ M (g1 ((iR_le hy hz).mp q)) H locs ls hP hS hl) (fun q => h2 lo _ M (g2 (fun z => q ((iR_le hy hz).mpr z))) H locs ls hP hS hl)
def c_if_ge (k1 k2 : Kt) : Kt := fun lo st M => match st with
  | .inl (.inl z) :: r => iR z ∧ (0 ≤ z → k1 lo r M) ∧ (¬ (0 ≤ z) → k2 lo r M)
  | _ => False
theorem r_if_ge {x : Xc} {l0 : Launch} {b : ByteArray} {own : String} {nl dd : Nat} {pc : Nat} {k1 k2 : Kt} {off : Int} {tgt : Nat} (C : Cx x l0 b own nl dd) (hd : decode b pc = .ok (.ifCond .ge off, 3)) (ht : (pc : Int) + off = (tgt : Int)) (h1 : Ok x tgt k1) (h2 : Ok x (pc + 3) k2) : Ok x pc (c_if_ge k1 k2) := by
  intro lo st M hk
  obtain ⟨p, l, e, R, s, m, args, below, meth, c, ⟨cells, slots⟩, Q, D, ad, cA, A, nL⟩ := x
  obtain ⟨hx, hb, hml, hown, hts, hK, hD, hA, hc1, hc2, hlk, hnl, hll, hrm, hN⟩ := C
  match st, hk with
  | .inl (.inl z) :: r, ⟨hz, g1, g2⟩ =>
    intro H locs ls hP hS hl
    exact lv_if_ge hx hb hd ht (fun q => h1 lo _ M (g1 ((iR_le iR0 hz).mp q)) H locs ls hP hS hl) (fun q => h2 lo _ M (g2 (fun z => q ((iR_le iR0 hz).mpr z))) H locs ls hP hS hl)
def c_icmp_gt (k1 k2 : Kt) : Kt := fun lo st M => match st with
  | .inl (.inl y) :: .inl (.inl z) :: r => iR z ∧ iR y ∧ (y < z → k1 lo r M) ∧ (¬ (y < z) → k2 lo r M)
  | _ => False
theorem r_icmp_gt {x : Xc} {l0 : Launch} {b : ByteArray} {own : String} {nl dd : Nat} {pc : Nat} {k1 k2 : Kt} {off : Int} {tgt : Nat} (C : Cx x l0 b own nl dd) (hd : decode b pc = .ok (.if_icmp .gt off, 3)) (ht : (pc : Int) + off = (tgt : Int)) (h1 : Ok x tgt k1) (h2 : Ok x (pc + 3) k2) : Ok x pc (c_icmp_gt k1 k2) := by
  intro lo st M hk
  obtain ⟨p, l, e, R, s, m, args, below, meth, c, ⟨cells, slots⟩, Q, D, ad, cA, A, nL⟩ := x
  obtain ⟨hx, hb, hml, hown, hts, hK, hD, hA, hc1, hc2, hlk, hnl, hll, hrm, hN⟩ := C
  match st, hk with
  | .inl (.inl y) :: .inl (.inl z) :: r, ⟨hz, hy, g1, g2⟩ =>
    intro H locs ls hP hS hl
    exact lv_icmp_gt hx hb hd ht (fun q => h1 lo _ M (g1 ((iR_lt hy hz).mp q)) H locs ls hP hS hl) (fun q => h2 lo _ M (g2 (fun z => q ((iR_lt hy hz).mpr z))) H locs ls hP hS hl)
def c_if_gt (k1 k2 : Kt) : Kt := fun lo st M => match st with
  | .inl (.inl z) :: r => iR z ∧ (0 < z → k1 lo r M) ∧ (¬ (0 < z) → k2 lo r M)
  | _ => False
theorem r_if_gt {x : Xc} {l0 : Launch} {b : ByteArray} {own : String} {nl dd : Nat} {pc : Nat} {k1 k2 : Kt} {off : Int} {tgt : Nat} (C : Cx x l0 b own nl dd) (hd : decode b pc = .ok (.ifCond .gt off, 3)) (ht : (pc : Int) + off = (tgt : Int)) (h1 : Ok x tgt k1) (h2 : Ok x (pc + 3) k2) : Ok x pc (c_if_gt k1 k2) := by
  intro lo st M hk
  obtain ⟨p, l, e, R, s, m, args, below, meth, c, ⟨cells, slots⟩, Q, D, ad, cA, A, nL⟩ := x
  obtain ⟨hx, hb, hml, hown, hts, hK, hD, hA, hc1, hc2, hlk, hnl, hll, hrm, hN⟩ := C
  match st, hk with
  | .inl (.inl z) :: r, ⟨hz, g1, g2⟩ =>
    intro H locs ls hP hS hl
    exact lv_if_gt hx hb hd ht (fun q => h1 lo _ M (g1 ((iR_lt iR0 hz).mp q)) H locs ls hP hS hl) (fun q => h2 lo _ M (g2 (fun z => q ((iR_lt iR0 hz).mpr z))) H locs ls hP hS hl)
def c_icmp_le (k1 k2 : Kt) : Kt := fun lo st M => match st with
  | .inl (.inl y) :: .inl (.inl z) :: r => iR z ∧ iR y ∧ (z ≤ y → k1 lo r M) ∧ (¬ (z ≤ y) → k2 lo r M)
  | _ => False
theorem r_icmp_le {x : Xc} {l0 : Launch} {b : ByteArray} {own : String} {nl dd : Nat} {pc : Nat} {k1 k2 : Kt} {off : Int} {tgt : Nat} (C : Cx x l0 b own nl dd) (hd : decode b pc = .ok (.if_icmp .le off, 3)) (ht : (pc : Int) + off = (tgt : Int)) (h1 : Ok x tgt k1) (h2 : Ok x (pc + 3) k2) : Ok x pc (c_icmp_le k1 k2) := by
  intro lo st M hk
  obtain ⟨p, l, e, R, s, m, args, below, meth, c, ⟨cells, slots⟩, Q, D, ad, cA, A, nL⟩ := x
  obtain ⟨hx, hb, hml, hown, hts, hK, hD, hA, hc1, hc2, hlk, hnl, hll, hrm, hN⟩ := C
  match st, hk with
  | .inl (.inl y) :: .inl (.inl z) :: r, ⟨hz, hy, g1, g2⟩ =>
    intro H locs ls hP hS hl
    exact lv_icmp_le hx hb hd ht (fun q => h1 lo _ M (g1 ((iR_le hz hy).mp q)) H locs ls hP hS hl) (fun q => h2 lo _ M (g2 (fun z => q ((iR_le hz hy).mpr z))) H locs ls hP hS hl)
def c_if_le (k1 k2 : Kt) : Kt := fun lo st M => match st with
  | .inl (.inl z) :: r => iR z ∧ (z ≤ 0 → k1 lo r M) ∧ (¬ (z ≤ 0) → k2 lo r M)
  | _ => False
theorem r_if_le {x : Xc} {l0 : Launch} {b : ByteArray} {own : String} {nl dd : Nat} {pc : Nat} {k1 k2 : Kt} {off : Int} {tgt : Nat} (C : Cx x l0 b own nl dd) (hd : decode b pc = .ok (.ifCond .le off, 3)) (ht : (pc : Int) + off = (tgt : Int)) (h1 : Ok x tgt k1) (h2 : Ok x (pc + 3) k2) : Ok x pc (c_if_le k1 k2) := by
  intro lo st M hk
  obtain ⟨p, l, e, R, s, m, args, below, meth, c, ⟨cells, slots⟩, Q, D, ad, cA, A, nL⟩ := x
  obtain ⟨hx, hb, hml, hown, hts, hK, hD, hA, hc1, hc2, hlk, hnl, hll, hrm, hN⟩ := C
  match st, hk with
  | .inl (.inl z) :: r, ⟨hz, g1, g2⟩ =>
    intro H locs ls hP hS hl
    exact lv_if_le hx hb hd ht (fun q => h1 lo _ M (g1 ((iR_le hz iR0).mp q)) H locs ls hP hS hl) (fun q => h2 lo _ M (g2 (fun z => q ((iR_le hz iR0).mpr z))) H locs ls hP hS hl)
def c_icmp_ne (k1 k2 : Kt) : Kt := fun lo st M => match st with
  | .inl (.inl y) :: .inl (.inl z) :: r => iR z ∧ iR y ∧ (¬ z = y → k1 lo r M) ∧ (z = y → k2 lo r M)
  | _ => False
theorem r_icmp_ne {x : Xc} {l0 : Launch} {b : ByteArray} {own : String} {nl dd : Nat} {pc : Nat} {k1 k2 : Kt} {off : Int} {tgt : Nat} (C : Cx x l0 b own nl dd) (hd : decode b pc = .ok (.if_icmp .ne off, 3)) (ht : (pc : Int) + off = (tgt : Int)) (h1 : Ok x tgt k1) (h2 : Ok x (pc + 3) k2) : Ok x pc (c_icmp_ne k1 k2) := by
  intro lo st M hk
  obtain ⟨p, l, e, R, s, m, args, below, meth, c, ⟨cells, slots⟩, Q, D, ad, cA, A, nL⟩ := x
  obtain ⟨hx, hb, hml, hown, hts, hK, hD, hA, hc1, hc2, hlk, hnl, hll, hrm, hN⟩ := C
  match st, hk with
  | .inl (.inl y) :: .inl (.inl z) :: r, ⟨hz, hy, g1, g2⟩ =>
    intro H locs ls hP hS hl
    exact lv_icmp_ne hx hb hd ht (fun q => h1 lo _ M (g1 (fun z => q ((iR_eq hz hy).mpr z))) H locs ls hP hS hl) (fun q => h2 lo _ M (g2 ((iR_eq hz hy).mp q)) H locs ls hP hS hl)
def c_if_ne (k1 k2 : Kt) : Kt := fun lo st M => match st with
  | .inl (.inl z) :: r => iR z ∧ (¬ z = 0 → k1 lo r M) ∧ (z = 0 → k2 lo r M)
  | _ => False
theorem r_if_ne {x : Xc} {l0 : Launch} {b : ByteArray} {own : String} {nl dd : Nat} {pc : Nat} {k1 k2 : Kt} {off : Int} {tgt : Nat} (C : Cx x l0 b own nl dd) (hd : decode b pc = .ok (.ifCond .ne off, 3)) (ht : (pc : Int) + off = (tgt : Int)) (h1 : Ok x tgt k1) (h2 : Ok x (pc + 3) k2) : Ok x pc (c_if_ne k1 k2) := by
  intro lo st M hk
  obtain ⟨p, l, e, R, s, m, args, below, meth, c, ⟨cells, slots⟩, Q, D, ad, cA, A, nL⟩ := x
  obtain ⟨hx, hb, hml, hown, hts, hK, hD, hA, hc1, hc2, hlk, hnl, hll, hrm, hN⟩ := C
  match st, hk with
  | .inl (.inl z) :: r, ⟨hz, g1, g2⟩ =>
    intro H locs ls hP hS hl
    exact lv_if_ne hx hb hd ht (fun q => h1 lo _ M (g1 (fun z => q ((iR_eq hz iR0).mpr z))) H locs ls hP hS hl) (fun q => h2 lo _ M (g2 ((iR_eq hz iR0).mp q)) H locs ls hP hS hl)
def c_lcmp_eq (k1 k2 : Kt) : Kt := fun lo st M => match st with
  | .inl (.inr y) :: .inl (.inr z) :: r => lR z ∧ lR y ∧ (z = y → k1 lo r M) ∧ (¬ (z = y) → k2 lo r M)
  | _ => False
theorem r_lcmp_eq {x : Xc} {l0 : Launch} {b : ByteArray} {own : String} {nl dd : Nat} {pc : Nat} {k1 k2 : Kt} {off : Int} {tgt : Nat} (C : Cx x l0 b own nl dd) (hd0 : decode b pc = .ok (.lcmp, 1)) (hd : decode b (pc + 1) = .ok (.ifCond .eq off, 3)) (ht : ((pc + 1 : Nat) : Int) + off = (tgt : Int)) (h1 : Ok x tgt k1) (h2 : Ok x (pc + 1 + 3) k2) : Ok x pc (c_lcmp_eq k1 k2) := by
  intro lo st M hk
  obtain ⟨p, l, e, R, s, m, args, below, meth, c, ⟨cells, slots⟩, Q, D, ad, cA, A, nL⟩ := x
  obtain ⟨hx, hb, hml, hown, hts, hK, hD, hA, hc1, hc2, hlk, hnl, hll, hrm, hN⟩ := C
  match st, hk with
  | .inl (.inr y) :: .inl (.inr z) :: r, ⟨hz, hy, g1, g2⟩ =>
    intro H locs ls hP hS hl
    refine W.lcmp hx hb hd0 ?_
    exact lv_if_eq hx hb hd ht (fun q => h1 lo _ M (g1 ((lR_eq hz hy).mp ((lg_cmp_eq _ _).mp q))) H locs ls hP hS hl) (fun q => h2 lo _ M (g2 (fun z => q ((lg_cmp_eq _ _).mpr ((lR_eq hz hy).mpr z)))) H locs ls hP hS hl)
def c_lraw_eq (k1 k2 : Kt) : Kt := fun lo st M => match st with
  | .inl (.inr y) :: .inl (.inr z) :: r => (Int64.ofInt z = Int64.ofInt y → k1 lo r M) ∧ (¬ (Int64.ofInt z = Int64.ofInt y) → k2 lo r M)
  | _ => False
theorem r_lraw_eq {x : Xc} {l0 : Launch} {b : ByteArray} {own : String} {nl dd : Nat} {pc : Nat} {k1 k2 : Kt} {off : Int} {tgt : Nat} (C : Cx x l0 b own nl dd) (hd0 : decode b pc = .ok (.lcmp, 1)) (hd : decode b (pc + 1) = .ok (.ifCond .eq off, 3)) (ht : ((pc + 1 : Nat) : Int) + off = (tgt : Int)) (h1 : Ok x tgt k1) (h2 : Ok x (pc + 1 + 3) k2) : Ok x pc (c_lraw_eq k1 k2) := by
  intro lo st M hk
  obtain ⟨p, l, e, R, s, m, args, below, meth, c, ⟨cells, slots⟩, Q, D, ad, cA, A, nL⟩ := x
  obtain ⟨hx, hb, hml, hown, hts, hK, hD, hA, hc1, hc2, hlk, hnl, hll, hrm, hN⟩ := C
  match st, hk with
  | .inl (.inr y) :: .inl (.inr z) :: r, ⟨g1, g2⟩ =>
    intro H locs ls hP hS hl
    refine W.lcmp hx hb hd0 ?_
    exact lv_if_eq hx hb hd ht (fun q => h1 lo _ M (g1 ((lg_cmp_eq _ _).mp q)) H locs ls hP hS hl) (fun q => h2 lo _ M (g2 (fun z => q ((lg_cmp_eq _ _).mpr z))) H locs ls hP hS hl)
def c_lcmp_lt (k1 k2 : Kt) : Kt := fun lo st M => match st with
  | .inl (.inr y) :: .inl (.inr z) :: r => lR z ∧ lR y ∧ (z < y → k1 lo r M) ∧ (¬ (z < y) → k2 lo r M)
  | _ => False
theorem r_lcmp_lt {x : Xc} {l0 : Launch} {b : ByteArray} {own : String} {nl dd : Nat} {pc : Nat} {k1 k2 : Kt} {off : Int} {tgt : Nat} (C : Cx x l0 b own nl dd) (hd0 : decode b pc = .ok (.lcmp, 1)) (hd : decode b (pc + 1) = .ok (.ifCond .lt off, 3)) (ht : ((pc + 1 : Nat) : Int) + off = (tgt : Int)) (h1 : Ok x tgt k1) (h2 : Ok x (pc + 1 + 3) k2) : Ok x pc (c_lcmp_lt k1 k2) := by
  intro lo st M hk
  obtain ⟨p, l, e, R, s, m, args, below, meth, c, ⟨cells, slots⟩, Q, D, ad, cA, A, nL⟩ := x
  obtain ⟨hx, hb, hml, hown, hts, hK, hD, hA, hc1, hc2, hlk, hnl, hll, hrm, hN⟩ := C
  match st, hk with
  | .inl (.inr y) :: .inl (.inr z) :: r, ⟨hz, hy, g1, g2⟩ =>
    intro H locs ls hP hS hl
    refine W.lcmp hx hb hd0 ?_
    exact lv_if_lt hx hb hd ht (fun q => h1 lo _ M (g1 ((lR_lt hz hy).mp ((lg_cmp_lt _ _).mp q))) H locs ls hP hS hl) (fun q => h2 lo _ M (g2 (fun z => q ((lg_cmp_lt _ _).mpr ((lR_lt hz hy).mpr z)))) H locs ls hP hS hl)
def c_lraw_lt (k1 k2 : Kt) : Kt := fun lo st M => match st with
  | .inl (.inr y) :: .inl (.inr z) :: r => (Int64.ofInt z < Int64.ofInt y → k1 lo r M) ∧ (¬ (Int64.ofInt z < Int64.ofInt y) → k2 lo r M)
  | _ => False
theorem r_lraw_lt {x : Xc} {l0 : Launch} {b : ByteArray} {own : String} {nl dd : Nat} {pc : Nat} {k1 k2 : Kt} {off : Int} {tgt : Nat} (C : Cx x l0 b own nl dd) (hd0 : decode b pc = .ok (.lcmp, 1)) (hd : decode b (pc + 1) = .ok (.ifCond .lt off, 3)) (ht : ((pc + 1 : Nat) : Int) + off = (tgt : Int)) (h1 : Ok x tgt k1) (h2 : Ok x (pc + 1 + 3) k2) : Ok x pc (c_lraw_lt k1 k2) := by
  intro lo st M hk
  obtain ⟨p, l, e, R, s, m, args, below, meth, c, ⟨cells, slots⟩, Q, D, ad, cA, A, nL⟩ := x
  obtain ⟨hx, hb, hml, hown, hts, hK, hD, hA, hc1, hc2, hlk, hnl, hll, hrm, hN⟩ := C
  match st, hk with
  | .inl (.inr y) :: .inl (.inr z) :: r, ⟨g1, g2⟩ =>
    intro H locs ls hP hS hl
    refine W.lcmp hx hb hd0 ?_
    exact lv_if_lt hx hb hd ht (fun q => h1 lo _ M (g1 ((lg_cmp_lt _ _).mp q)) H locs ls hP hS hl) (fun q => h2 lo _ M (g2 (fun z => q ((lg_cmp_lt _ _).mpr z))) H locs ls hP hS hl)
def c_lcmp_ge (k1 k2 : Kt) : Kt := fun lo st M => match st with
  | .inl (.inr y) :: .inl (.inr z) :: r => lR z ∧ lR y ∧ (y ≤ z → k1 lo r M) ∧ (¬ (y ≤ z) → k2 lo r M)
  | _ => False
theorem r_lcmp_ge {x : Xc} {l0 : Launch} {b : ByteArray} {own : String} {nl dd : Nat} {pc : Nat} {k1 k2 : Kt} {off : Int} {tgt : Nat} (C : Cx x l0 b own nl dd) (hd0 : decode b pc = .ok (.lcmp, 1)) (hd : decode b (pc + 1) = .ok (.ifCond .ge off, 3)) (ht : ((pc + 1 : Nat) : Int) + off = (tgt : Int)) (h1 : Ok x tgt k1) (h2 : Ok x (pc + 1 + 3) k2) : Ok x pc (c_lcmp_ge k1 k2) := by
  intro lo st M hk
  obtain ⟨p, l, e, R, s, m, args, below, meth, c, ⟨cells, slots⟩, Q, D, ad, cA, A, nL⟩ := x
  obtain ⟨hx, hb, hml, hown, hts, hK, hD, hA, hc1, hc2, hlk, hnl, hll, hrm, hN⟩ := C
  match st, hk with
  | .inl (.inr y) :: .inl (.inr z) :: r, ⟨hz, hy, g1, g2⟩ =>
    intro H locs ls hP hS hl
    refine W.lcmp hx hb hd0 ?_
    exact lv_if_ge hx hb hd ht (fun q => h1 lo _ M (g1 ((lR_le hy hz).mp ((lg_cmp_ge _ _).mp q))) H locs ls hP hS hl) (fun q => h2 lo _ M (g2 (fun z => q ((lg_cmp_ge _ _).mpr ((lR_le hy hz).mpr z)))) H locs ls hP hS hl)
def c_lraw_ge (k1 k2 : Kt) : Kt := fun lo st M => match st with
  | .inl (.inr y) :: .inl (.inr z) :: r => (Int64.ofInt y ≤ Int64.ofInt z → k1 lo r M) ∧ (¬ (Int64.ofInt y ≤ Int64.ofInt z) → k2 lo r M)
  | _ => False
theorem r_lraw_ge {x : Xc} {l0 : Launch} {b : ByteArray} {own : String} {nl dd : Nat} {pc : Nat} {k1 k2 : Kt} {off : Int} {tgt : Nat} (C : Cx x l0 b own nl dd) (hd0 : decode b pc = .ok (.lcmp, 1)) (hd : decode b (pc + 1) = .ok (.ifCond .ge off, 3)) (ht : ((pc + 1 : Nat) : Int) + off = (tgt : Int)) (h1 : Ok x tgt k1) (h2 : Ok x (pc + 1 + 3) k2) : Ok x pc (c_lraw_ge k1 k2) := by
  intro lo st M hk
  obtain ⟨p, l, e, R, s, m, args, below, meth, c, ⟨cells, slots⟩, Q, D, ad, cA, A, nL⟩ := x
  obtain ⟨hx, hb, hml, hown, hts, hK, hD, hA, hc1, hc2, hlk, hnl, hll, hrm, hN⟩ := C
  match st, hk with
  | .inl (.inr y) :: .inl (.inr z) :: r, ⟨g1, g2⟩ =>
    intro H locs ls hP hS hl
    refine W.lcmp hx hb hd0 ?_
    exact lv_if_ge hx hb hd ht (fun q => h1 lo _ M (g1 ((lg_cmp_ge _ _).mp q)) H locs ls hP hS hl) (fun q => h2 lo _ M (g2 (fun z => q ((lg_cmp_ge _ _).mpr z))) H locs ls hP hS hl)
def c_lcmp_gt (k1 k2 : Kt) : Kt := fun lo st M => match st with
  | .inl (.inr y) :: .inl (.inr z) :: r => lR z ∧ lR y ∧ (y < z → k1 lo r M) ∧ (¬ (y < z) → k2 lo r M)
  | _ => False
theorem r_lcmp_gt {x : Xc} {l0 : Launch} {b : ByteArray} {own : String} {nl dd : Nat} {pc : Nat} {k1 k2 : Kt} {off : Int} {tgt : Nat} (C : Cx x l0 b own nl dd) (hd0 : decode b pc = .ok (.lcmp, 1)) (hd : decode b (pc + 1) = .ok (.ifCond .gt off, 3)) (ht : ((pc + 1 : Nat) : Int) + off = (tgt : Int)) (h1 : Ok x tgt k1) (h2 : Ok x (pc + 1 + 3) k2) : Ok x pc (c_lcmp_gt k1 k2) := by
  intro lo st M hk
  obtain ⟨p, l, e, R, s, m, args, below, meth, c, ⟨cells, slots⟩, Q, D, ad, cA, A, nL⟩ := x
  obtain ⟨hx, hb, hml, hown, hts, hK, hD, hA, hc1, hc2, hlk, hnl, hll, hrm, hN⟩ := C
  match st, hk with
  | .inl (.inr y) :: .inl (.inr z) :: r, ⟨hz, hy, g1, g2⟩ =>
    intro H locs ls hP hS hl
    refine W.lcmp hx hb hd0 ?_
    exact lv_if_gt hx hb hd ht (fun q => h1 lo _ M (g1 ((lR_lt hy hz).mp ((lg_cmp_gt _ _).mp q))) H locs ls hP hS hl) (fun q => h2 lo _ M (g2 (fun z => q ((lg_cmp_gt _ _).mpr ((lR_lt hy hz).mpr z)))) H locs ls hP hS hl)
def c_lraw_gt (k1 k2 : Kt) : Kt := fun lo st M => match st with
  | .inl (.inr y) :: .inl (.inr z) :: r => (Int64.ofInt y < Int64.ofInt z → k1 lo r M) ∧ (¬ (Int64.ofInt y < Int64.ofInt z) → k2 lo r M)
  | _ => False
theorem r_lraw_gt {x : Xc} {l0 : Launch} {b : ByteArray} {own : String} {nl dd : Nat} {pc : Nat} {k1 k2 : Kt} {off : Int} {tgt : Nat} (C : Cx x l0 b own nl dd) (hd0 : decode b pc = .ok (.lcmp, 1)) (hd : decode b (pc + 1) = .ok (.ifCond .gt off, 3)) (ht : ((pc + 1 : Nat) : Int) + off = (tgt : Int)) (h1 : Ok x tgt k1) (h2 : Ok x (pc + 1 + 3) k2) : Ok x pc (c_lraw_gt k1 k2) := by
  intro lo st M hk
  obtain ⟨p, l, e, R, s, m, args, below, meth, c, ⟨cells, slots⟩, Q, D, ad, cA, A, nL⟩ := x
  obtain ⟨hx, hb, hml, hown, hts, hK, hD, hA, hc1, hc2, hlk, hnl, hll, hrm, hN⟩ := C
  match st, hk with
  | .inl (.inr y) :: .inl (.inr z) :: r, ⟨g1, g2⟩ =>
    intro H locs ls hP hS hl
    refine W.lcmp hx hb hd0 ?_
    exact lv_if_gt hx hb hd ht (fun q => h1 lo _ M (g1 ((lg_cmp_gt _ _).mp q)) H locs ls hP hS hl) (fun q => h2 lo _ M (g2 (fun z => q ((lg_cmp_gt _ _).mpr z))) H locs ls hP hS hl)
def c_lcmp_le (k1 k2 : Kt) : Kt := fun lo st M => match st with
  | .inl (.inr y) :: .inl (.inr z) :: r => lR z ∧ lR y ∧ (z ≤ y → k1 lo r M) ∧ (¬ (z ≤ y) → k2 lo r M)
  | _ => False
theorem r_lcmp_le {x : Xc} {l0 : Launch} {b : ByteArray} {own : String} {nl dd : Nat} {pc : Nat} {k1 k2 : Kt} {off : Int} {tgt : Nat} (C : Cx x l0 b own nl dd) (hd0 : decode b pc = .ok (.lcmp, 1)) (hd : decode b (pc + 1) = .ok (.ifCond .le off, 3)) (ht : ((pc + 1 : Nat) : Int) + off = (tgt : Int)) (h1 : Ok x tgt k1) (h2 : Ok x (pc + 1 + 3) k2) : Ok x pc (c_lcmp_le k1 k2) := by
  intro lo st M hk
  obtain ⟨p, l, e, R, s, m, args, below, meth, c, ⟨cells, slots⟩, Q, D, ad, cA, A, nL⟩ := x
  obtain ⟨hx, hb, hml, hown, hts, hK, hD, hA, hc1, hc2, hlk, hnl, hll, hrm, hN⟩ := C
  match st, hk with
  | .inl (.inr y) :: .inl (.inr z) :: r, ⟨hz, hy, g1, g2⟩ =>
    intro H locs ls hP hS hl
    refine W.lcmp hx hb hd0 ?_
    exact lv_if_le hx hb hd ht (fun q => h1 lo _ M (g1 ((lR_le hz hy).mp ((lg_cmp_le _ _).mp q))) H locs ls hP hS hl) (fun q => h2 lo _ M (g2 (fun z => q ((lg_cmp_le _ _).mpr ((lR_le hz hy).mpr z)))) H locs ls hP hS hl)
def c_lraw_le (k1 k2 : Kt) : Kt := fun lo st M => match st with
  | .inl (.inr y) :: .inl (.inr z) :: r => (Int64.ofInt z ≤ Int64.ofInt y → k1 lo r M) ∧ (¬ (Int64.ofInt z ≤ Int64.ofInt y) → k2 lo r M)
  | _ => False
theorem r_lraw_le {x : Xc} {l0 : Launch} {b : ByteArray} {own : String} {nl dd : Nat} {pc : Nat} {k1 k2 : Kt} {off : Int} {tgt : Nat} (C : Cx x l0 b own nl dd) (hd0 : decode b pc = .ok (.lcmp, 1)) (hd : decode b (pc + 1) = .ok (.ifCond .le off, 3)) (ht : ((pc + 1 : Nat) : Int) + off = (tgt : Int)) (h1 : Ok x tgt k1) (h2 : Ok x (pc + 1 + 3) k2) : Ok x pc (c_lraw_le k1 k2) := by
  intro lo st M hk
  obtain ⟨p, l, e, R, s, m, args, below, meth, c, ⟨cells, slots⟩, Q, D, ad, cA, A, nL⟩ := x
  obtain ⟨hx, hb, hml, hown, hts, hK, hD, hA, hc1, hc2, hlk, hnl, hll, hrm, hN⟩ := C
  match st, hk with
  | .inl (.inr y) :: .inl (.inr z) :: r, ⟨g1, g2⟩ =>
    intro H locs ls hP hS hl
    refine W.lcmp hx hb hd0 ?_
    exact lv_if_le hx hb hd ht (fun q => h1 lo _ M (g1 ((lg_cmp_le _ _).mp q)) H locs ls hP hS hl) (fun q => h2 lo _ M (g2 (fun z => q ((lg_cmp_le _ _).mpr z))) H locs ls hP hS hl)
def c_lcmp_ne (k1 k2 : Kt) : Kt := fun lo st M => match st with
  | .inl (.inr y) :: .inl (.inr z) :: r => lR z ∧ lR y ∧ (¬ z = y → k1 lo r M) ∧ (z = y → k2 lo r M)
  | _ => False
theorem r_lcmp_ne {x : Xc} {l0 : Launch} {b : ByteArray} {own : String} {nl dd : Nat} {pc : Nat} {k1 k2 : Kt} {off : Int} {tgt : Nat} (C : Cx x l0 b own nl dd) (hd0 : decode b pc = .ok (.lcmp, 1)) (hd : decode b (pc + 1) = .ok (.ifCond .ne off, 3)) (ht : ((pc + 1 : Nat) : Int) + off = (tgt : Int)) (h1 : Ok x tgt k1) (h2 : Ok x (pc + 1 + 3) k2) : Ok x pc (c_lcmp_ne k1 k2) := by
  intro lo st M hk
  obtain ⟨p, l, e, R, s, m, args, below, meth, c, ⟨cells, slots⟩, Q, D, ad, cA, A, nL⟩ := x
  obtain ⟨hx, hb, hml, hown, hts, hK, hD, hA, hc1, hc2, hlk, hnl, hll, hrm, hN⟩ := C
  match st, hk with
  | .inl (.inr y) :: .inl (.inr z) :: r, ⟨hz, hy, g1, g2⟩ =>
    intro H locs ls hP hS hl
    refine W.lcmp hx hb hd0 ?_
    exact lv_if_ne hx hb hd ht (fun q => h1 lo _ M (g1 (fun z => q ((lg_cmp_eq _ _).mpr ((lR_eq hz hy).mpr z)))) H locs ls hP hS hl) (fun q => h2 lo _ M (g2 ((lR_eq hz hy).mp ((lg_cmp_eq _ _).mp q))) H locs ls hP hS hl)

/-! fields and arrays -/
theorem obf_len (ad : Nat → Nat → Nat) (g s : Nat) (f : Nat → Int) : (obf ad g s f).length = (fkl g).length := by simp [obf]
theorem obf_at (ad : Nat → Nat → Nat) {g s k t : Nat} (f : Nat → Int) (h : (fkl g)[k]? = some t) : (obf ad g s f)[k]? = some (fval ad t s (f k)) := by
  have hk : k < (fkl g).length := (List.getElem?_eq_some_iff.mp h).1
  unfold obf
  rw [List.getElem?_map, List.getElem?_range hk]
  simp [List.getD_eq_getElem?_getD, h]
theorem obf_set (ad : Nat → Nat → Nat) {g s k t : Nat} (f : Nat → Int) (z : Int) (h : (fkl g)[k]? = some t) : (obf ad g s f).set k (fval ad t s z) = obf ad g s (fun j => if j = k then z else f j) := by
  have hk : k < (fkl g).length := (List.getElem?_eq_some_iff.mp h).1
  refine List.ext_getElem? fun i => ?_
  rw [List.getElem?_set]
  by_cases hi : k = i
  · subst hi
    rw [if_pos rfl, if_pos (by rw [obf_len]; exact hk), obf_at ad _ h]
    simp
  · rw [if_neg hi]
    unfold obf
    rw [List.getElem?_map, List.getElem?_map]
    cases hq : (List.range (fkl g).length)[i]? with
    | none => rfl
    | some j =>
      have : j = i := by
        obtain ⟨_, e⟩ := List.getElem?_eq_some_iff.mp hq
        rw [List.getElem_range] at e
        exact e.symm
      subst this
      simp only [Option.map_some, if_neg (fun q : j = k => hi q.symm)]
theorem cel_ob (ad : Nat → Nat → Nat) (cA : Nat → ClassId) {g : Nat} (s : Nat) (f : Nat → Int) (h : g < 12) : cel ad cA g s f = .inr (g, obf ad g s f) := if_pos h
theorem cel_ar (ad : Nat → Nat → Nat) (cA : Nat → ClassId) {g : Nat} (s : Nat) (f : Nat → Int) (h : 12 ≤ g) : cel ad cA g s f = .inl (arf ad cA (aty g) (alen g) f) := if_neg (by omega)
theorem alen_lt (g : Nat) : alen g < 1000000 := by
  unfold alen
  split <;> decide
/-- a field's link: the thing's class, its fields, the word -/
def fLk (own : String) (i ci k : Nat) : Prop := ci < 12 ∧ ∃ (C : String) (T : u_T) (N : Nat), cls12[ci]? = some (C, T, N) ∧ k < N ∧ (∀ w ∈ u_ws C T N, w ∈ gT) ∧ (Cond.fieldLink own i (T k).1 (T k).2.1 (T k).2.2.1 ∈ gT ∨ ∃ host : String, Cond.fieldLinkNest own i (T k).1 (T k).2.1 (T k).2.2.1 host ∈ gN)
/-- what a put needs more -/
def fPk (ci k : Nat) (ty : FieldType) : Prop := ∀ (C : String) (T : u_T) (N : Nat), cls12[ci]? = some (C, T, N) → (T k).2.2.2 = false ∧ parseFieldDescriptor (T k).2.2.1 = some ty ∧ ∃ ty0 : Nat → FieldType, (∀ k, k < N → parseFieldDescriptor (T k).2.2.1 = some (ty0 k)) ∧ (∀ a, a < N → ∀ b, b < N → a ≠ b → (T a).2.1 ≠ (T b).2.1)
def c_gi (ci k : Nat) (kt : Kt) : Kt := fun lo st M => match st with
  | .inr (some (g, s)) :: r => g = ci ∧ s < cnt ci ∧ kt lo (zi (M ci s k) :: r) M
  | _ => False
def c_gl (ci k : Nat) (kt : Kt) : Kt := fun lo st M => match st with
  | .inr (some (g, s)) :: r => g = ci ∧ s < cnt ci ∧ kt lo (zl (M ci s k) :: r) M
  | _ => False
def c_gr (ci k h : Nat) (kt : Kt) : Kt := fun lo st M => match st with
  | .inr (some (g, s)) :: r => g = ci ∧ s < cnt ci ∧ kt lo (zr h s :: r) M
  | _ => False
def c_pi (ci k : Nat) (kt : Kt) : Kt := fun lo st M => match st with
  | .inl (.inl z) :: .inr (some (g, s)) :: r => g = ci ∧ s < cnt ci ∧ kt lo r (stm M ci s k z)
  | _ => False
def c_pz (ci k : Nat) (kt : Kt) : Kt := fun lo st M => match st with
  | .inl (.inl z) :: .inr (some (g, s)) :: r => g = ci ∧ s < cnt ci ∧ (z = 0 ∨ z = 1) ∧ kt lo r (stm M ci s k z)
  | _ => False
def c_pl (ci k : Nat) (kt : Kt) : Kt := fun lo st M => match st with
  | .inl (.inr z) :: .inr (some (g, s)) :: r => g = ci ∧ s < cnt ci ∧ kt lo r (stm M ci s k z)
  | _ => False
def c_iald (kt : Kt) : Kt := fun lo st M => match st with
  | .inl (.inl i) :: .inr (some (g, s)) :: r => aty g = 0 ∧ 12 ≤ g ∧ s < cnt g ∧ (0 ≤ i ∧ i < alen g) ∧ kt lo (zi (M g s i.toNat) :: r) M
  | _ => False
def c_lald (kt : Kt) : Kt := fun lo st M => match st with
  | .inl (.inl i) :: .inr (some (g, s)) :: r => aty g = 1 ∧ 12 ≤ g ∧ s < cnt g ∧ (0 ≤ i ∧ i < alen g) ∧ kt lo (zl (M g s i.toNat) :: r) M
  | _ => False
def c_bald (kt : Kt) : Kt := fun lo st M => match st with
  | .inl (.inl i) :: .inr (some (g, s)) :: r => aty g = 2 ∧ 12 ≤ g ∧ s < cnt g ∧ (0 ≤ i ∧ i < alen g) ∧ kt lo (zi (M g s i.toNat) :: r) M
  | _ => False
def c_aald (h : Nat) (kt : Kt) : Kt := fun lo st M => match st with
  | .inl (.inl i) :: .inr (some (g, s)) :: r => aty g = h + 3 ∧ 12 ≤ g ∧ s < cnt g ∧ (0 ≤ i ∧ i < alen g) ∧ kt lo (zr h i.toNat :: r) M
  | _ => False
def c_iast (kt : Kt) : Kt := fun lo st M => match st with
  | .inl (.inl z) :: .inl (.inl i) :: .inr (some (g, s)) :: r => aty g = 0 ∧ 12 ≤ g ∧ s < cnt g ∧ (0 ≤ i ∧ i < alen g) ∧ kt lo r (stm M g s i.toNat z)
  | _ => False
def c_last (kt : Kt) : Kt := fun lo st M => match st with
  | .inl (.inr z) :: .inl (.inl i) :: .inr (some (g, s)) :: r => aty g = 1 ∧ 12 ≤ g ∧ s < cnt g ∧ (0 ≤ i ∧ i < alen g) ∧ kt lo r (stm M g s i.toNat z)
  | _ => False
def c_bast (kt : Kt) : Kt := fun lo st M => match st with
  | .inl (.inl z) :: .inl (.inl i) :: .inr (some (g, s)) :: r => aty g = 2 ∧ 12 ≤ g ∧ s < cnt g ∧ (0 ≤ i ∧ i < alen g) ∧ (z = 0 ∨ z = 1) ∧ kt lo r (stm M g s i.toNat z)
  | _ => False
theorem ix_in {g : Nat} {i : Int} (h : 0 ≤ i ∧ i < alen g) : vp_in (Int32.ofInt i) (alen g) ∧ (Int32.ofInt i).toNatClampNeg = i.toNat := by
  have h2 := alen_lt g
  have hi : iR i := ⟨by omega, by omega⟩
  exact ⟨iR_in hi h.1 h.2, iR_cl hi h.1⟩
theorem nar_b {z : Int} (h : z = 0 ∨ z = 1) : narrow .boolean (.int (Int32.ofInt z)) = .int (Int32.ofInt z) ∧ fits .boolean (.int (Int32.ofInt z)) = true ∧ vp_nar .boolean (Int32.ofInt z) = Int32.ofInt z := by
  rcases h with rfl | rfl <;> exact ⟨by decide, by decide, by decide⟩
theorem upd_st (f : Nat → Int) (k : Nat) (z : Int) : upd (fun j => Int32.ofInt (f j)) k (Int32.ofInt z) = fun j => Int32.ofInt (if j = k then z else f j) := by
  funext j
  unfold upd
  split <;> rfl
theorem updL_st (f : Nat → Int) (k : Nat) (z : Int) : vp_updL (fun j => Int64.ofInt (f j)) k (Int64.ofInt z) = fun j => Int64.ofInt (if j = k then z else f j) := by
  funext j
  unfold vp_updL
  split <;> rfl

theorem r_gi {x : Xc} {l0 : Launch} {b : ByteArray} {own : String} {nl dd : Nat} {pc : Nat} {kt : Kt} {i ci k : Nat} (C : Cx x l0 b own nl dd) (hd : decode b pc = .ok (.getfield i, 3)) (hf : fLk own i ci k) (hty : (fkl ci)[k]? = some 0 ∨ (fkl ci)[k]? = some 2) (h0 : Ok x (pc + 3) kt) : Ok x pc (c_gi ci k kt) := by
  intro lo st M hk
  obtain ⟨p, l, e, R, s, m, args, below, meth, c, ⟨cells, slots⟩, Q, D, ad, cA, A, nL⟩ := x
  obtain ⟨hx, hb, hml, hown, hts, hK, hD, hA, hc1, hc2, hlk, hnl, hll, hrm, hN⟩ := C
  obtain ⟨hci, Cn, T, N, hc, hkN, hin, hlink⟩ := hf
  match st, hk with
  | .inr (some (g, s')) :: r, ⟨hg, hs, hk2⟩ =>
    subst hg
    intro H locs ls hP hS hl
    rcases hty with hty | hty
    · obtain ⟨k0, hk0, hw⟩ := wl_at ad cA M hs
      rw [cel_ob ad cA _ _ hci] at hw
      rcases hlink with hlink | ⟨host, hlink⟩
      · exact va_get (D := D) (tys := tysA cA) (T := T) hx hb hts hin hown hK hP k0 hw hc k hkN (hts _ hlink) (fun _ z => z) (obf_at ad _ hty) hd (h0 lo _ M hk2 H locs ls hP hS hl)
      · exact va_getN (D := D) (tys := tysA cA) (T := T) hx hb hts hin hown hK hP k0 hw hc k hkN (va_Nw.use rfl (hN _ hlink)) (fun _ z => z) (obf_at ad _ hty) hd (h0 lo _ M hk2 H locs ls hP hS hl)
    · obtain ⟨k0, hk0, hw⟩ := wl_at ad cA M hs
      rw [cel_ob ad cA _ _ hci] at hw
      rcases hlink with hlink | ⟨host, hlink⟩
      · exact va_get (D := D) (tys := tysA cA) (T := T) hx hb hts hin hown hK hP k0 hw hc k hkN (hts _ hlink) (fun _ z => z) (obf_at ad _ hty) hd (h0 lo _ M hk2 H locs ls hP hS hl)
      · exact va_getN (D := D) (tys := tysA cA) (T := T) hx hb hts hin hown hK hP k0 hw hc k hkN (va_Nw.use rfl (hN _ hlink)) (fun _ z => z) (obf_at ad _ hty) hd (h0 lo _ M hk2 H locs ls hP hS hl)
theorem r_gl {x : Xc} {l0 : Launch} {b : ByteArray} {own : String} {nl dd : Nat} {pc : Nat} {kt : Kt} {i ci k : Nat} (C : Cx x l0 b own nl dd) (hd : decode b pc = .ok (.getfield i, 3)) (hf : fLk own i ci k) (hty : (fkl ci)[k]? = some 1) (h0 : Ok x (pc + 3) kt) : Ok x pc (c_gl ci k kt) := by
  intro lo st M hk
  obtain ⟨p, l, e, R, s, m, args, below, meth, c, ⟨cells, slots⟩, Q, D, ad, cA, A, nL⟩ := x
  obtain ⟨hx, hb, hml, hown, hts, hK, hD, hA, hc1, hc2, hlk, hnl, hll, hrm, hN⟩ := C
  obtain ⟨hci, Cn, T, N, hc, hkN, hin, hlink⟩ := hf
  match st, hk with
  | .inr (some (g, s')) :: r, ⟨hg, hs, hk2⟩ =>
    subst hg
    intro H locs ls hP hS hl
    obtain ⟨k0, hk0, hw⟩ := wl_at ad cA M hs
    rw [cel_ob ad cA _ _ hci] at hw
    rcases hlink with hlink | ⟨host, hlink⟩
    · exact va_get (D := D) (tys := tysA cA) (T := T) hx hb hts hin hown hK hP k0 hw hc k hkN (hts _ hlink) (fun _ z => z) (obf_at ad _ hty) hd (h0 lo _ M hk2 H locs ls hP hS hl)
    · exact va_getN (D := D) (tys := tysA cA) (T := T) hx hb hts hin hown hK hP k0 hw hc k hkN (va_Nw.use rfl (hN _ hlink)) (fun _ z => z) (obf_at ad _ hty) hd (h0 lo _ M hk2 H locs ls hP hS hl)
theorem r_gr {x : Xc} {l0 : Launch} {b : ByteArray} {own : String} {nl dd : Nat} {pc : Nat} {kt : Kt} {i ci k h : Nat} (C : Cx x l0 b own nl dd) (hd : decode b pc = .ok (.getfield i, 3)) (hf : fLk own i ci k) (hty : (fkl ci)[k]? = some (h + 3)) (h0 : Ok x (pc + 3) kt) : Ok x pc (c_gr ci k h kt) := by
  intro lo st M hk
  obtain ⟨p, l, e, R, s, m, args, below, meth, c, ⟨cells, slots⟩, Q, D, ad, cA, A, nL⟩ := x
  obtain ⟨hx, hb, hml, hown, hts, hK, hD, hA, hc1, hc2, hlk, hnl, hll, hrm, hN⟩ := C
  obtain ⟨hci, Cn, T, N, hc, hkN, hin, hlink⟩ := hf
  match st, hk with
  | .inr (some (g, s')) :: r, ⟨hg, hs, hk2⟩ =>
    subst hg
    intro H locs ls hP hS hl
    obtain ⟨k0, hk0, hw⟩ := wl_at ad cA M hs
    rw [cel_ob ad cA _ _ hci] at hw
    rcases hlink with hlink | ⟨host, hlink⟩
    · exact va_get (D := D) (tys := tysA cA) (T := T) hx hb hts hin hown hK hP k0 hw hc k hkN (hts _ hlink) (fun _ z => z) (obf_at ad _ hty) hd (h0 lo _ M hk2 H locs ls hP hS hl)
    · exact va_getN (D := D) (tys := tysA cA) (T := T) hx hb hts hin hown hK hP k0 hw hc k hkN (va_Nw.use rfl (hN _ hlink)) (fun _ z => z) (obf_at ad _ hty) hd (h0 lo _ M hk2 H locs ls hP hS hl)
theorem r_pi {x : Xc} {l0 : Launch} {b : ByteArray} {own : String} {nl dd : Nat} {pc : Nat} {kt : Kt} {i ci k : Nat} (C : Cx x l0 b own nl dd) (hd : decode b pc = .ok (.putfield i, 3)) (hf : fLk own i ci k) (hfp : fPk ci k .int) (hty : (fkl ci)[k]? = some 0) (h0 : Ok x (pc + 3) kt) : Ok x pc (c_pi ci k kt) := by
  intro lo st M hk
  obtain ⟨p, l, e, R, s, m, args, below, meth, c, ⟨cells, slots⟩, Q, D, ad, cA, A, nL⟩ := x
  obtain ⟨hx, hb, hml, hown, hts, hK, hD, hA, hc1, hc2, hlk, hnl, hll, hrm, hN⟩ := C
  obtain ⟨hci, Cn, T, N, hc, hkN, hin, hlink⟩ := hf
  obtain ⟨hfin, hpd, ty0, hty0, hnm⟩ := hfp Cn T N hc
  match st, hk with
  | .inl (.inl z) :: .inr (some (g, s')) :: r, ⟨hg, hs, hk⟩ =>
    subst hg
    intro H locs ls hP hS hl
    obtain ⟨k0, hk0, hw⟩ := wl_at ad cA M hs
    rw [cel_ob ad cA _ _ hci] at hw
    have hlen : k < (obf ad g s' (M g s')).length := by rw [obf_len]; exact (List.getElem?_eq_some_iff.mp hty).1
    rcases hlink with hlink | ⟨host, hlink⟩
    · refine va_put (D := D) (tys := tysA cA) (T := T) (v := .int (Int32.ofInt z)) hx hb hts hin ty0 hty0 hnm hown hK hP (hD M) hS k0 hw hc k hkN (hts _ hlink) (fun _ z => z) hfin hpd rfl rfl hlen hd (fun H1 locs1 hP1 _ hS1 => ?_)
      have e1 : (obf ad g s' (M g s')).set k (.int (Int32.ofInt z)) = obf ad g s' (fun j => if j = k then z else M g s' j) := obf_set ad _ z hty
      rw [e1, ← cel_ob ad cA s' _ hci, wl_set ad cA M hk0, ← stm_stc] at hP1
      exact h0 lo _ _ hk H1 locs1 ls hP1 hS1 hl
    · refine va_putN (D := D) (tys := tysA cA) (T := T) (v := .int (Int32.ofInt z)) hx hb hts hin ty0 hty0 hnm hown hK hP (hD M) hS k0 hw hc k hkN (va_Nw.use rfl (hN _ hlink)) (fun _ z => z) hfin hpd rfl rfl hlen hd (fun H1 locs1 hP1 _ hS1 => ?_)
      have e1 : (obf ad g s' (M g s')).set k (.int (Int32.ofInt z)) = obf ad g s' (fun j => if j = k then z else M g s' j) := obf_set ad _ z hty
      rw [e1, ← cel_ob ad cA s' _ hci, wl_set ad cA M hk0, ← stm_stc] at hP1
      exact h0 lo _ _ hk H1 locs1 ls hP1 hS1 hl
theorem r_pz {x : Xc} {l0 : Launch} {b : ByteArray} {own : String} {nl dd : Nat} {pc : Nat} {kt : Kt} {i ci k : Nat} (C : Cx x l0 b own nl dd) (hd : decode b pc = .ok (.putfield i, 3)) (hf : fLk own i ci k) (hfp : fPk ci k .boolean) (hty : (fkl ci)[k]? = some 2) (h0 : Ok x (pc + 3) kt) : Ok x pc (c_pz ci k kt) := by
  intro lo st M hk
  obtain ⟨p, l, e, R, s, m, args, below, meth, c, ⟨cells, slots⟩, Q, D, ad, cA, A, nL⟩ := x
  obtain ⟨hx, hb, hml, hown, hts, hK, hD, hA, hc1, hc2, hlk, hnl, hll, hrm, hN⟩ := C
  obtain ⟨hci, Cn, T, N, hc, hkN, hin, hlink⟩ := hf
  obtain ⟨hfin, hpd, ty0, hty0, hnm⟩ := hfp Cn T N hc
  match st, hk with
  | .inl (.inl z) :: .inr (some (g, s')) :: r, ⟨hg, hs, hz, hk⟩ =>
    subst hg
    intro H locs ls hP hS hl
    obtain ⟨k0, hk0, hw⟩ := wl_at ad cA M hs
    rw [cel_ob ad cA _ _ hci] at hw
    have hlen : k < (obf ad g s' (M g s')).length := by rw [obf_len]; exact (List.getElem?_eq_some_iff.mp hty).1
    rcases hlink with hlink | ⟨host, hlink⟩
    · refine va_put (D := D) (tys := tysA cA) (T := T) (v := .int (Int32.ofInt z)) hx hb hts hin ty0 hty0 hnm hown hK hP (hD M) hS k0 hw hc k hkN (hts _ hlink) (fun _ z => z) hfin hpd (nar_b hz).1 (nar_b hz).2.1 hlen hd (fun H1 locs1 hP1 _ hS1 => ?_)
      have e1 : (obf ad g s' (M g s')).set k (.int (Int32.ofInt z)) = obf ad g s' (fun j => if j = k then z else M g s' j) := obf_set ad _ z hty
      rw [e1, ← cel_ob ad cA s' _ hci, wl_set ad cA M hk0, ← stm_stc] at hP1
      exact h0 lo _ _ hk H1 locs1 ls hP1 hS1 hl
    · refine va_putN (D := D) (tys := tysA cA) (T := T) (v := .int (Int32.ofInt z)) hx hb hts hin ty0 hty0 hnm hown hK hP (hD M) hS k0 hw hc k hkN (va_Nw.use rfl (hN _ hlink)) (fun _ z => z) hfin hpd (nar_b hz).1 (nar_b hz).2.1 hlen hd (fun H1 locs1 hP1 _ hS1 => ?_)
      have e1 : (obf ad g s' (M g s')).set k (.int (Int32.ofInt z)) = obf ad g s' (fun j => if j = k then z else M g s' j) := obf_set ad _ z hty
      rw [e1, ← cel_ob ad cA s' _ hci, wl_set ad cA M hk0, ← stm_stc] at hP1
      exact h0 lo _ _ hk H1 locs1 ls hP1 hS1 hl
theorem r_pl {x : Xc} {l0 : Launch} {b : ByteArray} {own : String} {nl dd : Nat} {pc : Nat} {kt : Kt} {i ci k : Nat} (C : Cx x l0 b own nl dd) (hd : decode b pc = .ok (.putfield i, 3)) (hf : fLk own i ci k) (hfp : fPk ci k .long) (hty : (fkl ci)[k]? = some 1) (h0 : Ok x (pc + 3) kt) : Ok x pc (c_pl ci k kt) := by
  intro lo st M hk
  obtain ⟨p, l, e, R, s, m, args, below, meth, c, ⟨cells, slots⟩, Q, D, ad, cA, A, nL⟩ := x
  obtain ⟨hx, hb, hml, hown, hts, hK, hD, hA, hc1, hc2, hlk, hnl, hll, hrm, hN⟩ := C
  obtain ⟨hci, Cn, T, N, hc, hkN, hin, hlink⟩ := hf
  obtain ⟨hfin, hpd, ty0, hty0, hnm⟩ := hfp Cn T N hc
  match st, hk with
  | .inl (.inr z) :: .inr (some (g, s')) :: r, ⟨hg, hs, hk⟩ =>
    subst hg
    intro H locs ls hP hS hl
    obtain ⟨k0, hk0, hw⟩ := wl_at ad cA M hs
    rw [cel_ob ad cA _ _ hci] at hw
    have hlen : k < (obf ad g s' (M g s')).length := by rw [obf_len]; exact (List.getElem?_eq_some_iff.mp hty).1
    rcases hlink with hlink | ⟨host, hlink⟩
    · refine va_put (D := D) (tys := tysA cA) (T := T) (v := .long (Int64.ofInt z)) hx hb hts hin ty0 hty0 hnm hown hK hP (hD M) hS k0 hw hc k hkN (hts _ hlink) (fun _ z => z) hfin hpd rfl rfl hlen hd (fun H1 locs1 hP1 _ hS1 => ?_)
      have e1 : (obf ad g s' (M g s')).set k (.long (Int64.ofInt z)) = obf ad g s' (fun j => if j = k then z else M g s' j) := obf_set ad _ z hty
      rw [e1, ← cel_ob ad cA s' _ hci, wl_set ad cA M hk0, ← stm_stc] at hP1
      exact h0 lo _ _ hk H1 locs1 ls hP1 hS1 hl
    · refine va_putN (D := D) (tys := tysA cA) (T := T) (v := .long (Int64.ofInt z)) hx hb hts hin ty0 hty0 hnm hown hK hP (hD M) hS k0 hw hc k hkN (va_Nw.use rfl (hN _ hlink)) (fun _ z => z) hfin hpd rfl rfl hlen hd (fun H1 locs1 hP1 _ hS1 => ?_)
      have e1 : (obf ad g s' (M g s')).set k (.long (Int64.ofInt z)) = obf ad g s' (fun j => if j = k then z else M g s' j) := obf_set ad _ z hty
      rw [e1, ← cel_ob ad cA s' _ hci, wl_set ad cA M hk0, ← stm_stc] at hP1
      exact h0 lo _ _ hk H1 locs1 ls hP1 hS1 hl
theorem r_iald {x : Xc} {l0 : Launch} {b : ByteArray} {own : String} {nl dd : Nat} {pc : Nat} {kt : Kt} (C : Cx x l0 b own nl dd) (hd : decode b pc = .ok (.iaload, 1)) (h0 : Ok x (pc + 1) kt) : Ok x pc (c_iald kt) := by
  intro lo st M hk
  obtain ⟨p, l, e, R, s, m, args, below, meth, c, ⟨cells, slots⟩, Q, D, ad, cA, A, nL⟩ := x
  obtain ⟨hx, hb, hml, hown, hts, hK, hD, hA, hc1, hc2, hlk, hnl, hll, hrm, hN⟩ := C
  match st, hk with
  | .inl (.inl i) :: .inr (some (g, s')) :: r, ⟨ht, hg, hs, hi, hk⟩ =>
    intro H locs ls hP hS hl
    obtain ⟨k0, hk0, hw⟩ := wl_at ad cA M hs
    obtain ⟨hin, hcl⟩ := ix_in hi
    rw [cel_ar ad cA _ _ hg, ht] at hw
    have q := h0 lo _ M hk H locs ls hP hS hl
    rw [← hcl] at q
    exact va_iald (D := D) (tys := tysA cA) hx hb hK hP k0 0 hw rfl hin hd q
theorem r_lald {x : Xc} {l0 : Launch} {b : ByteArray} {own : String} {nl dd : Nat} {pc : Nat} {kt : Kt} (C : Cx x l0 b own nl dd) (hd : decode b pc = .ok (.laload, 1)) (h0 : Ok x (pc + 1) kt) : Ok x pc (c_lald kt) := by
  intro lo st M hk
  obtain ⟨p, l, e, R, s, m, args, below, meth, c, ⟨cells, slots⟩, Q, D, ad, cA, A, nL⟩ := x
  obtain ⟨hx, hb, hml, hown, hts, hK, hD, hA, hc1, hc2, hlk, hnl, hll, hrm, hN⟩ := C
  match st, hk with
  | .inl (.inl i) :: .inr (some (g, s')) :: r, ⟨ht, hg, hs, hi, hk⟩ =>
    intro H locs ls hP hS hl
    obtain ⟨k0, hk0, hw⟩ := wl_at ad cA M hs
    obtain ⟨hin, hcl⟩ := ix_in hi
    rw [cel_ar ad cA _ _ hg, ht] at hw
    have q := h0 lo _ M hk H locs ls hP hS hl
    rw [← hcl] at q
    exact va_lald (D := D) (tys := tysA cA) hx hb hK hP k0 1 hw rfl hin hd q
theorem r_bald {x : Xc} {l0 : Launch} {b : ByteArray} {own : String} {nl dd : Nat} {pc : Nat} {kt : Kt} (C : Cx x l0 b own nl dd) (hd : decode b pc = .ok (.baload, 1)) (h0 : Ok x (pc + 1) kt) : Ok x pc (c_bald kt) := by
  intro lo st M hk
  obtain ⟨p, l, e, R, s, m, args, below, meth, c, ⟨cells, slots⟩, Q, D, ad, cA, A, nL⟩ := x
  obtain ⟨hx, hb, hml, hown, hts, hK, hD, hA, hc1, hc2, hlk, hnl, hll, hrm, hN⟩ := C
  match st, hk with
  | .inl (.inl i) :: .inr (some (g, s')) :: r, ⟨ht, hg, hs, hi, hk⟩ =>
    intro H locs ls hP hS hl
    obtain ⟨k0, hk0, hw⟩ := wl_at ad cA M hs
    obtain ⟨hin, hcl⟩ := ix_in hi
    rw [cel_ar ad cA _ _ hg, ht] at hw
    have q := h0 lo _ M hk H locs ls hP hS hl
    rw [← hcl] at q
    exact va_zald (D := D) (tys := tysA cA) hx hb hK hP k0 2 hw rfl hin hd q
theorem r_aald {x : Xc} {l0 : Launch} {b : ByteArray} {own : String} {nl dd : Nat} {pc : Nat} {kt : Kt} {h : Nat} (C : Cx x l0 b own nl dd) (hd : decode b pc = .ok (.aaload, 1)) (h0 : Ok x (pc + 1) kt) : Ok x pc (c_aald h kt) := by
  intro lo st M hk
  obtain ⟨p, l, e, R, s, m, args, below, meth, c, ⟨cells, slots⟩, Q, D, ad, cA, A, nL⟩ := x
  obtain ⟨hx, hb, hml, hown, hts, hK, hD, hA, hc1, hc2, hlk, hnl, hll, hrm, hN⟩ := C
  match st, hk with
  | .inl (.inl i) :: .inr (some (g, s')) :: r, ⟨ht, hg, hs, hi, hk⟩ =>
    intro H locs ls hP hS hl
    obtain ⟨k0, hk0, hw⟩ := wl_at ad cA M hs
    obtain ⟨hin, hcl⟩ := ix_in hi
    rw [cel_ar ad cA _ _ hg, ht] at hw
    have q := h0 lo _ M hk H locs ls hP hS hl
    rw [← hcl] at q
    exact va_aldq (D := D) (tys := tysA cA) hx hb hK hP k0 3 hw rfl hin hd q
theorem r_iast {x : Xc} {l0 : Launch} {b : ByteArray} {own : String} {nl dd : Nat} {pc : Nat} {kt : Kt} (C : Cx x l0 b own nl dd) (hd : decode b pc = .ok (.iastore, 1)) (h0 : Ok x (pc + 1) kt) : Ok x pc (c_iast kt) := by
  intro lo st M hk
  obtain ⟨p, l, e, R, s, m, args, below, meth, c, ⟨cells, slots⟩, Q, D, ad, cA, A, nL⟩ := x
  obtain ⟨hx, hb, hml, hown, hts, hK, hD, hA, hc1, hc2, hlk, hnl, hll, hrm, hN⟩ := C
  match st, hk with
  | .inl (.inl z) :: .inl (.inl i) :: .inr (some (g, s')) :: r, ⟨ht, hg, hs, hi, hk⟩ =>
    intro H locs ls hP hS hl
    obtain ⟨k0, hk0, hw⟩ := wl_at ad cA M hs
    obtain ⟨hin, hcl⟩ := ix_in hi
    rw [cel_ar ad cA _ _ hg, ht] at hw
    refine va_iast (D := D) (tys := tysA cA) hx hb hK hP (hD M) hS k0 0 hw rfl hin hd (fun H1 locs1 hP1 _ hS1 => ?_)
    rw [upd_st, hcl] at hP1
    have e1 : (Sum.inl (arf ad cA 0 (alen g) (fun j => if j = i.toNat then z else M g s' j)) : va_E) = cel ad cA g s' (fun j => if j = i.toNat then z else M g s' j) := by rw [cel_ar ad cA _ _ hg, ht]
    have hP2 : va_P D cls12 ((wl ad cA M).set k0 (ad g s', cel ad cA g s' (fun j => if j = i.toNat then z else M g s' j))) H1 := by rw [← e1]; exact hP1
    rw [wl_set ad cA M hk0, ← stm_stc] at hP2
    exact h0 lo _ _ hk H1 locs1 ls hP2 hS1 hl
theorem r_last {x : Xc} {l0 : Launch} {b : ByteArray} {own : String} {nl dd : Nat} {pc : Nat} {kt : Kt} (C : Cx x l0 b own nl dd) (hd : decode b pc = .ok (.lastore, 1)) (h0 : Ok x (pc + 1) kt) : Ok x pc (c_last kt) := by
  intro lo st M hk
  obtain ⟨p, l, e, R, s, m, args, below, meth, c, ⟨cells, slots⟩, Q, D, ad, cA, A, nL⟩ := x
  obtain ⟨hx, hb, hml, hown, hts, hK, hD, hA, hc1, hc2, hlk, hnl, hll, hrm, hN⟩ := C
  match st, hk with
  | .inl (.inr z) :: .inl (.inl i) :: .inr (some (g, s')) :: r, ⟨ht, hg, hs, hi, hk⟩ =>
    intro H locs ls hP hS hl
    obtain ⟨k0, hk0, hw⟩ := wl_at ad cA M hs
    obtain ⟨hin, hcl⟩ := ix_in hi
    rw [cel_ar ad cA _ _ hg, ht] at hw
    refine va_last (D := D) (tys := tysA cA) hx hb hK hP (hD M) hS k0 1 hw rfl hin hd (fun H1 locs1 hP1 _ hS1 => ?_)
    rw [updL_st, hcl] at hP1
    have e1 : (Sum.inl (arf ad cA 1 (alen g) (fun j => if j = i.toNat then z else M g s' j)) : va_E) = cel ad cA g s' (fun j => if j = i.toNat then z else M g s' j) := by rw [cel_ar ad cA _ _ hg, ht]
    have hP2 : va_P D cls12 ((wl ad cA M).set k0 (ad g s', cel ad cA g s' (fun j => if j = i.toNat then z else M g s' j))) H1 := by rw [← e1]; exact hP1
    rw [wl_set ad cA M hk0, ← stm_stc] at hP2
    exact h0 lo _ _ hk H1 locs1 ls hP2 hS1 hl
theorem r_bast {x : Xc} {l0 : Launch} {b : ByteArray} {own : String} {nl dd : Nat} {pc : Nat} {kt : Kt} (C : Cx x l0 b own nl dd) (hd : decode b pc = .ok (.bastore, 1)) (h0 : Ok x (pc + 1) kt) : Ok x pc (c_bast kt) := by
  intro lo st M hk
  obtain ⟨p, l, e, R, s, m, args, below, meth, c, ⟨cells, slots⟩, Q, D, ad, cA, A, nL⟩ := x
  obtain ⟨hx, hb, hml, hown, hts, hK, hD, hA, hc1, hc2, hlk, hnl, hll, hrm, hN⟩ := C
  match st, hk with
  | .inl (.inl z) :: .inl (.inl i) :: .inr (some (g, s')) :: r, ⟨ht, hg, hs, hi, hz, hk⟩ =>
    intro H locs ls hP hS hl
    obtain ⟨k0, hk0, hw⟩ := wl_at ad cA M hs
    obtain ⟨hin, hcl⟩ := ix_in hi
    rw [cel_ar ad cA _ _ hg, ht] at hw
    refine va_zast (D := D) (tys := tysA cA) hx hb hK hP (hD M) hS k0 2 hw rfl hin hd (fun H1 locs1 hP1 _ hS1 => ?_)
    rw [(nar_b hz).2.2] at hP1
    rw [upd_st, hcl] at hP1
    have e1 : (Sum.inl (arf ad cA 2 (alen g) (fun j => if j = i.toNat then z else M g s' j)) : va_E) = cel ad cA g s' (fun j => if j = i.toNat then z else M g s' j) := by rw [cel_ar ad cA _ _ hg, ht]
    have hP2 : va_P D cls12 ((wl ad cA M).set k0 (ad g s', cel ad cA g s' (fun j => if j = i.toNat then z else M g s' j))) H1 := by rw [← e1]; exact hP1
    rw [wl_set ad cA M hk0, ← stm_stc] at hP2
    exact h0 lo _ _ hk H1 locs1 ls hP2 hS1 hl
end
section
/-! calls, returns, a method's contract -/
def rmd (d : Nat) : Room := { frames := d, cells := 0, slots := 0, locals := 100 * d }
def Pcx (D : va_G) (ad : Nat → Nat → Nat) (cA : Nat → ClassId) (sz : Nat) (M : Mm) (U : State) : Prop := U.heap.size = sz ∧ va_P D cls12 (wl ad cA M) U.heap ∧ va_K D cls12 (tysA cA) U ∧ va_D (fun _ => True) (wl ad cA M) ∧ ∀ w ∈ gN, va_Nw w U
def Qcx (D : va_G) (ad : Nat → Nat → Nat) (cA : Nat → ClassId) (A : Nat → Prop) (P : Option AV → Mm → Prop) (_ : Array Value) (st : State) (oc : Outcome) (t : State) : Prop := (∃ (r : Option AV) (M' : Mm), oc = .returned (r.map (cv ad)) ∧ P r M' ∧ va_P D cls12 (wl ad cA M') t.heap) ∧ va_F A st t
/-- a method's contract: what must hold of what is given and of the memory so that it comes back with an answer and a memory as wanted -/
def MetT (l : Launch) (y : MethodName) (b : ByteArray) (nl : Nat) (ret : Option FieldType) (d : Nat) (T : Ct) : Prop := ∀ (D : va_G) (ad : Nat → Nat → Nat) (cA : Nat → ClassId) (sz : Nat) (as : List AV) (M : Mm) (P : Option AV → Mm → Prop), T as M P → Met l y (.code y b nl ret :: gT) (rmd d) (va_Pc (as.map (cv ad)) (Pcx D ad cA sz M)) (Qcx D ad cA (va_A (wl ad cA M) sz) P) 0 0 (va_A (wl ad cA M) sz)
/-- the same for a smaller want -/
theorem MetT.imp {l : Launch} {y : MethodName} {b : ByteArray} {nl : Nat} {ret : Option FieldType} {d : Nat} {T T' : Ct} (h : MetT l y b nl ret d T) (hT : ∀ as M P, T' as M P → T as M P) : MetT l y b nl ret d T' := fun D ad cA sz as M P q => h D ad cA sz as M P (hT as M P q)
theorem J_run {x : Xc} {l0 : Launch} {b : ByteArray} {own : String} {nl dd pc : Nat} {lo : Lo} {st rest : List AV} {M : Mm} {P : Option AV → Mm → Prop} {a : Array Value} (C : Cx x l0 b own nl dd) (k : ∀ (r : Option AV) (M' : Mm), P r M' → J x (pc + 3) lo (r.toList ++ rest) M')
    (run : match x with
      | (p, l, e, R, s, m, args, below, meth, c, (cells, slots), _, D, ad, cA, A, nL) => ∀ (H : Heap) (locs : List Loc) (ls : Array Slot), va_P D cls12 (wl ad cA M) H → va_S A s.heap H locs → lvF ad ls nL lo → va_Run p l e R s m args below meth c H locs cells slots 0 0 (F0 m pc ls (st.map (cv ad))) (rest.map (cv ad)) (Qcx D ad cA (va_A (wl ad cA M) H.size) P a) (va_A (wl ad cA M) H.size)) : J x pc lo st M := by
  obtain ⟨p, l, e, R, s, m, args, below, meth, c, ⟨cells, slots⟩, Q, D, ad, cA, A, nL⟩ := x
  obtain ⟨hx, hb, hml, hown, hts, hK, hD, hA, hc1, hc2, hlk, hnl, hll, hrm, hN⟩ := C
  intro H locs ls hP hS hl T hT X
  obtain ⟨v, st₀, t, T', L, h0, X', hL, e1, e2, ⟨⟨r, M', hv, hp, hP'⟩, hz, hk⟩, stp⟩ := run H locs ls hP hS hl T hT X
  cases hv
  rw [h0] at hz hk
  have hAA : ∀ q : Nat, va_A (wl ad cA M) H.size q → A q := by
    rintro q (⟨i, e, hi⟩ | hq)
    · exact (hD M).2 i (q, e) hi
    · exact hA q (Nat.le_trans hS.1 hq)
  have hS1 : va_S A s.heap T'.heap (locs ++ L) := ⟨Nat.le_trans hS.1 (by rw [e1]; exact hz), fun q h1 h2 => by rw [e1, hk q (Nat.lt_of_lt_of_le h1 hS.1) (fun z => h2 (hAA q z))]; exact hS.2.1 q h1 h2, fun q hq => by
    rcases List.mem_append.mp hq with h | h
    · exact hS.2.2 q h
    · exact hAA _ (hL q h)⟩
  obtain ⟨t2, a1, b1⟩ := k r M' hp T'.heap (locs ++ L) ls (by rw [e1]; exact hP') hS1 hl T' rfl X'
  refine ⟨t2, stp t2 ?_, b1⟩
  have e3 : (r.map (cv ad)).toList ++ rest.map (cv ad) = (r.toList ++ rest).map (cv ad) := by cases r <;> simp
  show Steps p.tables e below (T'.setTop { F0 m pc ls (st.map (cv ad)) with pc := pc + 3, stack := (r.map (cv ad)).toList ++ rest.map (cv ad) }) t2
  rw [e3]
  exact a1
def pops : Nat → List AV → List AV → (List AV → List AV → Prop) → Prop
  | 0, acc, st, k => k acc st
  | n + 1, acc, v :: st, k => pops n (v :: acc) st k
  | _ + 1, _, [], _ => False
theorem pops_spec {n : Nat} : ∀ {acc st : List AV} {k : List AV → List AV → Prop}, pops n acc st k → ∃ as r : List AV, st = as.reverse ++ r ∧ as.length = n ∧ k (as ++ acc) r := by
  induction n with
  | zero => intro acc st k h; exact ⟨[], st, rfl, rfl, h⟩
  | succ n ih =>
    intro acc st k h
    cases st with
    | nil => exact h.elim
    | cons v st =>
      obtain ⟨as, r, h1, h2, h3⟩ := ih (acc := v :: acc) h
      exact ⟨as ++ [v], r, by simp [h1], by simp [h2], by simpa using h3⟩
/-- what the tables say of a callee -/
def Cle (y : MethodName) (b : ByteArray) (nl : Nat) (ret : Option FieldType) (n : Nat) : Prop := Cond.code y b nl ret ∈ gT ∧ Cond.initialized y.cls ∈ gT ∧ (y.cls ≠ "java/lang/invoke/MethodHandle" ∧ y.cls ≠ "java/lang/invoke/VarHandle" ∧ (parseMethodDescriptor y.desc).map (fun d => d.parameters.length) = some n) ∧ nl ≤ 80
def lnk (own : String) (i : Nat) (y : MethodName) : Prop := Cond.methodLink own i y ∈ gT ∨ ∃ host : String, Cond.methodLinkNest own i y host ∈ gN
theorem GoodIn.code {y : MethodName} {b : ByteArray} {nl : Nat} {ret : Option FieldType} (h : Cond.code y b nl ret ∈ gT) : GoodIn gT (Cond.code y b nl ret :: gT) := fun w hw => by
  rcases List.mem_cons.mp hw with rfl | hw
  · exact gT_good _ h
  · exact gT_good _ hw
theorem cat_le (ad : Nat → Nat → Nat) (r : List AV) : ((r.map (cv ad)).map fun v => v.category).sum ≤ 2 * r.length := by
  induction r with
  | nil => simp
  | cons v r ih =>
    simp only [List.map_cons, List.sum_cons, List.length_cons]
    have : (cv ad v).category ≤ 2 := by rcases lv_cat (cv ad v) with h | h <;> omega
    omega
def c_callV (ci n : Nat) (T : Ct) (kt : Kt) : Kt := fun lo st M => pops n [] st (fun as r => match r with
  | .inr (some (g, s)) :: r' => g = ci ∧ s < cnt ci ∧ r'.length ≤ 4 ∧ T (zr ci s :: as) M (fun v M' => kt lo (v.toList ++ r') M')
  | _ => False)
def c_callS (n : Nat) (T : Ct) (kt : Kt) : Kt := fun lo st M => pops n [] st (fun as r => r.length ≤ 4 ∧ T as M (fun v M' => kt lo (v.toList ++ r) M'))
theorem Pcx_blind {D : va_G} {ad : Nat → Nat → Nat} {cA : Nat → ClassId} {sz : Nat} {M : Mm} {av : List Value} : FrameBlind (va_Pc av (Pcx D ad cA sz M)) := fun a U g mk q => by
  obtain ⟨q0, q1, qP, qK, qD, qN⟩ := q
  exact ⟨q0, q1, qP, va_K.moved (u := U) (U := U.calling g mk a) (Vm.Alike.refl U.vm) qK, qD, fun w hw => va_Nw.same (gN_tab hw) (u := U) (U := U.calling g mk a) rfl (qN w hw)⟩
theorem r_callV {x : Xc} {l0 : Launch} {b : ByteArray} {own : String} {nl dd pc : Nat} {kt : Kt} {i ci n d nl' : Nat} {y : MethodName} {b' : ByteArray} {ret : Option FieldType} {T : Ct} (C : Cx x l0 b own nl dd) (hd : decode b pc = .ok (.invokevirtual i, 3)) (hM : MetT l0 y b' nl' ret d T) (hci : ci < 12) (hcl : ∃ (F : u_T) (N : Nat), cls12[ci]? = some (y.cls, F, N)) (hc : Cle y b' nl' ret n) (hl : lnk own i y) (hin : Cond.instanceMethod y ∈ gT) (hse : Cond.selects y.cls y y ∈ gT) (hdd : d + 1 ≤ dd) (h : Ok x (pc + 3) kt) : Ok x pc (c_callV ci n T kt) := by
  intro lo st M hk
  obtain ⟨as, r, rfl, hlen, hk⟩ := pops_spec hk
  rw [List.append_nil] at hk
  match r, hk with
  | .inr (some (g, s')) :: r', ⟨hg, hs, h4, hT⟩ =>
  subst hg
  obtain ⟨hcode, hini, hds, hnl'⟩ := hc
  obtain ⟨F, N, hcl⟩ := hcl
  refine J_run (rest := r') (P := fun v M' => kt lo (v.toList ++ r') M') (a := ((zr g s' :: as).map (cv x.2.2.2.2.2.2.2.2.2.2.2.2.2.1)).toArray) C (fun v M' hv => h lo _ M' hv) ?_
  obtain ⟨p, l, e, R, s, m, args, below, meth, c, ⟨cells, slots⟩, Q, D, ad, cA, A, nL⟩ := x
  obtain ⟨hx, hb, hml, hown, hts, hK, hD, hA, hc1, hc2, hlk, hnl, rfl, hrm, hN⟩ := C
  intro H locs ls hP hS hlv
  obtain ⟨k0, hk0, hw⟩ := wl_at ad cA M hs
  rw [cel_ob ad cA _ _ hci] at hw
  have hMt := hM D ad cA H.size (zr g s' :: as) M _ hT
  have hW2 := cat_le ad r'
  have hpre : PreV s H y.cls (ad g s') (va_Pc ((zr g s' :: as).map (cv ad)) (Pcx D ad cA H.size M)) (as.map (cv ad)) := ⟨Pcx_blind, va_recv hK hP hcl hw, fun U hU hW => ⟨rfl, by rw [hU], by rw [hU]; exact hP, va_K.moved hW.alike hK, (hD M).weaken (fun _ _ _ _ => trivial), fun w hw => gN_warm hw hW (hN w hw)⟩⟩
  have hstk : ((as.reverse ++ .inr (some (g, s')) :: r').map (cv ad)) = (as.map (cv ad)).reverse ++ Value.ref (ad g s') :: r'.map (cv ad) := by simp [cv]
  rw [hstk]
  have hn' : (as.map (cv ad)).length = n := by rw [List.length_map]; exact hlen
  have hroom : (rmd d).frames + 1 ≤ R.frames ∧ 8 + (nl' + 11) + (rmd d).locals ≤ R.locals := ⟨by show d + 1 ≤ _; omega, by show 8 + (nl' + 11) + 100 * d ≤ _; omega⟩
  rcases hl with hl | ⟨host, hl⟩
  · exact va_runV ⟨hx, hb, hml, hown, hts⟩ hMt ⟨callB_of n hts (GoodIn.code hcode) rfl rfl rfl (hts _ hini) (hts _ hl) hds hroom, hts _ hin, hts _ hse⟩ hpre rfl hn' hlv.1 rfl (by show 0 + _ ≤ 8; omega) hd ⟨by omega, by omega⟩
  · exact va_runVN ⟨hx, hb, hml, hown, hts⟩ hMt ⟨va_cnB n hts (GoodIn.code hcode) rfl rfl rfl (hN _ hl) (hts _ hini) hds hroom, hts _ hin, hts _ hse⟩ hpre rfl hn' hlv.1 rfl (by show 0 + _ ≤ 8; omega) hd ⟨by omega, by omega⟩
theorem r_callS {x : Xc} {l0 : Launch} {b : ByteArray} {own : String} {nl dd pc : Nat} {kt : Kt} {i n d nl' : Nat} {y : MethodName} {b' : ByteArray} {ret : Option FieldType} {T : Ct} (C : Cx x l0 b own nl dd) (hd : decode b pc = .ok (.invokestatic i, 3)) (hM : MetT l0 y b' nl' ret d T) (hc : Cle y b' nl' ret n) (hl : lnk own i y) (hst : Cond.static y ∈ gT) (hdd : d + 1 ≤ dd) (h : Ok x (pc + 3) kt) : Ok x pc (c_callS n T kt) := by
  intro lo st M hk
  obtain ⟨as, r', rfl, hlen, hk⟩ := pops_spec hk
  rw [List.append_nil] at hk
  obtain ⟨h4, hT⟩ := hk
  obtain ⟨hcode, hini, hds, hnl'⟩ := hc
  refine J_run (rest := r') (P := fun v M' => kt lo (v.toList ++ r') M') (a := (as.map (cv x.2.2.2.2.2.2.2.2.2.2.2.2.2.1)).toArray) C (fun v M' hv => h lo _ M' hv) ?_
  obtain ⟨p, l, e, R, s, m, args, below, meth, c, ⟨cells, slots⟩, Q, D, ad, cA, A, nL⟩ := x
  obtain ⟨hx, hb, hml, hown, hts, hK, hD, hA, hc1, hc2, hlk, hnl, rfl, hrm, hN⟩ := C
  intro H locs ls hP hS hlv
  have hMt := hM D ad cA H.size as M _ hT
  have hW2 := cat_le ad r'
  have hpre : PreS s H (va_Pc (as.map (cv ad)) (Pcx D ad cA H.size M)) (as.map (cv ad)) := ⟨Pcx_blind, fun U hU hW => ⟨rfl, by rw [hU], by rw [hU]; exact hP, va_K.moved hW.alike hK, (hD M).weaken (fun _ _ _ _ => trivial), fun w hw => gN_warm hw hW (hN w hw)⟩⟩
  have hstk : ((as.reverse ++ r').map (cv ad)) = (as.map (cv ad)).reverse ++ r'.map (cv ad) := by simp
  rw [hstk]
  have hn' : (as.map (cv ad)).length = n := by rw [List.length_map]; exact hlen
  have hroom : (rmd d).frames + 1 ≤ R.frames ∧ 8 + (nl' + 11) + (rmd d).locals ≤ R.locals := ⟨by show d + 1 ≤ _; omega, by show 8 + (nl' + 11) + 100 * d ≤ _; omega⟩
  rcases hl with hl | ⟨host, hl⟩
  · exact va_runS ⟨hx, hb, hml, hown, hts⟩ hMt ⟨callB_of n hts (GoodIn.code hcode) rfl rfl rfl (hts _ hini) (hts _ hl) hds hroom, hts _ hst⟩ hpre rfl hn' hlv.1 rfl (by show 0 + _ ≤ 8; omega) hd ⟨by omega, by omega⟩
  · exact va_runSN ⟨hx, hb, hml, hown, hts⟩ hMt ⟨va_cnB n hts (GoodIn.code hcode) rfl rfl rfl (hN _ hl) (hts _ hini) hds hroom, hts _ hst, trivial⟩ hpre rfl hn' hlv.1 rfl (by show 0 + _ ≤ 8; omega) hd ⟨by omega, by omega⟩
/-! returns -/
def Rx (x : Xc) (ret : Option FieldType) (P : Option AV → Mm → Prop) : Prop := match x with
  | (_, _, _, _, s, _, args, below, meth, _, (cells, slots), Q, D, ad, cA, A, _) => meth.sig.returnType = ret ∧ Q = MQ below (Qcx D ad cA A P) args s cells slots A
def c_iret (P : Option AV → Mm → Prop) : Kt := fun _ st M => match st with
  | [.inl (.inl z)] => P (some (zi z)) M
  | _ => False
def c_zret (P : Option AV → Mm → Prop) : Kt := fun _ st M => match st with
  | [.inl (.inl z)] => (z = 0 ∨ z = 1) ∧ P (some (zi z)) M
  | _ => False
def c_lret (P : Option AV → Mm → Prop) : Kt := fun _ st M => match st with
  | [.inl (.inr z)] => P (some (zl z)) M
  | _ => False
def c_vret (P : Option AV → Mm → Prop) : Kt := fun _ st M => match st with
  | [] => P none M
  | _ => False
theorem r_iret {x : Xc} {l0 : Launch} {b : ByteArray} {own : String} {nl dd pc : Nat} {P : Option AV → Mm → Prop} (C : Cx x l0 b own nl dd) (hR : Rx x (some .int) P) (hd : decode b pc = .ok (.ireturn, 1)) : Ok x pc (c_iret P) := by
  intro lo st M hk
  obtain ⟨p, l, e, R, s, m, args, below, meth, c, ⟨cells, slots⟩, Q, D, ad, cA, A, nL⟩ := x
  obtain ⟨hx, hb, hml, hown, hts, hK, hD, hA, hc1, hc2, hlk, hnl, hll, hrm, hN⟩ := C
  obtain ⟨hr, rfl⟩ := hR
  match st, hk with
  | [.inl (.inl z)], hk =>
    intro H locs ls hP hS hl
    exact W.iret hx hb hr (fun t ht hW => ⟨⟨some (zi z), M, rfl, hk, by rw [ht]; exact hP⟩, hS.F ht⟩) hS.2.2 hd hlk
theorem r_zret {x : Xc} {l0 : Launch} {b : ByteArray} {own : String} {nl dd pc : Nat} {P : Option AV → Mm → Prop} (C : Cx x l0 b own nl dd) (hR : Rx x (some .boolean) P) (hd : decode b pc = .ok (.ireturn, 1)) : Ok x pc (c_zret P) := by
  intro lo st M hk
  obtain ⟨p, l, e, R, s, m, args, below, meth, c, ⟨cells, slots⟩, Q, D, ad, cA, A, nL⟩ := x
  obtain ⟨hx, hb, hml, hown, hts, hK, hD, hA, hc1, hc2, hlk, hnl, hll, hrm, hN⟩ := C
  obtain ⟨hr, rfl⟩ := hR
  match st, hk with
  | [.inl (.inl z)], ⟨hz, hk⟩ =>
    intro H locs ls hP hS hl
    exact W.zret hx hb hr (nar_b hz).1 (fun t ht hW => ⟨⟨some (zi z), M, rfl, hk, by rw [ht]; exact hP⟩, hS.F ht⟩) hS.2.2 hd hlk
theorem r_lret {x : Xc} {l0 : Launch} {b : ByteArray} {own : String} {nl dd pc : Nat} {P : Option AV → Mm → Prop} (C : Cx x l0 b own nl dd) (hR : Rx x (some .long) P) (hd : decode b pc = .ok (.lreturn, 1)) : Ok x pc (c_lret P) := by
  intro lo st M hk
  obtain ⟨p, l, e, R, s, m, args, below, meth, c, ⟨cells, slots⟩, Q, D, ad, cA, A, nL⟩ := x
  obtain ⟨hx, hb, hml, hown, hts, hK, hD, hA, hc1, hc2, hlk, hnl, hll, hrm, hN⟩ := C
  obtain ⟨hr, rfl⟩ := hR
  match st, hk with
  | [.inl (.inr z)], hk =>
    intro H locs ls hP hS hl
    exact W.lret hx hb hr (fun t ht hW => ⟨⟨some (zl z), M, rfl, hk, by rw [ht]; exact hP⟩, hS.F ht⟩) hS.2.2 hd hlk
theorem r_vret {x : Xc} {l0 : Launch} {b : ByteArray} {own : String} {nl dd pc : Nat} {P : Option AV → Mm → Prop} (C : Cx x l0 b own nl dd) (hR : Rx x none P) (hd : decode b pc = .ok (.return_, 1)) : Ok x pc (c_vret P) := by
  intro lo st M hk
  obtain ⟨p, l, e, R, s, m, args, below, meth, c, ⟨cells, slots⟩, Q, D, ad, cA, A, nL⟩ := x
  obtain ⟨hx, hb, hml, hown, hts, hK, hD, hA, hc1, hc2, hlk, hnl, hll, hrm, hN⟩ := C
  obtain ⟨hr, rfl⟩ := hR
  match st, hk with
  | [], hk =>
    intro H locs ls hP hS hl
    exact W.vret hx hb hr (fun t ht hW => ⟨⟨none, M, rfl, hk, by rw [ht]; exact hP⟩, hS.F ht⟩) hS.2.2 hd hlk
/-! a method's entry -/
def elo : List AV → Lo
  | [] => []
  | .inl (.inr z) :: r => some (.inl (.inr z)) :: none :: elo r
  | .inl (.inl z) :: r => some (.inl (.inl z)) :: elo r
  | .inr v :: r => some (.inr v) :: elo r
def pad : Nat → Lo → Lo
  | 0, _ => []
  | n + 1, [] => none :: pad n []
  | n + 1, v :: r => v :: pad n r
theorem pad_at {n : Nat} : ∀ {lo : Lo} {i : Nat} {v : AV}, (pad n lo)[i]? = some (some v) → lo[i]? = some (some v) := by
  induction n with
  | zero => intro lo i v h; simp [pad] at h
  | succ n ih =>
    intro lo i v h
    cases lo with
    | nil =>
      cases i with
      | zero => simp [pad] at h
      | succ i =>
        have := ih (lo := []) (by simpa [pad] using h)
        simp at this
    | cons w lo =>
      cases i with
      | zero => simpa [pad] using h
      | succ i => simpa [pad] using ih (by simpa [pad] using h)
theorem elo_args (ad : Nat → Nat → Nat) (as : List AV) : ∀ (k i : Nat) (v : AV), (elo as)[i]? = some (some v) → (k + i, cv ad v) ∈ lv_args k (as.map (cv ad)) := by
  induction as with
  | nil => intro k i v h; simp [elo] at h
  | cons w as ih =>
    intro k i v h
    match w, h with
    | .inl (.inl z), h =>
      cases i with
      | zero =>
        simp only [elo, List.getElem?_cons_zero, Option.some.injEq] at h
        subst h
        exact List.mem_cons_self
      | succ i =>
        have := ih (k + 1) i v (by simpa [elo] using h)
        refine List.mem_cons_of_mem _ ?_
        rw [show k + (i + 1) = k + 1 + i by omega]
        exact this
    | .inl (.inr z), h =>
      cases i with
      | zero =>
        simp only [elo, List.getElem?_cons_zero, Option.some.injEq] at h
        subst h
        exact List.mem_cons_self
      | succ i =>
        cases i with
        | zero => simp [elo] at h
        | succ i =>
          have := ih (k + 2) i v (by simpa [elo] using h)
          refine List.mem_cons_of_mem _ ?_
          rw [show k + (i + 1 + 1) = k + 2 + i by omega]
          exact this
    | .inr (some q), h =>
      cases i with
      | zero =>
        simp only [elo, List.getElem?_cons_zero, Option.some.injEq] at h
        subst h
        exact List.mem_cons_self
      | succ i =>
        have := ih (k + 1) i v (by simpa [elo] using h)
        refine List.mem_cons_of_mem _ ?_
        rw [show k + (i + 1) = k + 1 + i by omega]
        exact this
    | .inr none, h =>
      cases i with
      | zero =>
        simp only [elo, List.getElem?_cons_zero, Option.some.injEq] at h
        subst h
        exact List.mem_cons_self
      | succ i =>
        have := ih (k + 1) i v (by simpa [elo] using h)
        refine List.mem_cons_of_mem _ ?_
        rw [show k + (i + 1) = k + 1 + i by omega]
        exact this
theorem elo_len (ad : Nat → Nat → Nat) (as : List AV) : (lg_sl (as.map (cv ad))).length = (elo as).length := by
  induction as with
  | nil => rfl
  | cons w as ih =>
    match w with
    | .inl (.inl z) => simpa [lg_sl, elo, cv, Value.category] using ih
    | .inl (.inr z) => simpa [lg_sl, elo, cv, Value.category] using ih
    | .inr (some q) => simpa [lg_sl, elo, cv, Value.category] using ih
    | .inr none => simpa [lg_sl, elo, cv, Value.category] using ih
theorem MetT.of {l : Launch} {y : MethodName} {b : ByteArray} {nl : Nat} {ret : Option FieldType} {d : Nat} {T : Ct} (hy : plainName y.cls = true) (hlen : ∀ as M P, T as M P → (elo as).length ≤ nl)
    (body : ∀ (x : Xc) (as : List AV) (M : Mm) (P : Option AV → Mm → Prop), T as M P → Cx x l b y.cls nl d → Rx x ret P → J x 0 (pad nl (elo as)) [] M) : MetT l y b nl ret d T := by
  intro D ad cA sz as M P hT
  refine Met.ofW (cc := b) (maxL := nl) (ret := ret) hy rfl ?_
  intro p e s m args below meth c s₁ B hml hv
  obtain ⟨rfl, hsz, hP, hK, hD0, hN⟩ := hv
  have hts := atoms_spec (ws := Cond.code y b nl ret :: gT) B.pre
  subst hsz
  have hbody := body (p, l, e, (headSpec (Cond.code y b nl ret :: gT) (rmd d)).room, s, m, _, below, meth, c, (0, 0), MQ below (Qcx D ad cA (va_A (wl ad cA M) s.heap.size) P) _ s 0 0 (va_A (wl ad cA M) s.heap.size), D, ad, cA, va_A (wl ad cA M) s.heap.size, nl) as M P hT ⟨B.exec, B.bytes, hml, findClass_of_methodNamed B.named, fun w hw => hts w (List.mem_cons_of_mem _ hw), hK, fun M' => wl_D (hD0.self (sz := s.heap.size)) M', fun q h => Or.inr h, Nat.zero_le _, Nat.zero_le _, B.notSynchronized, rfl, rfl, ⟨Nat.le_refl _, Nat.le_refl _⟩, hN⟩ ⟨B.returns, rfl⟩
  rw [lg_entry_eq]
  have hl := lv_entry (as.map (cv ad)) (n := nl) (by rw [elo_len]; exact hlen as M P hT)
  exact hbody s.heap [] _ hP va_S.rf ⟨hl.1, hl.2.1, fun i v h => hl.2.2 (i, cv ad v) (by have := elo_args ad as 0 i v (pad_at h); rwa [Nat.zero_add] at this)⟩
end
section
/-! switches, a shift, what is left -/
def tswP (z : Int) (lo : Lo) (r : List AV) (M : Mm) : Int → List Kt → Prop
  | _, [] => True
  | low, k :: ks => (z = low → k lo r M) ∧ tswP z lo r M (low + 1) ks
def c_tsw (low : Int) (ks : List Kt) (kd : Kt) : Kt := fun lo st M => match st with
  | .inl (.inl z) :: r => iR z ∧ tswP z lo r M low ks ∧ ((z < low ∨ low + ks.length ≤ z) → kd lo r M)
  | _ => False
def okL (x : Xc) : List Nat → List Kt → Prop
  | [], [] => True
  | t :: ts, k :: ks => Ok x t k ∧ okL x ts ks
  | _, _ => False
theorem okL_len {x : Xc} : ∀ {ts : List Nat} {ks : List Kt}, okL x ts ks → ts.length = ks.length
  | [], [], _ => rfl
  | _ :: _, _ :: _, h => by simp [okL_len h.2]
  | [], _ :: _, h => h.elim
  | _ :: _, [], h => h.elim
theorem okL_at {x : Xc} {z : Int} {lo : Lo} {r : List AV} {M : Mm} : ∀ {ts : List Nat} {ks : List Kt} {low : Int}, okL x ts ks → tswP z lo r M low ks → low ≤ z → z < low + ks.length → ∃ t : Nat, ts[(z - low).toNat]? = some t ∧ J x t lo r M
  | [], [], low, _, _, h1, h2 => by simp at h2; omega
  | t :: ts, k :: ks, low, h, q, h1, h2 => by
    by_cases e : z = low
    · refine ⟨t, ?_, h.1 lo r M (q.1 e)⟩
      rw [e, Int.sub_self]
      rfl
    · have hl : ((k :: ks).length : Int) = ks.length + 1 := by simp
      obtain ⟨t', h3, h4⟩ := okL_at (low := low + 1) h.2 q.2 (by omega) (by omega)
      refine ⟨t', ?_, h4⟩
      rw [show (z - low).toNat = (z - (low + 1)).toNat + 1 by omega]
      exact h3
  | [], _ :: _, _, h, _, _, _ => h.elim
  | _ :: _, [], _, h, _, _, _ => h.elim
theorem r_tsw {x : Xc} {l0 : Launch} {b : ByteArray} {own : String} {nl dd pc : Nat} {ks : List Kt} {kd : Kt} {dflt low high : Int} {offs : Array Int} {len : Nat} {ts : List Nat} {td : Nat} (C : Cx x l0 b own nl dd) (hd : decode b pc = .ok (.tableswitch dflt low high offs, len)) (ho : offs.toList = ts.map (fun t : Nat => (t : Int) - (pc : Int))) (hh : high = low + ts.length - 1) (htd : (pc : Int) + dflt = (td : Int)) (h1 : okL x ts ks) (h2 : Ok x td kd) : Ok x pc (c_tsw low ks kd) := by
  intro lo st M hk
  have hlen := okL_len h1
  match st, hk with
  | .inl (.inl z) :: r, ⟨hz, hq, hdf⟩ =>
  by_cases hin : low ≤ z ∧ z < low + ks.length
  · obtain ⟨t, ht, hJ⟩ := okL_at h1 hq hin.1 hin.2
    obtain ⟨p, l, e, R, s, m, args, below, meth, c, ⟨cells, slots⟩, Q, D, ad, cA, A, nL⟩ := x
    obtain ⟨hx, hb, hml, hown, hts, hK, hD, hA, hc1, hc2, hlk, hnl, hll, hrm, hN⟩ := C
    intro H locs ls hP hS hl
    refine lv_tableIn (off := (t : Int) - pc) hx hb hd (by rw [iR_to hz]; omega) (by rw [iR_to hz]; omega) ?_ (by omega) (hJ H locs ls hP hS hl)
    rw [iR_to hz, ← Array.getElem?_toList, ho, List.getElem?_map, ht]
    rfl
  · have hJ := h2 lo r M (hdf (by omega))
    obtain ⟨p, l, e, R, s, m, args, below, meth, c, ⟨cells, slots⟩, Q, D, ad, cA, A, nL⟩ := x
    obtain ⟨hx, hb, hml, hown, hts, hK, hD, hA, hc1, hc2, hlk, hnl, hll, hrm, hN⟩ := C
    intro H locs ls hP hS hl
    exact lv_tableOut hx hb hd (by rw [iR_to hz]; omega) htd (hJ H locs ls hP hS hl)
/-- a lookupswitch of the two keys 0 and 1 -/
def c_lsw (k0 k1 kd : Kt) : Kt := fun lo st M => match st with
  | .inl (.inl z) :: r => iR z ∧ (z = 0 → k0 lo r M) ∧ (z = 1 → k1 lo r M) ∧ (¬ z = 0 → ¬ z = 1 → kd lo r M)
  | _ => False
theorem r_lsw {x : Xc} {l0 : Launch} {b : ByteArray} {own : String} {nl dd pc : Nat} {k0 k1 kd : Kt} {dflt o0 o1 : Int} {ps : Array (Int × Int)} {len : Nat} {t0 t1 td : Nat} (C : Cx x l0 b own nl dd) (hd : decode b pc = .ok (.lookupswitch dflt ps, len)) (hps : ps.toList = [(0, o0), (1, o1)]) (h0 : (pc : Int) + o0 = (t0 : Int)) (h1 : (pc : Int) + o1 = (t1 : Int)) (htd : (pc : Int) + dflt = (td : Int)) (g0 : Ok x t0 k0) (g1 : Ok x t1 k1) (gd : Ok x td kd) : Ok x pc (c_lsw k0 k1 kd) := by
  intro lo st M hk
  match st, hk with
  | .inl (.inl z) :: r, ⟨hz, q0, q1, qd⟩ =>
  have hord : (ps.toList.zip (ps.toList.drop 1)).all (fun (a, next) => a.1 < next.1) = true := by rw [hps]; rfl
  by_cases e0 : z = 0
  · have hJ := g0 lo r M (q0 e0)
    obtain ⟨p, l, e, R, s, m, args, below, meth, c, ⟨cells, slots⟩, Q, D, ad, cA, A, nL⟩ := x
    obtain ⟨hx, hb, hml, hown, hts, hK, hD, hA, hc1, hc2, hlk, hnl, hll, hrm, hN⟩ := C
    intro H locs ls hP hS hl
    exact lv_lookup (off := o0) hx hb hd hord (by rw [iR_to hz, e0, hps]; simp [Op.lookupswitch.offset]) h0 (hJ H locs ls hP hS hl)
  · by_cases e1 : z = 1
    · have hJ := g1 lo r M (q1 e1)
      obtain ⟨p, l, e, R, s, m, args, below, meth, c, ⟨cells, slots⟩, Q, D, ad, cA, A, nL⟩ := x
      obtain ⟨hx, hb, hml, hown, hts, hK, hD, hA, hc1, hc2, hlk, hnl, hll, hrm, hN⟩ := C
      intro H locs ls hP hS hl
      exact lv_lookup (off := o1) hx hb hd hord (by rw [iR_to hz, e1, hps]; simp [Op.lookupswitch.offset]) h1 (hJ H locs ls hP hS hl)
    · have hJ := gd lo r M (qd e0 e1)
      obtain ⟨p, l, e, R, s, m, args, below, meth, c, ⟨cells, slots⟩, Q, D, ad, cA, A, nL⟩ := x
      obtain ⟨hx, hb, hml, hown, hts, hK, hD, hA, hc1, hc2, hlk, hnl, hll, hrm, hN⟩ := C
      intro H locs ls hP hS hl
      exact lv_lookup (off := dflt) hx hb hd hord (by rw [iR_to hz, hps]; simp [Op.lookupswitch.offset, Ne.symm e0, Ne.symm e1]) htd (hJ H locs ls hP hS hl)
theorem shl_pow (a : Int) : ∀ k : Nat, k < 64 → Int64.ofInt a <<< ((Int32.ofInt k).toInt64 &&& 63) = Int64.ofInt (a * 2 ^ k) := by
  intro k hk
  have e1 : ((Int32.ofInt k).toInt64 &&& 63) = Int64.ofNat k := by
    have : ∀ k : Fin 64, ((Int32.ofInt ((k : Nat) : Int)).toInt64 &&& 63) = Int64.ofNat (k : Nat) := by decide +kernel
    exact this ⟨k, hk⟩
  rw [e1]
  refine Int64.toBitVec_inj.mp ?_
  rw [Int64.toBitVec_shiftLeft]
  have e2 : (Int64.ofNat k).toBitVec.smod 64 = BitVec.ofNat 64 k := by
    have : ∀ k : Fin 64, (Int64.ofNat (k : Nat)).toBitVec.smod 64 = BitVec.ofNat 64 (k : Nat) := by decide +kernel
    exact this ⟨k, hk⟩
  rw [e2]
  have e3 : (Int64.ofInt a).toBitVec = BitVec.ofInt 64 a := rfl
  have e4 : (Int64.ofInt (a * 2 ^ k)).toBitVec = BitVec.ofInt 64 (a * 2 ^ k) := rfl
  rw [e3, e4, BitVec.shiftLeft_eq', BitVec.toNat_ofNat, Nat.mod_eq_of_lt (by omega), BitVec.shiftLeft_eq_mul_twoPow, BitVec.ofInt_mul]
  congr 1
  apply BitVec.eq_of_toNat_eq
  rw [BitVec.toNat_twoPow, BitVec.toNat_ofInt]
  have : (2 : Int) ^ k = ((2 ^ k : Nat) : Int) := by simp
  rw [this]
  omega
/-- a shift to the left by 0 .. 63 -/
def c_lshl (kt : Kt) : Kt := fun lo st M => match st with
  | .inl (.inl y) :: .inl (.inr z) :: r => (0 ≤ y ∧ y < 64) ∧ kt lo (zl (z * 2 ^ y.toNat) :: r) M
  | _ => False
theorem r_lshl {x : Xc} {l0 : Launch} {b : ByteArray} {own : String} {nl dd pc : Nat} {kt : Kt} (C : Cx x l0 b own nl dd) (hd : decode b pc = .ok (.lshl, 1)) (h : Ok x (pc + 1) kt) : Ok x pc (c_lshl kt) := by
  intro lo st M hk
  obtain ⟨p, l, e, R, s, m, args, below, meth, c, ⟨cells, slots⟩, Q, D, ad, cA, A, nL⟩ := x
  obtain ⟨hx, hb, hml, hown, hts, hK, hD, hA, hc1, hc2, hlk, hnl, hll, hrm, hN⟩ := C
  match st, hk with
  | .inl (.inl y) :: .inl (.inr z) :: r, ⟨hy, hk⟩ =>
    intro H locs ls hP hS hl
    refine lv_lshl (v := Int64.ofInt (z * 2 ^ y.toNat)) hx hb hd ?_ (h lo _ M hk H locs ls hP hS hl)
    have := shl_pow z y.toNat (by omega)
    rwa [Int.toNat_of_nonneg hy.1] at this
/-! tables of instructions -/
def decs (b : ByteArray) (l : List (Nat × Instr × Nat)) : Prop := ∀ q ∈ l, decode b q.1 = .ok q.2
theorem decs_at {b : ByteArray} {l : List (Nat × Instr × Nat)} (h : decs b l) (k : Nat) {pc n : Nat} {i : Instr} (hk : l[k]? = some (pc, i, n)) : decode b pc = .ok (i, n) := h (pc, i, n) (List.mem_of_getElem? hk)
theorem lays_of {ws : List Cond} (is : List Nat) (h : is.filterMap (fun i => tables_1[i]?) = ws) (hg : ws.all goodWord = true) : ∀ w ∈ ws, w ∈ gT := by
  intro w hw
  have h2 := List.all_eq_true.mp hg w hw
  rw [← h] at hw
  obtain ⟨i, -, hi⟩ := List.mem_filterMap.mp hw
  exact gT_of i hi h2
end
section
/-! blocks of methods: by program (own work) out of the printed decode rows -/
theorem lays_9 : ∀ w ∈ u_ws RX9 TX9 5, w ∈ gT := lays_of [121, 123, 125, 127, 129] (by decide +kernel) (by decide +kernel)
theorem fl_RX9_23 : fLk RX9 23 9 3 := ⟨by decide, RX9, TX9, 5, rfl, by decide, lays_9, Or.inl (gT_of 116 (by decide +kernel) rfl)⟩
theorem fl_RX9_27 : fLk RX9 27 9 4 := ⟨by decide, RX9, TX9, 5, rfl, by decide, lays_9, Or.inl (gT_of 119 (by decide +kernel) rfl)⟩
theorem fl_RX9_15 : fLk RX9 15 9 0 := ⟨by decide, RX9, TX9, 5, rfl, by decide, lays_9, Or.inl (gT_of 113 (by decide +kernel) rfl)⟩
theorem fl_RX9_30 : fLk RX9 30 9 2 := ⟨by decide, RX9, TX9, 5, rfl, by decide, lays_9, Or.inl (gT_of 115 (by decide +kernel) rfl)⟩
theorem fl_RX9_19 : fLk RX9 19 9 1 := ⟨by decide, RX9, TX9, 5, rfl, by decide, lays_9, Or.inl (gT_of 114 (by decide +kernel) rfl)⟩
theorem lk_RX9_9 : lnk RX9 9 yX9_startOfSums := Or.inl (gT_of 110 (by decide +kernel) rfl)
theorem cle_X9_startOfSums : Cle yX9_startOfSums cX9_startOfSums 1 (some .int) 1 := ⟨gT_of 112 (by rfl) rfl, gT_of 6 (by decide +kernel) rfl, ⟨by decide +kernel, by decide +kernel, by decide +kernel⟩, by decide⟩
theorem sta_X9_startOfSums : Cond.static yX9_startOfSums ∈ gT := gT_of 111 (by decide +kernel) rfl
theorem lk_RX9_33 : lnk RX9 33 yX9_greatestSum := Or.inl (gT_of 432 (by decide +kernel) rfl)
theorem cle_X9_greatestSum : Cle yX9_greatestSum cX9_greatestSum 3 (some .int) 2 := ⟨gT_of 435 (by rfl) rfl, gT_of 6 (by decide +kernel) rfl, ⟨by decide +kernel, by decide +kernel, by decide +kernel⟩, by decide⟩
theorem im_X9_greatestSum : Cond.instanceMethod yX9_greatestSum ∈ gT := gT_of 434 (by decide +kernel) rfl
theorem sel_X9_greatestSum : Cond.selects yX9_greatestSum.cls yX9_greatestSum yX9_greatestSum ∈ gT := gT_ofP 4 (by decide +kernel) rfl
def tl_X9_of : List (Nat × Instr × Nat) := [(0, .iload_n 1, 1), (1, .aload_n 0, 1), (2, .getfield 23, 3), (5, .if_icmp .lt 11, 3), (8, .iload_n 1, 1), (9, .aload_n 0, 1), (10, .getfield 27, 3), (13, .if_icmp .le 7, 3), (16, .lconst 0, 1), (17, .goto 14, 3), (20, .aload_n 0, 1), (21, .getfield 15, 3), (24, .aload_n 0, 1), (25, .getfield 30, 3), (28, .iload_n 1, 1), (29, .iadd, 1), (30, .laload, 1), (31, .lreturn, 1)]
theorem tb_X9_of : decs cX9_of tl_X9_of := by unfold decs; decide +kernel
theorem B_X9_of_0 {x : Xc} {l0 : Launch} {dd : Nat} (C : Cx x l0 cX9_of RX9 2 dd) {P : Option AV → Mm → Prop} (hR : Rx x (some .long) P) : Ok x 0 (c_iload 1 <| c_aload 0 <| c_gi 9 3 <| c_icmp_lt (c_lc 0 <| c_goto <| c_lret P) (c_iload 1 <| c_aload 0 <| c_gi 9 4 <| c_icmp_le (c_aload 0 <| c_gr 9 0 28 <| c_aload 0 <| c_gi 9 2 <| c_iload 1 <| c_iadd <| c_lald <| c_lret P) (c_lc 0 <| c_goto <| c_lret P))) :=
  r_iload_n C (decs_at tb_X9_of 0 rfl) rfl <| r_aload_n C (decs_at tb_X9_of 1 rfl) rfl <| r_gi C (decs_at tb_X9_of 2 rfl) fl_RX9_23 (by decide) <| r_icmp_lt (tgt := 16) C (decs_at tb_X9_of 3 rfl) (by decide) (r_lconst (z := 0) C (decs_at tb_X9_of 8 rfl) (by decide) <| r_goto (tgt := 31) C (decs_at tb_X9_of 9 rfl) (by decide) <| r_lret C hR (decs_at tb_X9_of 17 rfl)) (r_iload_n C (decs_at tb_X9_of 4 rfl) rfl <| r_aload_n C (decs_at tb_X9_of 5 rfl) rfl <| r_gi C (decs_at tb_X9_of 6 rfl) fl_RX9_27 (by decide) <| r_icmp_le (tgt := 20) C (decs_at tb_X9_of 7 rfl) (by decide) (r_aload_n C (decs_at tb_X9_of 10 rfl) rfl <| r_gr C (decs_at tb_X9_of 11 rfl) fl_RX9_15 rfl <| r_aload_n C (decs_at tb_X9_of 12 rfl) rfl <| r_gi C (decs_at tb_X9_of 13 rfl) fl_RX9_30 (by decide) <| r_iload_n C (decs_at tb_X9_of 14 rfl) rfl <| r_iadd C (decs_at tb_X9_of 15 rfl) <| r_lald C (decs_at tb_X9_of 16 rfl) <| r_lret C hR (decs_at tb_X9_of 17 rfl)) (r_lconst (z := 0) C (decs_at tb_X9_of 8 rfl) (by decide) <| r_goto (tgt := 31) C (decs_at tb_X9_of 9 rfl) (by decide) <| r_lret C hR (decs_at tb_X9_of 17 rfl)))
def tl_X9_clear : List (Nat × Instr × Nat) := [(0, .iload_n 1, 1), (1, .istore_n 3, 1), (2, .iload_n 3, 1), (3, .iload_n 2, 1), (4, .if_icmp .gt 16, 3), (7, .aload_n 0, 1), (8, .getfield 15, 3), (11, .iload_n 3, 1), (12, .lconst 0, 1), (13, .lastore, 1), (14, .iinc 3 1, 3), (17, .goto (-15), 3), (20, .return_, 1)]
theorem tb_X9_clear : decs cX9_clear tl_X9_clear := by unfold decs; decide +kernel
theorem B_X9_clear_0 {x : Xc} {l0 : Launch} {dd : Nat} (C : Cx x l0 cX9_clear RX9 4 dd) : Ok x 0 (c_iload 1 <| c_istore 3 <| J x 2) :=
  r_iload_n C (decs_at tb_X9_clear 0 rfl) rfl <| r_istore_n C (decs_at tb_X9_clear 1 rfl) rfl (by decide) <| okJ x 2
theorem B_X9_clear_2 {x : Xc} {l0 : Launch} {dd : Nat} (C : Cx x l0 cX9_clear RX9 4 dd) {P : Option AV → Mm → Prop} (hR : Rx x none P) : Ok x 2 (c_iload 3 <| c_iload 2 <| c_icmp_gt (c_vret P) (c_aload 0 <| c_gr 9 0 28 <| c_iload 3 <| c_lc 0 <| c_last <| c_iinc 3 1 <| c_goto <| J x 2)) :=
  r_iload_n C (decs_at tb_X9_clear 2 rfl) rfl <| r_iload_n C (decs_at tb_X9_clear 3 rfl) rfl <| r_icmp_gt (tgt := 20) C (decs_at tb_X9_clear 4 rfl) (by decide) (r_vret C hR (decs_at tb_X9_clear 12 rfl)) (r_aload_n C (decs_at tb_X9_clear 5 rfl) rfl <| r_gr C (decs_at tb_X9_clear 6 rfl) fl_RX9_15 rfl <| r_iload_n C (decs_at tb_X9_clear 7 rfl) rfl <| r_lconst (z := 0) C (decs_at tb_X9_clear 8 rfl) (by decide) <| r_last C (decs_at tb_X9_clear 9 rfl) <| r_iinc C (decs_at tb_X9_clear 10 rfl) (by decide) <| r_goto (tgt := 2) C (decs_at tb_X9_clear 11 rfl) (by decide) <| okJ x 2)
def tl_X9_greatestSum : List (Nat × Instr × Nat) := [(0, .aload_n 0, 1), (1, .getfield 19, 3), (4, .iload_n 1, 1), (5, .iaload, 1), (6, .aload_n 0, 1), (7, .getfield 19, 3), (10, .iload_n 1, 1), (11, .iload_n 2, 1), (12, .isub, 1), (13, .iaload, 1), (14, .isub, 1), (15, .ireturn, 1)]
theorem tb_X9_greatestSum : decs cX9_greatestSum tl_X9_greatestSum := by unfold decs; decide +kernel
theorem B_X9_greatestSum_0 {x : Xc} {l0 : Launch} {dd : Nat} (C : Cx x l0 cX9_greatestSum RX9 3 dd) {P : Option AV → Mm → Prop} (hR : Rx x (some .int) P) : Ok x 0 (c_aload 0 <| c_gr 9 1 29 <| c_iload 1 <| c_iald <| c_aload 0 <| c_gr 9 1 29 <| c_iload 1 <| c_iload 2 <| c_isub <| c_iald <| c_isub <| c_iret P) :=
  r_aload_n C (decs_at tb_X9_greatestSum 0 rfl) rfl <| r_gr C (decs_at tb_X9_greatestSum 1 rfl) fl_RX9_19 rfl <| r_iload_n C (decs_at tb_X9_greatestSum 2 rfl) rfl <| r_iald C (decs_at tb_X9_greatestSum 3 rfl) <| r_aload_n C (decs_at tb_X9_greatestSum 4 rfl) rfl <| r_gr C (decs_at tb_X9_greatestSum 5 rfl) fl_RX9_19 rfl <| r_iload_n C (decs_at tb_X9_greatestSum 6 rfl) rfl <| r_iload_n C (decs_at tb_X9_greatestSum 7 rfl) rfl <| r_isub C (decs_at tb_X9_greatestSum 8 rfl) <| r_iald C (decs_at tb_X9_greatestSum 9 rfl) <| r_isub C (decs_at tb_X9_greatestSum 10 rfl) <| r_iret C hR (decs_at tb_X9_greatestSum 11 rfl)
def tl_X9_startOfSums : List (Nat × Instr × Nat) := [(0, .sipush 1000, 3), (3, .iload_n 0, 1), (4, .iload_n 0, 1), (5, .iconst 1, 1), (6, .isub, 1), (7, .imul, 1), (8, .iconst 2, 1), (9, .idiv, 1), (10, .imul, 1), (11, .iload_n 0, 1), (12, .iadd, 1), (13, .ireturn, 1)]
theorem tb_X9_startOfSums : decs cX9_startOfSums tl_X9_startOfSums := by unfold decs; decide +kernel
theorem B_X9_startOfSums_0 {x : Xc} {l0 : Launch} {dd : Nat} (C : Cx x l0 cX9_startOfSums RX9 1 dd) {P : Option AV → Mm → Prop} (hR : Rx x (some .int) P) : Ok x 0 (c_ic 1000 <| c_iload 0 <| c_iload 0 <| c_ic 1 <| c_isub <| c_imul <| c_ic 2 <| c_idiv <| c_imul <| c_iload 0 <| c_iadd <| c_iret P) :=
  r_sipush C (decs_at tb_X9_startOfSums 0 rfl) (by decide) <| r_iload_n C (decs_at tb_X9_startOfSums 1 rfl) rfl <| r_iload_n C (decs_at tb_X9_startOfSums 2 rfl) rfl <| r_iconst C (decs_at tb_X9_startOfSums 3 rfl) <| r_isub C (decs_at tb_X9_startOfSums 4 rfl) <| r_imul C (decs_at tb_X9_startOfSums 5 rfl) <| r_iconst C (decs_at tb_X9_startOfSums 6 rfl) <| r_idiv C (decs_at tb_X9_startOfSums 7 rfl) <| r_imul C (decs_at tb_X9_startOfSums 8 rfl) <| r_iload_n C (decs_at tb_X9_startOfSums 9 rfl) rfl <| r_iadd C (decs_at tb_X9_startOfSums 10 rfl) <| r_iret C hR (decs_at tb_X9_startOfSums 11 rfl)
def tl_X9_chooseNext : List (Nat × Instr × Nat) := [(0, .iload_n 2, 1), (1, .iconst 1, 1), (2, .isub, 1), (3, .invokestatic 9, 3), (6, .istore 4, 2), (8, .iload_n 2, 1), (9, .invokestatic 9, 3), (12, .iload_n 3, 1), (13, .iadd, 1), (14, .istore 5, 2), (16, .aload_n 0, 1), (17, .iload_n 1, 1), (18, .iconst 1, 1), (19, .isub, 1), (20, .iload_n 2, 1), (21, .iconst 1, 1), (22, .isub, 1), (23, .invokevirtual 33, 3), (26, .istore 6, 2), (28, .aload_n 0, 1), (29, .getfield 19, 3), (32, .iload_n 2, 1), (33, .iconst 1, 1), (34, .isub, 1), (35, .iaload, 1), (36, .istore 7, 2), (38, .iload 7, 2), (40, .iload 6, 2), (42, .if_icmp .gt 32, 3), (45, .aload_n 0, 1), (46, .getfield 15, 3), (49, .iload 5, 2), (51, .iload 7, 2), (53, .iadd, 1), (54, .dup2, 1), (55, .laload, 1), (56, .aload_n 0, 1), (57, .getfield 15, 3), (60, .iload 4, 2), (62, .iload 7, 2), (64, .iadd, 1), (65, .laload, 1), (66, .ladd, 1), (67, .lastore, 1), (68, .iinc 7 1, 3), (71, .goto (-33), 3), (74, .return_, 1)]
theorem tb_X9_chooseNext : decs cX9_chooseNext tl_X9_chooseNext := by unfold decs; decide +kernel
theorem B_X9_chooseNext_0 {x : Xc} {l0 : Launch} {dd : Nat} (C : Cx x l0 cX9_chooseNext RX9 8 dd) {d_X9_startOfSums : Nat} {T_X9_startOfSums : Ct} (h_X9_startOfSums : MetT l0 yX9_startOfSums cX9_startOfSums 1 (some .int) d_X9_startOfSums T_X9_startOfSums) (e_X9_startOfSums : d_X9_startOfSums + 1 ≤ dd) {d_X9_greatestSum : Nat} {T_X9_greatestSum : Ct} (h_X9_greatestSum : MetT l0 yX9_greatestSum cX9_greatestSum 3 (some .int) d_X9_greatestSum T_X9_greatestSum) (e_X9_greatestSum : d_X9_greatestSum + 1 ≤ dd) : Ok x 0 (c_iload 2 <| c_ic 1 <| c_isub <| c_callS 1 T_X9_startOfSums <| c_istore 4 <| c_iload 2 <| c_callS 1 T_X9_startOfSums <| c_iload 3 <| c_iadd <| c_istore 5 <| c_aload 0 <| c_iload 1 <| c_ic 1 <| c_isub <| c_iload 2 <| c_ic 1 <| c_isub <| c_callV 9 2 T_X9_greatestSum <| c_istore 6 <| c_aload 0 <| c_gr 9 1 29 <| c_iload 2 <| c_ic 1 <| c_isub <| c_iald <| c_istore 7 <| J x 38) :=
  r_iload_n C (decs_at tb_X9_chooseNext 0 rfl) rfl <| r_iconst C (decs_at tb_X9_chooseNext 1 rfl) <| r_isub C (decs_at tb_X9_chooseNext 2 rfl) <| r_callS C (decs_at tb_X9_chooseNext 3 rfl) h_X9_startOfSums cle_X9_startOfSums lk_RX9_9 sta_X9_startOfSums e_X9_startOfSums <| r_istore C (decs_at tb_X9_chooseNext 4 rfl) (by decide) <| r_iload_n C (decs_at tb_X9_chooseNext 5 rfl) rfl <| r_callS C (decs_at tb_X9_chooseNext 6 rfl) h_X9_startOfSums cle_X9_startOfSums lk_RX9_9 sta_X9_startOfSums e_X9_startOfSums <| r_iload_n C (decs_at tb_X9_chooseNext 7 rfl) rfl <| r_iadd C (decs_at tb_X9_chooseNext 8 rfl) <| r_istore C (decs_at tb_X9_chooseNext 9 rfl) (by decide) <| r_aload_n C (decs_at tb_X9_chooseNext 10 rfl) rfl <| r_iload_n C (decs_at tb_X9_chooseNext 11 rfl) rfl <| r_iconst C (decs_at tb_X9_chooseNext 12 rfl) <| r_isub C (decs_at tb_X9_chooseNext 13 rfl) <| r_iload_n C (decs_at tb_X9_chooseNext 14 rfl) rfl <| r_iconst C (decs_at tb_X9_chooseNext 15 rfl) <| r_isub C (decs_at tb_X9_chooseNext 16 rfl) <| r_callV C (decs_at tb_X9_chooseNext 17 rfl) h_X9_greatestSum (by decide) ⟨_, _, rfl⟩ cle_X9_greatestSum lk_RX9_33 im_X9_greatestSum sel_X9_greatestSum e_X9_greatestSum <| r_istore C (decs_at tb_X9_chooseNext 18 rfl) (by decide) <| r_aload_n C (decs_at tb_X9_chooseNext 19 rfl) rfl <| r_gr C (decs_at tb_X9_chooseNext 20 rfl) fl_RX9_19 rfl <| r_iload_n C (decs_at tb_X9_chooseNext 21 rfl) rfl <| r_iconst C (decs_at tb_X9_chooseNext 22 rfl) <| r_isub C (decs_at tb_X9_chooseNext 23 rfl) <| r_iald C (decs_at tb_X9_chooseNext 24 rfl) <| r_istore C (decs_at tb_X9_chooseNext 25 rfl) (by decide) <| okJ x 38
theorem B_X9_chooseNext_38 {x : Xc} {l0 : Launch} {dd : Nat} (C : Cx x l0 cX9_chooseNext RX9 8 dd) {P : Option AV → Mm → Prop} (hR : Rx x none P) : Ok x 38 (c_iload 7 <| c_iload 6 <| c_icmp_gt (c_vret P) (c_aload 0 <| c_gr 9 0 28 <| c_iload 5 <| c_iload 7 <| c_iadd <| c_dup2 <| c_lald <| c_aload 0 <| c_gr 9 0 28 <| c_iload 4 <| c_iload 7 <| c_iadd <| c_lald <| c_ladd <| c_last <| c_iinc 7 1 <| c_goto <| J x 38)) :=
  r_iload C (decs_at tb_X9_chooseNext 26 rfl) <| r_iload C (decs_at tb_X9_chooseNext 27 rfl) <| r_icmp_gt (tgt := 74) C (decs_at tb_X9_chooseNext 28 rfl) (by decide) (r_vret C hR (decs_at tb_X9_chooseNext 46 rfl)) (r_aload_n C (decs_at tb_X9_chooseNext 29 rfl) rfl <| r_gr C (decs_at tb_X9_chooseNext 30 rfl) fl_RX9_15 rfl <| r_iload C (decs_at tb_X9_chooseNext 31 rfl) <| r_iload C (decs_at tb_X9_chooseNext 32 rfl) <| r_iadd C (decs_at tb_X9_chooseNext 33 rfl) <| r_dup2 C (decs_at tb_X9_chooseNext 34 rfl) <| r_lald C (decs_at tb_X9_chooseNext 35 rfl) <| r_aload_n C (decs_at tb_X9_chooseNext 36 rfl) rfl <| r_gr C (decs_at tb_X9_chooseNext 37 rfl) fl_RX9_15 rfl <| r_iload C (decs_at tb_X9_chooseNext 38 rfl) <| r_iload C (decs_at tb_X9_chooseNext 39 rfl) <| r_iadd C (decs_at tb_X9_chooseNext 40 rfl) <| r_lald C (decs_at tb_X9_chooseNext 41 rfl) <| r_ladd C (decs_at tb_X9_chooseNext 42 rfl) <| r_last C (decs_at tb_X9_chooseNext 43 rfl) <| r_iinc C (decs_at tb_X9_chooseNext 44 rfl) (by decide) <| r_goto (tgt := 38) C (decs_at tb_X9_chooseNext 45 rfl) (by decide) <| okJ x 38)
end
