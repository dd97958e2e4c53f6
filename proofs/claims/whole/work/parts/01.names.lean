-- ===== PART A: goes FIRST, ahead of the names: the tables' words, and 'selects' of the private methods out of them =====
/-- a private method of a class that the tables say can be made, by its rows of tables_1 -/
def lw_okq (q : MethodName × Nat) : Prop := (q.1.cls ≠ "java/lang/invoke/MethodHandle" ∧ q.1.cls ≠ "java/lang/invoke/VarHandle") ∧ Cond.instantiable q.1.cls q.2 ∈ tables_1 ∧ Cond.privateMethod q.1 ∈ tables_1 ∧ Cond.instanceMethod q.1 ∈ tables_1
theorem lw_p0 : lw_okq (⟨"CloudBench", "areTwo", "(II)Z"⟩, 8) := ⟨⟨by decide +kernel, by decide +kernel⟩, List.mem_of_getElem? (i := 21) (by decide +kernel), List.mem_of_getElem? (i := 373) (by decide +kernel), List.mem_of_getElem? (i := 374) (by decide +kernel)⟩
theorem lw_p1 : lw_okq (⟨"CloudBench$Reach", "gatherGaps", "(LCloudBench$Sample;LCloudBench$Sample;)I"⟩, 9) := ⟨⟨by decide +kernel, by decide +kernel⟩, List.mem_of_getElem? (i := 204) (by decide +kernel), List.mem_of_getElem? (i := 414) (by decide +kernel), List.mem_of_getElem? (i := 415) (by decide +kernel)⟩
theorem lw_p2 : lw_okq (⟨"CloudBench$Reach", "findStep", "(IIII)I"⟩, 9) := ⟨⟨by decide +kernel, by decide +kernel⟩, List.mem_of_getElem? (i := 204) (by decide +kernel), List.mem_of_getElem? (i := 421) (by decide +kernel), List.mem_of_getElem? (i := 422) (by decide +kernel)⟩
theorem lw_p3 : lw_okq (⟨"CloudBench$Reach", "countPairs", "(II)V"⟩, 9) := ⟨⟨by decide +kernel, by decide +kernel⟩, List.mem_of_getElem? (i := 204) (by decide +kernel), List.mem_of_getElem? (i := 425) (by decide +kernel), List.mem_of_getElem? (i := 426) (by decide +kernel)⟩
theorem lw_p4 : lw_okq (⟨"CloudBench$Ways", "greatestSum", "(II)I"⟩, 5) := ⟨⟨by decide +kernel, by decide +kernel⟩, List.mem_of_getElem? (i := 105) (by decide +kernel), List.mem_of_getElem? (i := 433) (by decide +kernel), List.mem_of_getElem? (i := 434) (by decide +kernel)⟩
theorem lw_p5 : lw_okq (⟨"CloudBench$Ways", "clear", "(II)V"⟩, 5) := ⟨⟨by decide +kernel, by decide +kernel⟩, List.mem_of_getElem? (i := 105) (by decide +kernel), List.mem_of_getElem? (i := 437) (by decide +kernel), List.mem_of_getElem? (i := 438) (by decide +kernel)⟩
theorem lw_p6 : lw_okq (⟨"CloudBench$Ways", "chooseNext", "(III)V"⟩, 5) := ⟨⟨by decide +kernel, by decide +kernel⟩, List.mem_of_getElem? (i := 105) (by decide +kernel), List.mem_of_getElem? (i := 445) (by decide +kernel), List.mem_of_getElem? (i := 446) (by decide +kernel)⟩
theorem lw_p7 : lw_okq (⟨"CloudBench$Ways", "settle", "(III)V"⟩, 5) := ⟨⟨by decide +kernel, by decide +kernel⟩, List.mem_of_getElem? (i := 105) (by decide +kernel), List.mem_of_getElem? (i := 449) (by decide +kernel), List.mem_of_getElem? (i := 450) (by decide +kernel)⟩
theorem lw_p8 : lw_okq (⟨"CloudBench$Grid", "addUp", "()V"⟩, 13) := ⟨⟨by decide +kernel, by decide +kernel⟩, List.mem_of_getElem? (i := 243) (by decide +kernel), List.mem_of_getElem? (i := 497) (by decide +kernel), List.mem_of_getElem? (i := 498) (by decide +kernel)⟩
theorem lw_p9 : lw_okq (⟨"CloudBench$Grid", "waysToSplit", "(III)J"⟩, 13) := ⟨⟨by decide +kernel, by decide +kernel⟩, List.mem_of_getElem? (i := 243) (by decide +kernel), List.mem_of_getElem? (i := 501) (by decide +kernel), List.mem_of_getElem? (i := 502) (by decide +kernel)⟩
theorem lw_p10 : lw_okq (⟨"CloudBench$Grid", "tally", "()V"⟩, 13) := ⟨⟨by decide +kernel, by decide +kernel⟩, List.mem_of_getElem? (i := 243) (by decide +kernel), List.mem_of_getElem? (i := 506) (by decide +kernel), List.mem_of_getElem? (i := 507) (by decide +kernel)⟩
theorem lw_p11 : lw_okq (⟨"CloudBench$Grid", "fillColumn", "(IIIIJ)V"⟩, 13) := ⟨⟨by decide +kernel, by decide +kernel⟩, List.mem_of_getElem? (i := 243) (by decide +kernel), List.mem_of_getElem? (i := 510) (by decide +kernel), List.mem_of_getElem? (i := 511) (by decide +kernel)⟩
theorem lw_p12 : lw_okq (⟨"CloudBench$Grid", "note", "(J)V"⟩, 13) := ⟨⟨by decide +kernel, by decide +kernel⟩, List.mem_of_getElem? (i := 243) (by decide +kernel), List.mem_of_getElem? (i := 514) (by decide +kernel), List.mem_of_getElem? (i := 515) (by decide +kernel)⟩
theorem lw_p13 : lw_okq (⟨"CloudBench$Grid", "fillBelow", "(IIIIIJ)V"⟩, 13) := ⟨⟨by decide +kernel, by decide +kernel⟩, List.mem_of_getElem? (i := 243) (by decide +kernel), List.mem_of_getElem? (i := 520) (by decide +kernel), List.mem_of_getElem? (i := 521) (by decide +kernel)⟩
theorem lw_p14 : lw_okq (⟨"CloudBench", "canBeAsked", "(III)Z"⟩, 8) := ⟨⟨by decide +kernel, by decide +kernel⟩, List.mem_of_getElem? (i := 21) (by decide +kernel), List.mem_of_getElem? (i := 529) (by decide +kernel), List.mem_of_getElem? (i := 530) (by decide +kernel)⟩
theorem lw_p15 : lw_okq (⟨"CloudBench$Question", "poseSums", "(LCloudBench$Sample;LCloudBench$Sample;)V"⟩, 14) := ⟨⟨by decide +kernel, by decide +kernel⟩, List.mem_of_getElem? (i := 133) (by decide +kernel), List.mem_of_getElem? (i := 548) (by decide +kernel), List.mem_of_getElem? (i := 549) (by decide +kernel)⟩
def lw_privs_1 : List (MethodName × Nat) := [(⟨"CloudBench", "areTwo", "(II)Z"⟩, 8), (⟨"CloudBench$Reach", "gatherGaps", "(LCloudBench$Sample;LCloudBench$Sample;)I"⟩, 9), (⟨"CloudBench$Reach", "findStep", "(IIII)I"⟩, 9), (⟨"CloudBench$Reach", "countPairs", "(II)V"⟩, 9), (⟨"CloudBench$Ways", "greatestSum", "(II)I"⟩, 5), (⟨"CloudBench$Ways", "clear", "(II)V"⟩, 5), (⟨"CloudBench$Ways", "chooseNext", "(III)V"⟩, 5), (⟨"CloudBench$Ways", "settle", "(III)V"⟩, 5), (⟨"CloudBench$Grid", "addUp", "()V"⟩, 13), (⟨"CloudBench$Grid", "waysToSplit", "(III)J"⟩, 13), (⟨"CloudBench$Grid", "tally", "()V"⟩, 13), (⟨"CloudBench$Grid", "fillColumn", "(IIIIJ)V"⟩, 13), (⟨"CloudBench$Grid", "note", "(J)V"⟩, 13), (⟨"CloudBench$Grid", "fillBelow", "(IIIIIJ)V"⟩, 13), (⟨"CloudBench", "canBeAsked", "(III)Z"⟩, 8), (⟨"CloudBench$Question", "poseSums", "(LCloudBench$Sample;LCloudBench$Sample;)V"⟩, 14)]
theorem lw_r1 : ∀ q ∈ lw_privs_1, lw_okq q := List.forall_mem_cons.mpr ⟨lw_p0, List.forall_mem_cons.mpr ⟨lw_p1, List.forall_mem_cons.mpr ⟨lw_p2, List.forall_mem_cons.mpr ⟨lw_p3, List.forall_mem_cons.mpr ⟨lw_p4, List.forall_mem_cons.mpr ⟨lw_p5, List.forall_mem_cons.mpr ⟨lw_p6, List.forall_mem_cons.mpr ⟨lw_p7, List.forall_mem_cons.mpr ⟨lw_p8, List.forall_mem_cons.mpr ⟨lw_p9, List.forall_mem_cons.mpr ⟨lw_p10, List.forall_mem_cons.mpr ⟨lw_p11, List.forall_mem_cons.mpr ⟨lw_p12, List.forall_mem_cons.mpr ⟨lw_p13, List.forall_mem_cons.mpr ⟨lw_p14, List.forall_mem_cons.mpr ⟨lw_p15, fun _ h => absurd h List.not_mem_nil⟩⟩⟩⟩⟩⟩⟩⟩⟩⟩⟩⟩⟩⟩⟩⟩
theorem lw_p16 : lw_okq (⟨"CloudBench$Question", "poseChoice", "(LCloudBench$Sample;LCloudBench$Sample;)V"⟩, 14) := ⟨⟨by decide +kernel, by decide +kernel⟩, List.mem_of_getElem? (i := 133) (by decide +kernel), List.mem_of_getElem? (i := 552) (by decide +kernel), List.mem_of_getElem? (i := 553) (by decide +kernel)⟩
theorem lw_p17 : lw_okq (⟨"CloudBench$Question", "measure", "(IIII)V"⟩, 14) := ⟨⟨by decide +kernel, by decide +kernel⟩, List.mem_of_getElem? (i := 133) (by decide +kernel), List.mem_of_getElem? (i := 566) (by decide +kernel), List.mem_of_getElem? (i := 567) (by decide +kernel)⟩
theorem lw_p18 : lw_okq (⟨"CloudBench$Question", "poseRanks", "(LCloudBench$Sample;LCloudBench$Sample;)V"⟩, 14) := ⟨⟨by decide +kernel, by decide +kernel⟩, List.mem_of_getElem? (i := 133) (by decide +kernel), List.mem_of_getElem? (i := 570) (by decide +kernel), List.mem_of_getElem? (i := 571) (by decide +kernel)⟩
theorem lw_p19 : lw_okq (⟨"CloudBench$Question", "poseMost", "(LCloudBench$Sample;LCloudBench$Sample;)V"⟩, 14) := ⟨⟨by decide +kernel, by decide +kernel⟩, List.mem_of_getElem? (i := 133) (by decide +kernel), List.mem_of_getElem? (i := 575) (by decide +kernel), List.mem_of_getElem? (i := 576) (by decide +kernel)⟩
theorem lw_p20 : lw_okq (⟨"CloudBench$Question", "poseSigns", "(LCloudBench$Sample;LCloudBench$Sample;)V"⟩, 14) := ⟨⟨by decide +kernel, by decide +kernel⟩, List.mem_of_getElem? (i := 133) (by decide +kernel), List.mem_of_getElem? (i := 587) (by decide +kernel), List.mem_of_getElem? (i := 588) (by decide +kernel)⟩
theorem lw_p21 : lw_okq (⟨"CloudBench$Question", "posePairs", "(LCloudBench$Sample;LCloudBench$Sample;)V"⟩, 14) := ⟨⟨by decide +kernel, by decide +kernel⟩, List.mem_of_getElem? (i := 133) (by decide +kernel), List.mem_of_getElem? (i := 591) (by decide +kernel), List.mem_of_getElem? (i := 592) (by decide +kernel)⟩
theorem lw_p22 : lw_okq (⟨"CloudBench$Question", "poseTurns", "(LCloudBench$Sample;LCloudBench$Sample;)V"⟩, 14) := ⟨⟨by decide +kernel, by decide +kernel⟩, List.mem_of_getElem? (i := 133) (by decide +kernel), List.mem_of_getElem? (i := 596) (by decide +kernel), List.mem_of_getElem? (i := 597) (by decide +kernel)⟩
theorem lw_p23 : lw_okq (⟨"CloudBench$Question", "poseOrder", "(LCloudBench$Sample;LCloudBench$Sample;)V"⟩, 14) := ⟨⟨by decide +kernel, by decide +kernel⟩, List.mem_of_getElem? (i := 133) (by decide +kernel), List.mem_of_getElem? (i := 600) (by decide +kernel), List.mem_of_getElem? (i := 601) (by decide +kernel)⟩
theorem lw_p24 : lw_okq (⟨"CloudBench$Question", "countWays", "()V"⟩, 14) := ⟨⟨by decide +kernel, by decide +kernel⟩, List.mem_of_getElem? (i := 133) (by decide +kernel), List.mem_of_getElem? (i := 610) (by decide +kernel), List.mem_of_getElem? (i := 611) (by decide +kernel)⟩
theorem lw_p25 : lw_okq (⟨"CloudBench$Ways", "addGaps", "(I)V"⟩, 5) := ⟨⟨by decide +kernel, by decide +kernel⟩, List.mem_of_getElem? (i := 105) (by decide +kernel), List.mem_of_getElem? (i := 620) (by decide +kernel), List.mem_of_getElem? (i := 621) (by decide +kernel)⟩
theorem lw_p26 : lw_okq (⟨"CloudBench$Ways", "liftGaps", "(II)V"⟩, 5) := ⟨⟨by decide +kernel, by decide +kernel⟩, List.mem_of_getElem? (i := 105) (by decide +kernel), List.mem_of_getElem? (i := 625) (by decide +kernel), List.mem_of_getElem? (i := 626) (by decide +kernel)⟩
theorem lw_p27 : lw_okq (⟨"CloudBench$Question", "isOnSide", "(JI)Z"⟩, 14) := ⟨⟨by decide +kernel, by decide +kernel⟩, List.mem_of_getElem? (i := 133) (by decide +kernel), List.mem_of_getElem? (i := 638) (by decide +kernel), List.mem_of_getElem? (i := 639) (by decide +kernel)⟩
theorem lw_p28 : lw_okq (⟨"CloudBench$Question", "far", "(J)J"⟩, 14) := ⟨⟨by decide +kernel, by decide +kernel⟩, List.mem_of_getElem? (i := 133) (by decide +kernel), List.mem_of_getElem? (i := 642) (by decide +kernel), List.mem_of_getElem? (i := 643) (by decide +kernel)⟩
theorem lw_p29 : lw_okq (⟨"CloudBench$Roll", "leastLeft", "()I"⟩, 4) := ⟨⟨by decide +kernel, by decide +kernel⟩, List.mem_of_getElem? (i := 289) (by decide +kernel), List.mem_of_getElem? (i := 667) (by decide +kernel), List.mem_of_getElem? (i := 668) (by decide +kernel)⟩
theorem lw_p30 : lw_okq (⟨"java/lang/Throwable", "fillInStackTrace", "(I)Ljava/lang/Throwable;"⟩, 6) := ⟨⟨by decide +kernel, by decide +kernel⟩, List.mem_of_getElem? (i := 726) (by decide +kernel), List.mem_of_getElem? (i := 724) (by decide +kernel), List.mem_of_getElem? (i := 725) (by decide +kernel)⟩
theorem lw_p31 : lw_okq (⟨"CloudBench", "mustBeAsked", "(III)V"⟩, 8) := ⟨⟨by decide +kernel, by decide +kernel⟩, List.mem_of_getElem? (i := 21) (by decide +kernel), List.mem_of_getElem? (i := 764) (by decide +kernel), List.mem_of_getElem? (i := 765) (by decide +kernel)⟩
def lw_privs_2 : List (MethodName × Nat) := [(⟨"CloudBench$Question", "poseChoice", "(LCloudBench$Sample;LCloudBench$Sample;)V"⟩, 14), (⟨"CloudBench$Question", "measure", "(IIII)V"⟩, 14), (⟨"CloudBench$Question", "poseRanks", "(LCloudBench$Sample;LCloudBench$Sample;)V"⟩, 14), (⟨"CloudBench$Question", "poseMost", "(LCloudBench$Sample;LCloudBench$Sample;)V"⟩, 14), (⟨"CloudBench$Question", "poseSigns", "(LCloudBench$Sample;LCloudBench$Sample;)V"⟩, 14), (⟨"CloudBench$Question", "posePairs", "(LCloudBench$Sample;LCloudBench$Sample;)V"⟩, 14), (⟨"CloudBench$Question", "poseTurns", "(LCloudBench$Sample;LCloudBench$Sample;)V"⟩, 14), (⟨"CloudBench$Question", "poseOrder", "(LCloudBench$Sample;LCloudBench$Sample;)V"⟩, 14), (⟨"CloudBench$Question", "countWays", "()V"⟩, 14), (⟨"CloudBench$Ways", "addGaps", "(I)V"⟩, 5), (⟨"CloudBench$Ways", "liftGaps", "(II)V"⟩, 5), (⟨"CloudBench$Question", "isOnSide", "(JI)Z"⟩, 14), (⟨"CloudBench$Question", "far", "(J)J"⟩, 14), (⟨"CloudBench$Roll", "leastLeft", "()I"⟩, 4), (⟨"java/lang/Throwable", "fillInStackTrace", "(I)Ljava/lang/Throwable;"⟩, 6), (⟨"CloudBench", "mustBeAsked", "(III)V"⟩, 8)]
theorem lw_r2 : ∀ q ∈ lw_privs_2, lw_okq q := List.forall_mem_cons.mpr ⟨lw_p16, List.forall_mem_cons.mpr ⟨lw_p17, List.forall_mem_cons.mpr ⟨lw_p18, List.forall_mem_cons.mpr ⟨lw_p19, List.forall_mem_cons.mpr ⟨lw_p20, List.forall_mem_cons.mpr ⟨lw_p21, List.forall_mem_cons.mpr ⟨lw_p22, List.forall_mem_cons.mpr ⟨lw_p23, List.forall_mem_cons.mpr ⟨lw_p24, List.forall_mem_cons.mpr ⟨lw_p25, List.forall_mem_cons.mpr ⟨lw_p26, List.forall_mem_cons.mpr ⟨lw_p27, List.forall_mem_cons.mpr ⟨lw_p28, List.forall_mem_cons.mpr ⟨lw_p29, List.forall_mem_cons.mpr ⟨lw_p30, List.forall_mem_cons.mpr ⟨lw_p31, fun _ h => absurd h List.not_mem_nil⟩⟩⟩⟩⟩⟩⟩⟩⟩⟩⟩⟩⟩⟩⟩⟩
theorem lw_p32 : lw_okq (⟨"CloudBenchModel", "isPair", "(II)Z"⟩, 38) := ⟨⟨by decide +kernel, by decide +kernel⟩, List.mem_of_getElem? (i := 814) (by decide +kernel), List.mem_of_getElem? (i := 963) (by decide +kernel), List.mem_of_getElem? (i := 964) (by decide +kernel)⟩
theorem lw_p33 : lw_okq (⟨"CloudBenchModel", "takeAll", "(II)V"⟩, 38) := ⟨⟨by decide +kernel, by decide +kernel⟩, List.mem_of_getElem? (i := 814) (by decide +kernel), List.mem_of_getElem? (i := 967) (by decide +kernel), List.mem_of_getElem? (i := 968) (by decide +kernel)⟩
theorem lw_p34 : lw_okq (⟨"CloudBenchModel", "ranks", "()V"⟩, 38) := ⟨⟨by decide +kernel, by decide +kernel⟩, List.mem_of_getElem? (i := 814) (by decide +kernel), List.mem_of_getElem? (i := 971) (by decide +kernel), List.mem_of_getElem? (i := 972) (by decide +kernel)⟩
theorem lw_p35 : lw_okq (⟨"CloudBenchModel", "takeDifferences", "(II)V"⟩, 38) := ⟨⟨by decide +kernel, by decide +kernel⟩, List.mem_of_getElem? (i := 814) (by decide +kernel), List.mem_of_getElem? (i := 979) (by decide +kernel), List.mem_of_getElem? (i := 980) (by decide +kernel)⟩
theorem lw_p36 : lw_okq (⟨"CloudBenchModel", "asks", "(III)Z"⟩, 38) := ⟨⟨by decide +kernel, by decide +kernel⟩, List.mem_of_getElem? (i := 814) (by decide +kernel), List.mem_of_getElem? (i := 987) (by decide +kernel), List.mem_of_getElem? (i := 988) (by decide +kernel)⟩
theorem lw_p37 : lw_okq (⟨"CloudBenchModel", "canAsk", "(III)Z"⟩, 38) := ⟨⟨by decide +kernel, by decide +kernel⟩, List.mem_of_getElem? (i := 814) (by decide +kernel), List.mem_of_getElem? (i := 991) (by decide +kernel), List.mem_of_getElem? (i := 992) (by decide +kernel)⟩
theorem lw_p38 : lw_okq (⟨"CloudBenchModel", "hasTwice", "(I)Z"⟩, 38) := ⟨⟨by decide +kernel, by decide +kernel⟩, List.mem_of_getElem? (i := 814) (by decide +kernel), List.mem_of_getElem? (i := 995) (by decide +kernel), List.mem_of_getElem? (i := 996) (by decide +kernel)⟩
theorem lw_p39 : lw_okq (⟨"CloudBenchModel", "fill", "(III)V"⟩, 38) := ⟨⟨by decide +kernel, by decide +kernel⟩, List.mem_of_getElem? (i := 814) (by decide +kernel), List.mem_of_getElem? (i := 999) (by decide +kernel), List.mem_of_getElem? (i := 1000) (by decide +kernel)⟩
theorem lw_p40 : lw_okq (⟨"CloudBenchModel", "chosen", "([IIIIJJ)V"⟩, 38) := ⟨⟨by decide +kernel, by decide +kernel⟩, List.mem_of_getElem? (i := 814) (by decide +kernel), List.mem_of_getElem? (i := 1004) (by decide +kernel), List.mem_of_getElem? (i := 1005) (by decide +kernel)⟩
theorem lw_p41 : lw_okq (⟨"CloudBenchModel", "tells", "(JJ)V"⟩, 38) := ⟨⟨by decide +kernel, by decide +kernel⟩, List.mem_of_getElem? (i := 814) (by decide +kernel), List.mem_of_getElem? (i := 1008) (by decide +kernel), List.mem_of_getElem? (i := 1009) (by decide +kernel)⟩
theorem lw_p42 : lw_okq (⟨"CloudBenchModel", "most", "(II)V"⟩, 38) := ⟨⟨by decide +kernel, by decide +kernel⟩, List.mem_of_getElem? (i := 814) (by decide +kernel), List.mem_of_getElem? (i := 1012) (by decide +kernel), List.mem_of_getElem? (i := 1013) (by decide +kernel)⟩
theorem lw_p43 : lw_okq (⟨"CloudBenchModel", "group", "()V"⟩, 38) := ⟨⟨by decide +kernel, by decide +kernel⟩, List.mem_of_getElem? (i := 814) (by decide +kernel), List.mem_of_getElem? (i := 1016) (by decide +kernel), List.mem_of_getElem? (i := 1017) (by decide +kernel)⟩
theorem lw_p44 : lw_okq (⟨"CloudBenchModel", "within", "(III)J"⟩, 38) := ⟨⟨by decide +kernel, by decide +kernel⟩, List.mem_of_getElem? (i := 814) (by decide +kernel), List.mem_of_getElem? (i := 1023) (by decide +kernel), List.mem_of_getElem? (i := 1024) (by decide +kernel)⟩
theorem lw_p45 : lw_okq (⟨"CloudBenchModel", "any", "([IIIJJ)V"⟩, 38) := ⟨⟨by decide +kernel, by decide +kernel⟩, List.mem_of_getElem? (i := 814) (by decide +kernel), List.mem_of_getElem? (i := 1027) (by decide +kernel), List.mem_of_getElem? (i := 1028) (by decide +kernel)⟩
theorem lw_p46 : lw_okq (⟨"CloudBenchModel", "order", "(II)V"⟩, 38) := ⟨⟨by decide +kernel, by decide +kernel⟩, List.mem_of_getElem? (i := 814) (by decide +kernel), List.mem_of_getElem? (i := 1032) (by decide +kernel), List.mem_of_getElem? (i := 1033) (by decide +kernel)⟩
theorem lw_p47 : lw_okq (⟨"CloudBenchModel", "counted", "(I)J"⟩, 38) := ⟨⟨by decide +kernel, by decide +kernel⟩, List.mem_of_getElem? (i := 814) (by decide +kernel), List.mem_of_getElem? (i := 1045) (by decide +kernel), List.mem_of_getElem? (i := 1046) (by decide +kernel)⟩
def lw_privs_3 : List (MethodName × Nat) := [(⟨"CloudBenchModel", "isPair", "(II)Z"⟩, 38), (⟨"CloudBenchModel", "takeAll", "(II)V"⟩, 38), (⟨"CloudBenchModel", "ranks", "()V"⟩, 38), (⟨"CloudBenchModel", "takeDifferences", "(II)V"⟩, 38), (⟨"CloudBenchModel", "asks", "(III)Z"⟩, 38), (⟨"CloudBenchModel", "canAsk", "(III)Z"⟩, 38), (⟨"CloudBenchModel", "hasTwice", "(I)Z"⟩, 38), (⟨"CloudBenchModel", "fill", "(III)V"⟩, 38), (⟨"CloudBenchModel", "chosen", "([IIIIJJ)V"⟩, 38), (⟨"CloudBenchModel", "tells", "(JJ)V"⟩, 38), (⟨"CloudBenchModel", "most", "(II)V"⟩, 38), (⟨"CloudBenchModel", "group", "()V"⟩, 38), (⟨"CloudBenchModel", "within", "(III)J"⟩, 38), (⟨"CloudBenchModel", "any", "([IIIJJ)V"⟩, 38), (⟨"CloudBenchModel", "order", "(II)V"⟩, 38), (⟨"CloudBenchModel", "counted", "(I)J"⟩, 38)]
theorem lw_r3 : ∀ q ∈ lw_privs_3, lw_okq q := List.forall_mem_cons.mpr ⟨lw_p32, List.forall_mem_cons.mpr ⟨lw_p33, List.forall_mem_cons.mpr ⟨lw_p34, List.forall_mem_cons.mpr ⟨lw_p35, List.forall_mem_cons.mpr ⟨lw_p36, List.forall_mem_cons.mpr ⟨lw_p37, List.forall_mem_cons.mpr ⟨lw_p38, List.forall_mem_cons.mpr ⟨lw_p39, List.forall_mem_cons.mpr ⟨lw_p40, List.forall_mem_cons.mpr ⟨lw_p41, List.forall_mem_cons.mpr ⟨lw_p42, List.forall_mem_cons.mpr ⟨lw_p43, List.forall_mem_cons.mpr ⟨lw_p44, List.forall_mem_cons.mpr ⟨lw_p45, List.forall_mem_cons.mpr ⟨lw_p46, List.forall_mem_cons.mpr ⟨lw_p47, fun _ h => absurd h List.not_mem_nil⟩⟩⟩⟩⟩⟩⟩⟩⟩⟩⟩⟩⟩⟩⟩⟩
theorem lw_p48 : lw_okq (⟨"CloudBenchModel", "far", "(J)J"⟩, 38) := ⟨⟨by decide +kernel, by decide +kernel⟩, List.mem_of_getElem? (i := 814) (by decide +kernel), List.mem_of_getElem? (i := 1049) (by decide +kernel), List.mem_of_getElem? (i := 1050) (by decide +kernel)⟩
theorem lw_p49 : lw_okq (⟨"CloudBenchModel", "pairsOf", "(II)V"⟩, 38) := ⟨⟨by decide +kernel, by decide +kernel⟩, List.mem_of_getElem? (i := 814) (by decide +kernel), List.mem_of_getElem? (i := 1065) (by decide +kernel), List.mem_of_getElem? (i := 1066) (by decide +kernel)⟩
theorem lw_p50 : lw_okq (⟨"CloudBenchModel", "put", "(III)J"⟩, 38) := ⟨⟨by decide +kernel, by decide +kernel⟩, List.mem_of_getElem? (i := 814) (by decide +kernel), List.mem_of_getElem? (i := 1089) (by decide +kernel), List.mem_of_getElem? (i := 1090) (by decide +kernel)⟩
def lw_privs_4 : List (MethodName × Nat) := [(⟨"CloudBenchModel", "far", "(J)J"⟩, 38), (⟨"CloudBenchModel", "pairsOf", "(II)V"⟩, 38), (⟨"CloudBenchModel", "put", "(III)J"⟩, 38)]
theorem lw_r4 : ∀ q ∈ lw_privs_4, lw_okq q := List.forall_mem_cons.mpr ⟨lw_p48, List.forall_mem_cons.mpr ⟨lw_p49, List.forall_mem_cons.mpr ⟨lw_p50, fun _ h => absurd h List.not_mem_nil⟩⟩⟩
def lw_privs : List (MethodName × Nat) := lw_privs_1 ++ (lw_privs_2 ++ (lw_privs_3 ++ (lw_privs_4)))
def lw_tbl : List Cond := k2_sels lw_privs ++ tables_1
theorem lw_privs_ok : ∀ q ∈ lw_privs, lw_okq q := by
  show ∀ q ∈ lw_privs_1 ++ (lw_privs_2 ++ (lw_privs_3 ++ (lw_privs_4))), lw_okq q
  exact List.forall_mem_append.mpr ⟨lw_r1, List.forall_mem_append.mpr ⟨lw_r2, List.forall_mem_append.mpr ⟨lw_r3, lw_r4⟩⟩⟩

def RX0 : String := "CloudBench$Choices"
def TX0 : u_T := fun k => match k with
  | _ => ("CloudBench$Choices", "cells", "[J", true)
def tyX0 : Nat → FieldType := fun k => match k with
  | _ => .array .long
abbrev wsX00 : List Cond := u_ws RX0 TX0 1
theorem nmX0 : ∀ a, a < 1 → ∀ b, b < 1 → a ≠ b → (TX0 a).2.1 ≠ (TX0 b).2.1 := by decide +kernel
theorem tyX0_ok : ∀ k, k < 1 → parseFieldDescriptor (TX0 k).2.2.1 = some (tyX0 k) := by decide +kernel
abbrev cX0_init : ByteArray := prog_2_method_1_code
def yX0_init : MethodName := ⟨RX0, "<init>", "()V"⟩
abbrev cX0_of : ByteArray := prog_2_method_2_code
def yX0_of : MethodName := ⟨RX0, "of", "(II)J"⟩
def RX1 : String := "CloudBench$Grid"
def TX1 : u_T := fun k => match k with
  | 0 => ("CloudBench$Grid", "choices", "LCloudBench$Choices;", true)
  | 1 => ("CloudBench$Grid", "counts", "[I", true)
  | 2 => ("CloudBench$Grid", "rowSums", "[I", true)
  | 3 => ("CloudBench$Grid", "columnSums", "[I", true)
  | 4 => ("CloudBench$Grid", "rows", "I", false)
  | 5 => ("CloudBench$Grid", "columns", "I", false)
  | 6 => ("CloudBench$Grid", "things", "I", false)
  | 7 => ("CloudBench$Grid", "firstNow", "I", false)
  | 8 => ("CloudBench$Grid", "ownWays", "J", false)
  | 9 => ("CloudBench$Grid", "unlikelyWays", "J", false)
  | 10 => ("CloudBench$Grid", "tables", "J", false)
  | 11 => ("CloudBench$Grid", "notLessWays", "J", false)
  | _ => ("CloudBench$Grid", "notGreaterWays", "J", false)
def tyX1 : Nat → FieldType := fun k => match k with
  | 0 => .object "CloudBench$Choices"
  | 1 => .array .int
  | 2 => .array .int
  | 3 => .array .int
  | 4 => .int
  | 5 => .int
  | 6 => .int
  | 7 => .int
  | 8 => .long
  | 9 => .long
  | 10 => .long
  | 11 => .long
  | _ => .long
abbrev wsX10 : List Cond := u_ws RX1 TX1 13
theorem nmX1 : ∀ a, a < 13 → ∀ b, b < 13 → a ≠ b → (TX1 a).2.1 ≠ (TX1 b).2.1 := by decide +kernel
theorem tyX1_ok : ∀ k, k < 13 → parseFieldDescriptor (TX1 k).2.2.1 = some (tyX1 k) := by decide +kernel
abbrev cX1_init : ByteArray := prog_3_method_1_code
def yX1_init : MethodName := ⟨RX1, "<init>", "(LCloudBench$Choices;)V"⟩
abbrev cX1_layOut : ByteArray := prog_3_method_2_code
def yX1_layOut : MethodName := ⟨RX1, "layOut", "(II)Z"⟩
abbrev cX1_fillIn : ByteArray := prog_3_method_3_code
def yX1_fillIn : MethodName := ⟨RX1, "fillIn", "(III)Z"⟩
abbrev cX1_figure : ByteArray := prog_3_method_4_code
def yX1_figure : MethodName := ⟨RX1, "figure", "(I)J"⟩
abbrev cX1_addUp : ByteArray := prog_3_method_5_code
def yX1_addUp : MethodName := ⟨RX1, "addUp", "()V"⟩
abbrev cX1_tally : ByteArray := prog_3_method_6_code
def yX1_tally : MethodName := ⟨RX1, "tally", "()V"⟩
abbrev cX1_fillColumn : ByteArray := prog_3_method_7_code
def yX1_fillColumn : MethodName := ⟨RX1, "fillColumn", "(IIIIJ)V"⟩
abbrev cX1_fillBelow : ByteArray := prog_3_method_8_code
def yX1_fillBelow : MethodName := ⟨RX1, "fillBelow", "(IIIIIJ)V"⟩
abbrev cX1_note : ByteArray := prog_3_method_9_code
def yX1_note : MethodName := ⟨RX1, "note", "(J)V"⟩
abbrev cX1_waysToSplit : ByteArray := prog_3_method_10_code
def yX1_waysToSplit : MethodName := ⟨RX1, "waysToSplit", "(III)J"⟩
def RX2 : String := "CloudBench$Ladder"
def TX2 : u_T := fun k => match k with
  | 0 => ("CloudBench$Ladder", "scores", "[J", true)
  | 1 => ("CloudBench$Ladder", "shares", "[J", true)
  | _ => ("CloudBench$Ladder", "size", "I", false)
def tyX2 : Nat → FieldType := fun k => match k with
  | 0 => .array .long
  | 1 => .array .long
  | _ => .int
abbrev wsX20 : List Cond := u_ws RX2 TX2 3
theorem nmX2 : ∀ a, a < 3 → ∀ b, b < 3 → a ≠ b → (TX2 a).2.1 ≠ (TX2 b).2.1 := by decide +kernel
theorem tyX2_ok : ∀ k, k < 3 → parseFieldDescriptor (TX2 k).2.2.1 = some (tyX2 k) := by decide +kernel
abbrev cX2_init : ByteArray := prog_4_method_1_code
def yX2_init : MethodName := ⟨RX2, "<init>", "()V"⟩
abbrev cX2_append : ByteArray := prog_4_method_2_code
def yX2_append : MethodName := ⟨RX2, "append", "(JJ)V"⟩
def RX3 : String := "CloudBench$Pairing"
def TX3 : u_T := fun k => match k with
  | 0 => ("CloudBench$Pairing", "differences", "[I", true)
  | 1 => ("CloudBench$Pairing", "sizes", "[I", true)
  | 2 => ("CloudBench$Pairing", "size", "I", false)
  | _ => ("CloudBench$Pairing", "leftOut", "I", false)
def tyX3 : Nat → FieldType := fun k => match k with
  | 0 => .array .int
  | 1 => .array .int
  | 2 => .int
  | _ => .int
abbrev wsX30 : List Cond := u_ws RX3 TX3 4
theorem nmX3 : ∀ a, a < 4 → ∀ b, b < 4 → a ≠ b → (TX3 a).2.1 ≠ (TX3 b).2.1 := by decide +kernel
theorem tyX3_ok : ∀ k, k < 4 → parseFieldDescriptor (TX3 k).2.2.1 = some (tyX3 k) := by decide +kernel
abbrev cX3_init : ByteArray := prog_5_method_1_code
def yX3_init : MethodName := ⟨RX3, "<init>", "()V"⟩
abbrev cX3_gather : ByteArray := prog_5_method_2_code
def yX3_gather : MethodName := ⟨RX3, "gather", "(LCloudBench$Sample;LCloudBench$Sample;)V"⟩
def RX4 : String := "CloudBench$Pool"
def TX4 : u_T := fun k => match k with
  | 0 => ("CloudBench$Pool", "numbers", "[I", true)
  | _ => ("CloudBench$Pool", "size", "I", false)
def tyX4 : Nat → FieldType := fun k => match k with
  | 0 => .array .int
  | _ => .int
abbrev wsX40 : List Cond := u_ws RX4 TX4 2
theorem nmX4 : ∀ a, a < 2 → ∀ b, b < 2 → a ≠ b → (TX4 a).2.1 ≠ (TX4 b).2.1 := by decide +kernel
theorem tyX4_ok : ∀ k, k < 2 → parseFieldDescriptor (TX4 k).2.2.1 = some (tyX4 k) := by decide +kernel
abbrev cX4_init : ByteArray := prog_6_method_1_code
def yX4_init : MethodName := ⟨RX4, "<init>", "()V"⟩
abbrev cX4_gather : ByteArray := prog_6_method_2_code
def yX4_gather : MethodName := ⟨RX4, "gather", "(LCloudBench$Sample;LCloudBench$Sample;)V"⟩
abbrev cX4_least : ByteArray := prog_6_method_3_code
def yX4_least : MethodName := ⟨RX4, "least", "()I"⟩
def RX5 : String := "CloudBench$Question"
def TX5 : u_T := fun k => match k with
  | 0 => ("CloudBench$Question", "pool", "LCloudBench$Pool;", true)
  | 1 => ("CloudBench$Question", "pairing", "LCloudBench$Pairing;", true)
  | 2 => ("CloudBench$Question", "choices", "LCloudBench$Choices;", true)
  | 3 => ("CloudBench$Question", "ways", "LCloudBench$Ways;", true)
  | 4 => ("CloudBench$Question", "values", "[I", true)
  | 5 => ("CloudBench$Question", "test", "I", false)
  | 6 => ("CloudBench$Question", "size", "I", false)
  | 7 => ("CloudBench$Question", "chosen", "I", false)
  | 8 => ("CloudBench$Question", "score", "J", false)
  | 9 => ("CloudBench$Question", "total", "J", false)
  | 10 => ("CloudBench$Question", "stretch", "J", false)
  | 11 => ("CloudBench$Question", "shift", "J", false)
  | 12 => ("CloudBench$Question", "farTimes", "J", false)
  | _ => ("CloudBench$Question", "farCentre", "J", false)
def tyX5 : Nat → FieldType := fun k => match k with
  | 0 => .object "CloudBench$Pool"
  | 1 => .object "CloudBench$Pairing"
  | 2 => .object "CloudBench$Choices"
  | 3 => .object "CloudBench$Ways"
  | 4 => .array .int
  | 5 => .int
  | 6 => .int
  | 7 => .int
  | 8 => .long
  | 9 => .long
  | 10 => .long
  | 11 => .long
  | 12 => .long
  | _ => .long
abbrev wsX50 : List Cond := u_ws RX5 TX5 14
theorem nmX5 : ∀ a, a < 14 → ∀ b, b < 14 → a ≠ b → (TX5 a).2.1 ≠ (TX5 b).2.1 := by decide +kernel
theorem tyX5_ok : ∀ k, k < 14 → parseFieldDescriptor (TX5 k).2.2.1 = some (tyX5 k) := by decide +kernel
abbrev cX5_init : ByteArray := prog_7_method_1_code
def yX5_init : MethodName := ⟨RX5, "<init>", "(LCloudBench$Pool;LCloudBench$Pairing;LCloudBench$Choices;LCloudBench$Ways;)V"⟩
abbrev cX5_pose : ByteArray := prog_7_method_2_code
def yX5_pose : MethodName := ⟨RX5, "pose", "(ILCloudBench$Sample;LCloudBench$Sample;)V"⟩
abbrev cX5_countBy : ByteArray := prog_7_method_3_code
def yX5_countBy : MethodName := ⟨RX5, "countBy", "(I)J"⟩
abbrev cX5_listInto : ByteArray := prog_7_method_4_code
def yX5_listInto : MethodName := ⟨RX5, "listInto", "(LCloudBench$Ladder;)V"⟩
abbrev cX5_isOnSide : ByteArray := prog_7_method_5_code
def yX5_isOnSide : MethodName := ⟨RX5, "isOnSide", "(JI)Z"⟩
abbrev cX5_far : ByteArray := prog_7_method_6_code
def yX5_far : MethodName := ⟨RX5, "far", "(J)J"⟩
abbrev cX5_countWays : ByteArray := prog_7_method_7_code
def yX5_countWays : MethodName := ⟨RX5, "countWays", "()V"⟩
abbrev cX5_poseSums : ByteArray := prog_7_method_8_code
def yX5_poseSums : MethodName := ⟨RX5, "poseSums", "(LCloudBench$Sample;LCloudBench$Sample;)V"⟩
abbrev cX5_poseRanks : ByteArray := prog_7_method_9_code
def yX5_poseRanks : MethodName := ⟨RX5, "poseRanks", "(LCloudBench$Sample;LCloudBench$Sample;)V"⟩
abbrev cX5_poseMost : ByteArray := prog_7_method_10_code
def yX5_poseMost : MethodName := ⟨RX5, "poseMost", "(LCloudBench$Sample;LCloudBench$Sample;)V"⟩
abbrev cX5_poseSigns : ByteArray := prog_7_method_11_code
def yX5_poseSigns : MethodName := ⟨RX5, "poseSigns", "(LCloudBench$Sample;LCloudBench$Sample;)V"⟩
abbrev cX5_poseTurns : ByteArray := prog_7_method_12_code
def yX5_poseTurns : MethodName := ⟨RX5, "poseTurns", "(LCloudBench$Sample;LCloudBench$Sample;)V"⟩
abbrev cX5_poseOrder : ByteArray := prog_7_method_13_code
def yX5_poseOrder : MethodName := ⟨RX5, "poseOrder", "(LCloudBench$Sample;LCloudBench$Sample;)V"⟩
abbrev cX5_poseChoice : ByteArray := prog_7_method_14_code
def yX5_poseChoice : MethodName := ⟨RX5, "poseChoice", "(LCloudBench$Sample;LCloudBench$Sample;)V"⟩
abbrev cX5_posePairs : ByteArray := prog_7_method_15_code
def yX5_posePairs : MethodName := ⟨RX5, "posePairs", "(LCloudBench$Sample;LCloudBench$Sample;)V"⟩
abbrev cX5_measure : ByteArray := prog_7_method_16_code
def yX5_measure : MethodName := ⟨RX5, "measure", "(IIII)V"⟩
def RX6 : String := "CloudBench$Reach"
def TX6 : u_T := fun k => match k with
  | 0 => ("CloudBench$Reach", "choices", "LCloudBench$Choices;", true)
  | 1 => ("CloudBench$Reach", "ways", "LCloudBench$Ways;", true)
  | 2 => ("CloudBench$Reach", "places", "[I", true)
  | 3 => ("CloudBench$Reach", "gaps", "[I", true)
  | 4 => ("CloudBench$Reach", "isMeasured", "Z", false)
  | 5 => ("CloudBench$Reach", "step", "I", false)
  | 6 => ("CloudBench$Reach", "lower", "I", false)
  | 7 => ("CloudBench$Reach", "upper", "I", false)
  | _ => ("CloudBench$Reach", "middle", "I", false)
def tyX6 : Nat → FieldType := fun k => match k with
  | 0 => .object "CloudBench$Choices"
  | 1 => .object "CloudBench$Ways"
  | 2 => .array .int
  | 3 => .array .int
  | 4 => .boolean
  | 5 => .int
  | 6 => .int
  | 7 => .int
  | _ => .int
abbrev wsX60 : List Cond := u_ws RX6 TX6 9
theorem nmX6 : ∀ a, a < 9 → ∀ b, b < 9 → a ≠ b → (TX6 a).2.1 ≠ (TX6 b).2.1 := by decide +kernel
theorem tyX6_ok : ∀ k, k < 9 → parseFieldDescriptor (TX6 k).2.2.1 = some (tyX6 k) := by decide +kernel
abbrev cX6_init : ByteArray := prog_8_method_1_code
def yX6_init : MethodName := ⟨RX6, "<init>", "(LCloudBench$Choices;LCloudBench$Ways;)V"⟩
abbrev cX6_measure : ByteArray := prog_8_method_2_code
def yX6_measure : MethodName := ⟨RX6, "measure", "(LCloudBench$Sample;LCloudBench$Sample;II)V"⟩
abbrev cX6_waysOfPairs : ByteArray := prog_8_method_3_code
def yX6_waysOfPairs : MethodName := ⟨RX6, "waysOfPairs", "(III)J"⟩
abbrev cX6_gatherGaps : ByteArray := prog_8_method_4_code
def yX6_gatherGaps : MethodName := ⟨RX6, "gatherGaps", "(LCloudBench$Sample;LCloudBench$Sample;)I"⟩
abbrev cX6_findStep : ByteArray := prog_8_method_5_code
def yX6_findStep : MethodName := ⟨RX6, "findStep", "(IIII)I"⟩
abbrev cX6_countPairs : ByteArray := prog_8_method_6_code
def yX6_countPairs : MethodName := ⟨RX6, "countPairs", "(II)V"⟩
def RX7 : String := "CloudBench$Roll"
def TX7 : u_T := fun k => match k with
  | 0 => ("CloudBench$Roll", "counts", "[J", true)
  | 1 => ("CloudBench$Roll", "totals", "[J", true)
  | 2 => ("CloudBench$Roll", "different", "[Z", true)
  | _ => ("CloudBench$Roll", "size", "I", false)
def tyX7 : Nat → FieldType := fun k => match k with
  | 0 => .array .long
  | 1 => .array .long
  | 2 => .array .boolean
  | _ => .int
abbrev wsX70 : List Cond := u_ws RX7 TX7 4
theorem nmX7 : ∀ a, a < 4 → ∀ b, b < 4 → a ≠ b → (TX7 a).2.1 ≠ (TX7 b).2.1 := by decide +kernel
theorem tyX7_ok : ∀ k, k < 4 → parseFieldDescriptor (TX7 k).2.2.1 = some (tyX7 k) := by decide +kernel
abbrev cX7_init : ByteArray := prog_9_method_1_code
def yX7_init : MethodName := ⟨RX7, "<init>", "()V"⟩
abbrev cX7_isFull : ByteArray := prog_9_method_2_code
def yX7_isFull : MethodName := ⟨RX7, "isFull", "()Z"⟩
abbrev cX7_append : ByteArray := prog_9_method_3_code
def yX7_append : MethodName := ⟨RX7, "append", "(JJ)I"⟩
abbrev cX7_callDifferent : ByteArray := prog_9_method_4_code
def yX7_callDifferent : MethodName := ⟨RX7, "callDifferent", "(II)I"⟩
abbrev cX7_leastLeft : ByteArray := prog_9_method_5_code
def yX7_leastLeft : MethodName := ⟨RX7, "leastLeft", "()I"⟩
abbrev cX7_compareShares : ByteArray := prog_9_method_6_code
def yX7_compareShares : MethodName := ⟨RX7, "compareShares", "(JJJJ)I"⟩
def RX8 : String := "CloudBench$Sample"
def TX8 : u_T := fun k => match k with
  | 0 => ("CloudBench$Sample", "numbers", "[I", true)
  | _ => ("CloudBench$Sample", "size", "I", false)
def tyX8 : Nat → FieldType := fun k => match k with
  | 0 => .array .int
  | _ => .int
abbrev wsX80 : List Cond := u_ws RX8 TX8 2
theorem nmX8 : ∀ a, a < 2 → ∀ b, b < 2 → a ≠ b → (TX8 a).2.1 ≠ (TX8 b).2.1 := by decide +kernel
theorem tyX8_ok : ∀ k, k < 2 → parseFieldDescriptor (TX8 k).2.2.1 = some (tyX8 k) := by decide +kernel
abbrev cX8_init : ByteArray := prog_10_method_1_code
def yX8_init : MethodName := ⟨RX8, "<init>", "()V"⟩
abbrev cX8_append : ByteArray := prog_10_method_2_code
def yX8_append : MethodName := ⟨RX8, "append", "(I)Z"⟩
abbrev cX8_staysWithin : ByteArray := prog_10_method_3_code
def yX8_staysWithin : MethodName := ⟨RX8, "staysWithin", "(II)Z"⟩
abbrev cX8_change : ByteArray := prog_10_method_4_code
def yX8_change : MethodName := ⟨RX8, "change", "(II)V"⟩
abbrev cX8_hasTwice : ByteArray := prog_10_method_5_code
def yX8_hasTwice : MethodName := ⟨RX8, "hasTwice", "()Z"⟩
abbrev cX8_countUpTo : ByteArray := prog_10_method_6_code
def yX8_countUpTo : MethodName := ⟨RX8, "countUpTo", "(I)I"⟩
def RX9 : String := "CloudBench$Ways"
def TX9 : u_T := fun k => match k with
  | 0 => ("CloudBench$Ways", "cells", "[J", true)
  | 1 => ("CloudBench$Ways", "leastSums", "[I", true)
  | 2 => ("CloudBench$Ways", "start", "I", false)
  | 3 => ("CloudBench$Ways", "first", "I", false)
  | _ => ("CloudBench$Ways", "last", "I", false)
def tyX9 : Nat → FieldType := fun k => match k with
  | 0 => .array .long
  | 1 => .array .int
  | 2 => .int
  | 3 => .int
  | _ => .int
abbrev wsX90 : List Cond := u_ws RX9 TX9 5
theorem nmX9 : ∀ a, a < 5 → ∀ b, b < 5 → a ≠ b → (TX9 a).2.1 ≠ (TX9 b).2.1 := by decide +kernel
theorem tyX9_ok : ∀ k, k < 5 → parseFieldDescriptor (TX9 k).2.2.1 = some (tyX9 k) := by decide +kernel
abbrev cX9_init : ByteArray := prog_11_method_1_code
def yX9_init : MethodName := ⟨RX9, "<init>", "()V"⟩
abbrev cX9_of : ByteArray := prog_11_method_2_code
def yX9_of : MethodName := ⟨RX9, "of", "(I)J"⟩
abbrev cX9_chooseSums : ByteArray := prog_11_method_3_code
def yX9_chooseSums : MethodName := ⟨RX9, "chooseSums", "([III)V"⟩
abbrev cX9_chooseNext : ByteArray := prog_11_method_4_code
def yX9_chooseNext : MethodName := ⟨RX9, "chooseNext", "(III)V"⟩
abbrev cX9_greatestSum : ByteArray := prog_11_method_5_code
def yX9_greatestSum : MethodName := ⟨RX9, "greatestSum", "(II)I"⟩
abbrev cX9_chooseGaps : ByteArray := prog_11_method_6_code
def yX9_chooseGaps : MethodName := ⟨RX9, "chooseGaps", "([III)V"⟩
abbrev cX9_addGaps : ByteArray := prog_11_method_7_code
def yX9_addGaps : MethodName := ⟨RX9, "addGaps", "(I)V"⟩
abbrev cX9_liftGaps : ByteArray := prog_11_method_8_code
def yX9_liftGaps : MethodName := ⟨RX9, "liftGaps", "(II)V"⟩
abbrev cX9_turnSums : ByteArray := prog_11_method_9_code
def yX9_turnSums : MethodName := ⟨RX9, "turnSums", "([II)V"⟩
abbrev cX9_orderPairs : ByteArray := prog_11_method_10_code
def yX9_orderPairs : MethodName := ⟨RX9, "orderPairs", "(I)V"⟩
abbrev cX9_clear : ByteArray := prog_11_method_11_code
def yX9_clear : MethodName := ⟨RX9, "clear", "(II)V"⟩
abbrev cX9_settle : ByteArray := prog_11_method_12_code
def yX9_settle : MethodName := ⟨RX9, "settle", "(III)V"⟩
abbrev cX9_startOfSums : ByteArray := prog_11_method_13_code
def yX9_startOfSums : MethodName := ⟨RX9, "startOfSums", "(I)I"⟩
def RX10 : String := "CloudBench"
def TX10 : u_T := fun k => match k with
  | 0 => ("CloudBench", "samples", "[LCloudBench$Sample;", true)
  | 1 => ("CloudBench", "pool", "LCloudBench$Pool;", true)
  | 2 => ("CloudBench", "pairing", "LCloudBench$Pairing;", true)
  | 3 => ("CloudBench", "question", "LCloudBench$Question;", true)
  | 4 => ("CloudBench", "ladder", "LCloudBench$Ladder;", true)
  | 5 => ("CloudBench", "reach", "LCloudBench$Reach;", true)
  | 6 => ("CloudBench", "grid", "LCloudBench$Grid;", true)
  | _ => ("CloudBench", "roll", "LCloudBench$Roll;", true)
def tyX10 : Nat → FieldType := fun k => match k with
  | 0 => .array (.object "CloudBench$Sample")
  | 1 => .object "CloudBench$Pool"
  | 2 => .object "CloudBench$Pairing"
  | 3 => .object "CloudBench$Question"
  | 4 => .object "CloudBench$Ladder"
  | 5 => .object "CloudBench$Reach"
  | 6 => .object "CloudBench$Grid"
  | _ => .object "CloudBench$Roll"
abbrev wsX100 : List Cond := u_ws RX10 TX10 8
theorem nmX10 : ∀ a, a < 8 → ∀ b, b < 8 → a ≠ b → (TX10 a).2.1 ≠ (TX10 b).2.1 := by decide +kernel
theorem tyX10_ok : ∀ k, k < 8 → parseFieldDescriptor (TX10 k).2.2.1 = some (tyX10 k) := by decide +kernel
abbrev cX10_init : ByteArray := prog_1_method_1_code
def yX10_init : MethodName := ⟨RX10, "<init>", "()V"⟩
abbrev cX10_put : ByteArray := prog_1_method_2_code
def yX10_put : MethodName := ⟨RX10, "put", "(II)I"⟩
abbrev cX10_drop : ByteArray := prog_1_method_3_code
def yX10_drop : MethodName := ⟨RX10, "drop", "(I)I"⟩
abbrev cX10_turn : ByteArray := prog_1_method_4_code
def yX10_turn : MethodName := ⟨RX10, "turn", "(III)Z"⟩
abbrev cX10_number : ByteArray := prog_1_method_5_code
def yX10_number : MethodName := ⟨RX10, "number", "(II)I"⟩
abbrev cX10_rank : ByteArray := prog_1_method_6_code
def yX10_rank : MethodName := ⟨RX10, "rank", "(III)I"⟩
abbrev cX10_noughts : ByteArray := prog_1_method_7_code
def yX10_noughts : MethodName := ⟨RX10, "noughts", "(II)I"⟩
abbrev cX10_score : ByteArray := prog_1_method_8_code
def yX10_score : MethodName := ⟨RX10, "score", "(III)J"⟩
abbrev cX10_total : ByteArray := prog_1_method_9_code
def yX10_total : MethodName := ⟨RX10, "total", "(III)J"⟩
abbrev cX10_count : ByteArray := prog_1_method_10_code
def yX10_count : MethodName := ⟨RX10, "count", "(IIII)J"⟩
abbrev cX10_spread : ByteArray := prog_1_method_11_code
def yX10_spread : MethodName := ⟨RX10, "spread", "(III)I"⟩
abbrev cX10_row : ByteArray := prog_1_method_12_code
def yX10_row : MethodName := ⟨RX10, "row", "(II)J"⟩
abbrev cX10_span : ByteArray := prog_1_method_13_code
def yX10_span : MethodName := ⟨RX10, "span", "(IIII)I"⟩
abbrev cX10_ends : ByteArray := prog_1_method_14_code
def yX10_ends : MethodName := ⟨RX10, "ends", "(I)I"⟩
abbrev cX10_pairs : ByteArray := prog_1_method_15_code
def yX10_pairs : MethodName := ⟨RX10, "pairs", "(III)J"⟩
abbrev cX10_table : ByteArray := prog_1_method_16_code
def yX10_table : MethodName := ⟨RX10, "table", "(II)Z"⟩
abbrev cX10_cell : ByteArray := prog_1_method_17_code
def yX10_cell : MethodName := ⟨RX10, "cell", "(III)Z"⟩
abbrev cX10_margins : ByteArray := prog_1_method_18_code
def yX10_margins : MethodName := ⟨RX10, "margins", "(I)J"⟩
abbrev cX10_ask : ByteArray := prog_1_method_19_code
def yX10_ask : MethodName := ⟨RX10, "ask", "(IIII)I"⟩
abbrev cX10_asked : ByteArray := prog_1_method_20_code
def yX10_asked : MethodName := ⟨RX10, "asked", "(II)J"⟩
abbrev cX10_held : ByteArray := prog_1_method_21_code
def yX10_held : MethodName := ⟨RX10, "held", "(II)I"⟩
abbrev cX10_anew : ByteArray := prog_1_method_22_code
def yX10_anew : MethodName := ⟨RX10, "anew", "()V"⟩
abbrev cX10_mustBeAsked : ByteArray := prog_1_method_23_code
def yX10_mustBeAsked : MethodName := ⟨RX10, "mustBeAsked", "(III)V"⟩
abbrev cX10_canBeAsked : ByteArray := prog_1_method_24_code
def yX10_canBeAsked : MethodName := ⟨RX10, "canBeAsked", "(III)Z"⟩
abbrev cX10_areTwo : ByteArray := prog_1_method_25_code
def yX10_areTwo : MethodName := ⟨RX10, "areTwo", "(II)Z"⟩
abbrev cX10_isSample : ByteArray := prog_1_method_26_code
def yX10_isSample : MethodName := ⟨RX10, "isSample", "(I)Z"⟩
abbrev cX10_isNumber : ByteArray := prog_1_method_27_code
def yX10_isNumber : MethodName := ⟨RX10, "isNumber", "(I)Z"⟩
abbrev cX10_isSide : ByteArray := prog_1_method_28_code
def yX10_isSide : MethodName := ⟨RX10, "isSide", "(I)Z"⟩
abbrev cX10_isChance : ByteArray := prog_1_method_29_code
def yX10_isChance : MethodName := ⟨RX10, "isChance", "(II)Z"⟩
abbrev cX10_doubledRank : ByteArray := prog_1_method_30_code
def yX10_doubledRank : MethodName := ⟨RX10, "doubledRank", "([III)I"⟩
abbrev cX10_sumOf : ByteArray := prog_1_method_31_code
def yX10_sumOf : MethodName := ⟨RX10, "sumOf", "([II)I"⟩
abbrev cX10_sort : ByteArray := prog_1_method_32_code
def yX10_sort : MethodName := ⟨RX10, "sort", "([II)V"⟩
def RX11 : String := "CloudBenchModel"
def TX11 : u_T := fun k => match k with
  | 0 => ("CloudBenchModel", "numbers", "[I", true)
  | 1 => ("CloudBenchModel", "sizes", "[I", true)
  | 2 => ("CloudBenchModel", "thrown", "I", false)
  | 3 => ("CloudBenchModel", "choose", "[J", true)
  | 4 => ("CloudBenchModel", "sums", "[J", true)
  | 5 => ("CloudBenchModel", "score", "[J", true)
  | 6 => ("CloudBenchModel", "many", "[J", true)
  | 7 => ("CloudBenchModel", "scores", "I", false)
  | 8 => ("CloudBenchModel", "total", "J", false)
  | 9 => ("CloudBenchModel", "there", "J", false)
  | 10 => ("CloudBenchModel", "farTimes", "J", false)
  | 11 => ("CloudBenchModel", "farLess", "J", false)
  | 12 => ("CloudBenchModel", "shown", "[J", true)
  | 13 => ("CloudBenchModel", "shownMany", "I", false)
  | 14 => ("CloudBenchModel", "all", "[I", true)
  | 15 => ("CloudBenchModel", "allMany", "I", false)
  | 16 => ("CloudBenchModel", "rank", "[I", true)
  | 17 => ("CloudBenchModel", "above", "[Z", true)
  | 18 => ("CloudBenchModel", "left0", "I", false)
  | 19 => ("CloudBenchModel", "groups", "[I", true)
  | 20 => ("CloudBenchModel", "groupMany", "I", false)
  | 21 => ("CloudBenchModel", "ways", "[J", true)
  | 22 => ("CloudBenchModel", "next", "[J", true)
  | 23 => ("CloudBenchModel", "differences", "[I", true)
  | 24 => ("CloudBenchModel", "ends", "[I", true)
  | 25 => ("CloudBenchModel", "hasEnds", "Z", false)
  | 26 => ("CloudBenchModel", "rows", "I", false)
  | 27 => ("CloudBenchModel", "columns", "I", false)
  | 28 => ("CloudBenchModel", "cells", "[I", true)
  | 29 => ("CloudBenchModel", "first", "[I", true)
  | 30 => ("CloudBenchModel", "second", "[I", true)
  | 31 => ("CloudBenchModel", "left", "[I", true)
  | 32 => ("CloudBenchModel", "product", "[J", true)
  | 33 => ("CloudBenchModel", "listed", "I", false)
  | 34 => ("CloudBenchModel", "listCount", "[J", true)
  | 35 => ("CloudBenchModel", "listTotal", "[J", true)
  | 36 => ("CloudBenchModel", "differs", "[Z", true)
  | _ => ("CloudBenchModel", "line", "[I", true)
def tyX11 : Nat → FieldType := fun k => match k with
  | 0 => .array .int
  | 1 => .array .int
  | 2 => .int
  | 3 => .array .long
  | 4 => .array .long
  | 5 => .array .long
  | 6 => .array .long
  | 7 => .int
  | 8 => .long
  | 9 => .long
  | 10 => .long
  | 11 => .long
  | 12 => .array .long
  | 13 => .int
  | 14 => .array .int
  | 15 => .int
  | 16 => .array .int
  | 17 => .array .boolean
  | 18 => .int
  | 19 => .array .int
  | 20 => .int
  | 21 => .array .long
  | 22 => .array .long
  | 23 => .array .int
  | 24 => .array .int
  | 25 => .boolean
  | 26 => .int
  | 27 => .int
  | 28 => .array .int
  | 29 => .array .int
  | 30 => .array .int
  | 31 => .array .int
  | 32 => .array .long
  | 33 => .int
  | 34 => .array .long
  | 35 => .array .long
  | 36 => .array .boolean
  | _ => .array .int
abbrev wsX110 : List Cond := u_ws RX11 TX11 38
theorem nmX11 : ∀ a, a < 38 → ∀ b, b < 38 → a ≠ b → (TX11 a).2.1 ≠ (TX11 b).2.1 := by decide +kernel
theorem tyX11_ok : ∀ k, k < 38 → parseFieldDescriptor (TX11 k).2.2.1 = some (tyX11 k) := by decide +kernel
abbrev cX11_init : ByteArray := prog_13_method_1_code
def yX11_init : MethodName := ⟨RX11, "<init>", "()V"⟩
abbrev cX11_thrown : ByteArray := prog_13_method_2_code
def yX11_thrown : MethodName := ⟨RX11, "thrown", "()I"⟩
abbrev cX11_isSample : ByteArray := prog_13_method_3_code
def yX11_isSample : MethodName := ⟨RX11, "isSample", "(I)Z"⟩
abbrev cX11_put : ByteArray := prog_13_method_4_code
def yX11_put : MethodName := ⟨RX11, "put", "(II)I"⟩
abbrev cX11_drop : ByteArray := prog_13_method_5_code
def yX11_drop : MethodName := ⟨RX11, "drop", "(I)I"⟩
abbrev cX11_turn : ByteArray := prog_13_method_6_code
def yX11_turn : MethodName := ⟨RX11, "turn", "(III)Z"⟩
abbrev cX11_number : ByteArray := prog_13_method_7_code
def yX11_number : MethodName := ⟨RX11, "number", "(II)I"⟩
abbrev cX11_isPair : ByteArray := prog_13_method_8_code
def yX11_isPair : MethodName := ⟨RX11, "isPair", "(II)Z"⟩
abbrev cX11_ranks : ByteArray := prog_13_method_9_code
def yX11_ranks : MethodName := ⟨RX11, "ranks", "()V"⟩
abbrev cX11_takeAll : ByteArray := prog_13_method_10_code
def yX11_takeAll : MethodName := ⟨RX11, "takeAll", "(II)V"⟩
abbrev cX11_takeDifferences : ByteArray := prog_13_method_11_code
def yX11_takeDifferences : MethodName := ⟨RX11, "takeDifferences", "(II)V"⟩
abbrev cX11_rank : ByteArray := prog_13_method_12_code
def yX11_rank : MethodName := ⟨RX11, "rank", "(III)I"⟩
abbrev cX11_noughts : ByteArray := prog_13_method_13_code
def yX11_noughts : MethodName := ⟨RX11, "noughts", "(II)I"⟩
abbrev cX11_hasTwice : ByteArray := prog_13_method_14_code
def yX11_hasTwice : MethodName := ⟨RX11, "hasTwice", "(I)Z"⟩
abbrev cX11_canAsk : ByteArray := prog_13_method_15_code
def yX11_canAsk : MethodName := ⟨RX11, "canAsk", "(III)Z"⟩
abbrev cX11_tells : ByteArray := prog_13_method_16_code
def yX11_tells : MethodName := ⟨RX11, "tells", "(JJ)V"⟩
abbrev cX11_chosen : ByteArray := prog_13_method_17_code
def yX11_chosen : MethodName := ⟨RX11, "chosen", "([IIIIJJ)V"⟩
abbrev cX11_any : ByteArray := prog_13_method_18_code
def yX11_any : MethodName := ⟨RX11, "any", "([IIIJJ)V"⟩
abbrev cX11_fill : ByteArray := prog_13_method_19_code
def yX11_fill : MethodName := ⟨RX11, "fill", "(III)V"⟩
abbrev cX11_sizeOf : ByteArray := prog_13_method_20_code
def yX11_sizeOf : MethodName := ⟨RX11, "sizeOf", "(I)I"⟩
abbrev cX11_group : ByteArray := prog_13_method_21_code
def yX11_group : MethodName := ⟨RX11, "group", "()V"⟩
abbrev cX11_within : ByteArray := prog_13_method_22_code
def yX11_within : MethodName := ⟨RX11, "within", "(III)J"⟩
abbrev cX11_most : ByteArray := prog_13_method_23_code
def yX11_most : MethodName := ⟨RX11, "most", "(II)V"⟩
abbrev cX11_order : ByteArray := prog_13_method_24_code
def yX11_order : MethodName := ⟨RX11, "order", "(II)V"⟩
abbrev cX11_far : ByteArray := prog_13_method_25_code
def yX11_far : MethodName := ⟨RX11, "far", "(J)J"⟩
abbrev cX11_counted : ByteArray := prog_13_method_26_code
def yX11_counted : MethodName := ⟨RX11, "counted", "(I)J"⟩
abbrev cX11_asks : ByteArray := prog_13_method_27_code
def yX11_asks : MethodName := ⟨RX11, "asks", "(III)Z"⟩
abbrev cX11_score : ByteArray := prog_13_method_28_code
def yX11_score : MethodName := ⟨RX11, "score", "(III)J"⟩
abbrev cX11_total : ByteArray := prog_13_method_29_code
def yX11_total : MethodName := ⟨RX11, "total", "(III)J"⟩
abbrev cX11_count : ByteArray := prog_13_method_30_code
def yX11_count : MethodName := ⟨RX11, "count", "(IIII)J"⟩
abbrev cX11_spread : ByteArray := prog_13_method_31_code
def yX11_spread : MethodName := ⟨RX11, "spread", "(III)I"⟩
abbrev cX11_row : ByteArray := prog_13_method_32_code
def yX11_row : MethodName := ⟨RX11, "row", "(II)J"⟩
abbrev cX11_pairsOf : ByteArray := prog_13_method_33_code
def yX11_pairsOf : MethodName := ⟨RX11, "pairsOf", "(II)V"⟩
abbrev cX11_span : ByteArray := prog_13_method_34_code
def yX11_span : MethodName := ⟨RX11, "span", "(IIII)I"⟩
abbrev cX11_ends : ByteArray := prog_13_method_35_code
def yX11_ends : MethodName := ⟨RX11, "ends", "(I)I"⟩
abbrev cX11_pairs : ByteArray := prog_13_method_36_code
def yX11_pairs : MethodName := ⟨RX11, "pairs", "(III)J"⟩
abbrev cX11_table : ByteArray := prog_13_method_37_code
def yX11_table : MethodName := ⟨RX11, "table", "(II)Z"⟩
abbrev cX11_cell : ByteArray := prog_13_method_38_code
def yX11_cell : MethodName := ⟨RX11, "cell", "(III)Z"⟩
abbrev cX11_put_ : ByteArray := prog_13_method_39_code
def yX11_put_ : MethodName := ⟨RX11, "put", "(III)J"⟩
abbrev cX11_margins : ByteArray := prog_13_method_40_code
def yX11_margins : MethodName := ⟨RX11, "margins", "(I)J"⟩
abbrev cX11_ask : ByteArray := prog_13_method_41_code
def yX11_ask : MethodName := ⟨RX11, "ask", "(IIII)I"⟩
abbrev cX11_asked : ByteArray := prog_13_method_42_code
def yX11_asked : MethodName := ⟨RX11, "asked", "(II)J"⟩
abbrev cX11_over : ByteArray := prog_13_method_43_code
def yX11_over : MethodName := ⟨RX11, "over", "(JJJJ)I"⟩
abbrev cX11_held : ByteArray := prog_13_method_44_code
def yX11_held : MethodName := ⟨RX11, "held", "(II)I"⟩
abbrev cX11_anew : ByteArray := prog_13_method_45_code
def yX11_anew : MethodName := ⟨RX11, "anew", "()V"⟩
def RJ13 : String := "java/lang/Long"
def TJ13 : u_T := fun k => match k with
  | _ => ("", "", "", false)
def tyJ13 : Nat → FieldType := fun k => match k with
  | _ => .int
abbrev wsJ130 : List Cond := u_ws RJ13 TJ13 0
theorem nmJ13 : ∀ a, a < 0 → ∀ b, b < 0 → a ≠ b → (TJ13 a).2.1 ≠ (TJ13 b).2.1 := by decide +kernel
theorem tyJ13_ok : ∀ k, k < 0 → parseFieldDescriptor (TJ13 k).2.2.1 = some (tyJ13 k) := by decide +kernel
abbrev cJ13_compare_74951 : ByteArray := prog_16_method_42_code
def yJ13_compare_74951 : MethodName := ⟨RJ13, "compare", "(JJ)I"⟩
def RJ9 : String := "java/lang/Math"
def TJ9 : u_T := fun k => match k with
  | _ => ("", "", "", false)
def tyJ9 : Nat → FieldType := fun k => match k with
  | _ => .int
abbrev wsJ90 : List Cond := u_ws RJ9 TJ9 0
theorem nmJ9 : ∀ a, a < 0 → ∀ b, b < 0 → a ≠ b → (TJ9 a).2.1 ≠ (TJ9 b).2.1 := by decide +kernel
theorem tyJ9_ok : ∀ k, k < 0 → parseFieldDescriptor (TJ9 k).2.2.1 = some (tyJ9 k) := by decide +kernel
abbrev cJ9_abs_0f7a4 : ByteArray := prog_17_method_59_code
def yJ9_abs_0f7a4 : MethodName := ⟨RJ9, "abs", "(I)I"⟩
abbrev cJ9_abs_067f4 : ByteArray := prog_17_method_61_code
def yJ9_abs_067f4 : MethodName := ⟨RJ9, "abs", "(J)J"⟩
abbrev cJ9_max_7cf53 : ByteArray := prog_17_method_65_code
def yJ9_max_7cf53 : MethodName := ⟨RJ9, "max", "(II)I"⟩
abbrev cJ9_max_f86c9 : ByteArray := prog_17_method_66_code
def yJ9_max_f86c9 : MethodName := ⟨RJ9, "max", "(JJ)J"⟩
abbrev cJ9_min_7cf53 : ByteArray := prog_17_method_69_code
def yJ9_min_7cf53 : MethodName := ⟨RJ9, "min", "(II)I"⟩
def RJ0 : String := "java/lang/String"
def TJ0 : u_T := fun k => match k with
  | _ => ("", "", "", false)
def tyJ0 : Nat → FieldType := fun k => match k with
  | _ => .int
abbrev wsJ00 : List Cond := u_ws RJ0 TJ0 0
theorem nmJ0 : ∀ a, a < 0 → ∀ b, b < 0 → a ≠ b → (TJ0 a).2.1 ≠ (TJ0 b).2.1 := by decide +kernel
theorem tyJ0_ok : ∀ k, k < 0 → parseFieldDescriptor (TJ0 k).2.2.1 = some (tyJ0 k) := by decide +kernel
def RL : String := "CloudBenchLaw"
abbrev cL_number : ByteArray := method_3_code
def yL_number : MethodName := ⟨RL, "number", "(LCloudBench;II[J)I"⟩
abbrev cL_score : ByteArray := method_4_code
def yL_score : MethodName := ⟨RL, "score", "(LCloudBench;III[J)I"⟩
abbrev cL_total : ByteArray := method_5_code
def yL_total : MethodName := ⟨RL, "total", "(LCloudBench;III[J)I"⟩
abbrev cL_count : ByteArray := method_6_code
def yL_count : MethodName := ⟨RL, "count", "(LCloudBench;IIII[J)I"⟩
abbrev cL_spread : ByteArray := method_7_code
def yL_spread : MethodName := ⟨RL, "spread", "(LCloudBench;III[J)I"⟩
abbrev cL_law : ByteArray := code
def yL_law : MethodName := ⟨RL, "law", "([I)Z"⟩
