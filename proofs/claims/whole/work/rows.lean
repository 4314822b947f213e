section
-- ===== PART A: goes FIRST, ahead of the names: the tables' words, and 'selects' of the private methods out of them =====
/-- a private method of a class that the tables say can be made, by its rows of tables_1 -/
def lw_okq (q : MethodName × Nat) : Prop := (q.1.cls ≠ "java/lang/invoke/MethodHandle" ∧ q.1.cls ≠ "java/lang/invoke/VarHandle") ∧ Cond.instantiable q.1.cls q.2 ∈ tables_1 ∧ Cond.privateMethod q.1 ∈ tables_1 ∧ Cond.instanceMethod q.1 ∈ tables_1
theorem lw_p0 : lw_okq (⟨"FollowScore", "hearNothing", "()V"⟩, 7) := ⟨⟨by decide +kernel, by decide +kernel⟩, List.mem_of_getElem? (i := 16) (by decide +kernel), List.mem_of_getElem? (i := 292) (by decide +kernel), List.mem_of_getElem? (i := 293) (by decide +kernel)⟩
theorem lw_p1 : lw_okq (⟨"FollowScore$Nexts", "layFrom", "(I)V"⟩, 6) := ⟨⟨by decide +kernel, by decide +kernel⟩, List.mem_of_getElem? (i := 114) (by decide +kernel), List.mem_of_getElem? (i := 374) (by decide +kernel), List.mem_of_getElem? (i := 375) (by decide +kernel)⟩
theorem lw_p2 : lw_okq (⟨"FollowScore$Nexts", "add", "(III)V"⟩, 6) := ⟨⟨by decide +kernel, by decide +kernel⟩, List.mem_of_getElem? (i := 114) (by decide +kernel), List.mem_of_getElem? (i := 379) (by decide +kernel), List.mem_of_getElem? (i := 380) (by decide +kernel)⟩
theorem lw_p3 : lw_okq (⟨"FollowScore$Following", "passOn", "(I)V"⟩, 6) := ⟨⟨by decide +kernel, by decide +kernel⟩, List.mem_of_getElem? (i := 147) (by decide +kernel), List.mem_of_getElem? (i := 392) (by decide +kernel), List.mem_of_getElem? (i := 393) (by decide +kernel)⟩
theorem lw_p4 : lw_okq (⟨"FollowScore$Following", "passOnce", "()Z"⟩, 6) := ⟨⟨by decide +kernel, by decide +kernel⟩, List.mem_of_getElem? (i := 147) (by decide +kernel), List.mem_of_getElem? (i := 396) (by decide +kernel), List.mem_of_getElem? (i := 397) (by decide +kernel)⟩
theorem lw_p5 : lw_okq (⟨"FollowScore$Following", "take", "(II)V"⟩, 6) := ⟨⟨by decide +kernel, by decide +kernel⟩, List.mem_of_getElem? (i := 147) (by decide +kernel), List.mem_of_getElem? (i := 400) (by decide +kernel), List.mem_of_getElem? (i := 401) (by decide +kernel)⟩
theorem lw_p6 : lw_okq (⟨"FollowScore$Following", "lower", "(III)V"⟩, 6) := ⟨⟨by decide +kernel, by decide +kernel⟩, List.mem_of_getElem? (i := 147) (by decide +kernel), List.mem_of_getElem? (i := 413) (by decide +kernel), List.mem_of_getElem? (i := 414) (by decide +kernel)⟩
theorem lw_p7 : lw_okq (⟨"FollowScore$Following", "nearestOfLeast", "(II)I"⟩, 6) := ⟨⟨by decide +kernel, by decide +kernel⟩, List.mem_of_getElem? (i := 147) (by decide +kernel), List.mem_of_getElem? (i := 417) (by decide +kernel), List.mem_of_getElem? (i := 418) (by decide +kernel)⟩
theorem lw_p8 : lw_okq (⟨"FollowScore$Following", "forgetFar", "(II)V"⟩, 6) := ⟨⟨by decide +kernel, by decide +kernel⟩, List.mem_of_getElem? (i := 147) (by decide +kernel), List.mem_of_getElem? (i := 424) (by decide +kernel), List.mem_of_getElem? (i := 425) (by decide +kernel)⟩
theorem lw_p9 : lw_okq (⟨"FollowScore$Anchors", "firstOfLatest", "()I"⟩, 5) := ⟨⟨by decide +kernel, by decide +kernel⟩, List.mem_of_getElem? (i := 173) (by decide +kernel), List.mem_of_getElem? (i := 462) (by decide +kernel), List.mem_of_getElem? (i := 463) (by decide +kernel)⟩
theorem lw_p10 : lw_okq (⟨"FollowScore$Best", "weighTaking", "(I)V"⟩, 12) := ⟨⟨by decide +kernel, by decide +kernel⟩, List.mem_of_getElem? (i := 196) (by decide +kernel), List.mem_of_getElem? (i := 503) (by decide +kernel), List.mem_of_getElem? (i := 504) (by decide +kernel)⟩
theorem lw_p11 : lw_okq (⟨"FollowScore$Best", "leapPrice", "(II)I"⟩, 12) := ⟨⟨by decide +kernel, by decide +kernel⟩, List.mem_of_getElem? (i := 196) (by decide +kernel), List.mem_of_getElem? (i := 510) (by decide +kernel), List.mem_of_getElem? (i := 511) (by decide +kernel)⟩
theorem lw_p12 : lw_okq (⟨"FollowScore$Best", "restAt", "(II)I"⟩, 12) := ⟨⟨by decide +kernel, by decide +kernel⟩, List.mem_of_getElem? (i := 196) (by decide +kernel), List.mem_of_getElem? (i := 515) (by decide +kernel), List.mem_of_getElem? (i := 516) (by decide +kernel)⟩
theorem lw_p13 : lw_okq (⟨"FollowScore$Best", "playPrice", "(II)I"⟩, 12) := ⟨⟨by decide +kernel, by decide +kernel⟩, List.mem_of_getElem? (i := 196) (by decide +kernel), List.mem_of_getElem? (i := 520) (by decide +kernel), List.mem_of_getElem? (i := 521) (by decide +kernel)⟩
theorem lw_p14 : lw_okq (⟨"FollowScore$Best", "lowerRest", "(III)V"⟩, 12) := ⟨⟨by decide +kernel, by decide +kernel⟩, List.mem_of_getElem? (i := 196) (by decide +kernel), List.mem_of_getElem? (i := 524) (by decide +kernel), List.mem_of_getElem? (i := 525) (by decide +kernel)⟩
theorem lw_p15 : lw_okq (⟨"FollowScore$Best", "weighPassing", "(I)V"⟩, 12) := ⟨⟨by decide +kernel, by decide +kernel⟩, List.mem_of_getElem? (i := 196) (by decide +kernel), List.mem_of_getElem? (i := 528) (by decide +kernel), List.mem_of_getElem? (i := 529) (by decide +kernel)⟩
def lw_privs_1 : List (MethodName × Nat) := [(⟨"FollowScore", "hearNothing", "()V"⟩, 7), (⟨"FollowScore$Nexts", "layFrom", "(I)V"⟩, 6), (⟨"FollowScore$Nexts", "add", "(III)V"⟩, 6), (⟨"FollowScore$Following", "passOn", "(I)V"⟩, 6), (⟨"FollowScore$Following", "passOnce", "()Z"⟩, 6), (⟨"FollowScore$Following", "take", "(II)V"⟩, 6), (⟨"FollowScore$Following", "lower", "(III)V"⟩, 6), (⟨"FollowScore$Following", "nearestOfLeast", "(II)I"⟩, 6), (⟨"FollowScore$Following", "forgetFar", "(II)V"⟩, 6), (⟨"FollowScore$Anchors", "firstOfLatest", "()I"⟩, 5), (⟨"FollowScore$Best", "weighTaking", "(I)V"⟩, 12), (⟨"FollowScore$Best", "leapPrice", "(II)I"⟩, 12), (⟨"FollowScore$Best", "restAt", "(II)I"⟩, 12), (⟨"FollowScore$Best", "playPrice", "(II)I"⟩, 12), (⟨"FollowScore$Best", "lowerRest", "(III)V"⟩, 12), (⟨"FollowScore$Best", "weighPassing", "(I)V"⟩, 12)]
theorem lw_r1 : ∀ q ∈ lw_privs_1, lw_okq q := List.forall_mem_cons.mpr ⟨lw_p0, List.forall_mem_cons.mpr ⟨lw_p1, List.forall_mem_cons.mpr ⟨lw_p2, List.forall_mem_cons.mpr ⟨lw_p3, List.forall_mem_cons.mpr ⟨lw_p4, List.forall_mem_cons.mpr ⟨lw_p5, List.forall_mem_cons.mpr ⟨lw_p6, List.forall_mem_cons.mpr ⟨lw_p7, List.forall_mem_cons.mpr ⟨lw_p8, List.forall_mem_cons.mpr ⟨lw_p9, List.forall_mem_cons.mpr ⟨lw_p10, List.forall_mem_cons.mpr ⟨lw_p11, List.forall_mem_cons.mpr ⟨lw_p12, List.forall_mem_cons.mpr ⟨lw_p13, List.forall_mem_cons.mpr ⟨lw_p14, List.forall_mem_cons.mpr ⟨lw_p15, fun _ h => absurd h List.not_mem_nil⟩⟩⟩⟩⟩⟩⟩⟩⟩⟩⟩⟩⟩⟩⟩⟩
theorem lw_p16 : lw_okq (⟨"FollowScore$Best", "passPrice", "(I)I"⟩, 12) := ⟨⟨by decide +kernel, by decide +kernel⟩, List.mem_of_getElem? (i := 196) (by decide +kernel), List.mem_of_getElem? (i := 532) (by decide +kernel), List.mem_of_getElem? (i := 533) (by decide +kernel)⟩
theorem lw_p17 : lw_okq (⟨"FollowScore$Best", "walk", "()V"⟩, 12) := ⟨⟨by decide +kernel, by decide +kernel⟩, List.mem_of_getElem? (i := 196) (by decide +kernel), List.mem_of_getElem? (i := 536) (by decide +kernel), List.mem_of_getElem? (i := 537) (by decide +kernel)⟩
theorem lw_p18 : lw_okq (⟨"FollowScore$Best", "forgetCourse", "()V"⟩, 12) := ⟨⟨by decide +kernel, by decide +kernel⟩, List.mem_of_getElem? (i := 196) (by decide +kernel), List.mem_of_getElem? (i := 540) (by decide +kernel), List.mem_of_getElem? (i := 541) (by decide +kernel)⟩
theorem lw_p19 : lw_okq (⟨"FollowScore$Best", "plays", "(II)Z"⟩, 12) := ⟨⟨by decide +kernel, by decide +kernel⟩, List.mem_of_getElem? (i := 196) (by decide +kernel), List.mem_of_getElem? (i := 544) (by decide +kernel), List.mem_of_getElem? (i := 545) (by decide +kernel)⟩
theorem lw_p20 : lw_okq (⟨"FollowScore$Best", "match", "(IIII)Z"⟩, 12) := ⟨⟨by decide +kernel, by decide +kernel⟩, List.mem_of_getElem? (i := 196) (by decide +kernel), List.mem_of_getElem? (i := 556) (by decide +kernel), List.mem_of_getElem? (i := 557) (by decide +kernel)⟩
theorem lw_p21 : lw_okq (⟨"FollowScore$Best", "keepStep", "(IIII)Z"⟩, 12) := ⟨⟨by decide +kernel, by decide +kernel⟩, List.mem_of_getElem? (i := 196) (by decide +kernel), List.mem_of_getElem? (i := 560) (by decide +kernel), List.mem_of_getElem? (i := 561) (by decide +kernel)⟩
theorem lw_p22 : lw_okq (⟨"FollowScore$Best", "stays", "(II)Z"⟩, 12) := ⟨⟨by decide +kernel, by decide +kernel⟩, List.mem_of_getElem? (i := 196) (by decide +kernel), List.mem_of_getElem? (i := 564) (by decide +kernel), List.mem_of_getElem? (i := 565) (by decide +kernel)⟩
theorem lw_p23 : lw_okq (⟨"FollowScore$Best", "passes", "(II)Z"⟩, 12) := ⟨⟨by decide +kernel, by decide +kernel⟩, List.mem_of_getElem? (i := 196) (by decide +kernel), List.mem_of_getElem? (i := 568) (by decide +kernel), List.mem_of_getElem? (i := 569) (by decide +kernel)⟩
theorem lw_p24 : lw_okq (⟨"FollowScore$Best", "leaps", "(II)Z"⟩, 12) := ⟨⟨by decide +kernel, by decide +kernel⟩, List.mem_of_getElem? (i := 196) (by decide +kernel), List.mem_of_getElem? (i := 572) (by decide +kernel), List.mem_of_getElem? (i := 573) (by decide +kernel)⟩
theorem lw_p25 : lw_okq (⟨"FollowScore$Boxes", "put", "(II)V"⟩, 3) := ⟨⟨by decide +kernel, by decide +kernel⟩, List.mem_of_getElem? (i := 246) (by decide +kernel), List.mem_of_getElem? (i := 610) (by decide +kernel), List.mem_of_getElem? (i := 611) (by decide +kernel)⟩
theorem lw_p26 : lw_okq (⟨"java/lang/Throwable", "fillInStackTrace", "(I)Ljava/lang/Throwable;"⟩, 6) := ⟨⟨by decide +kernel, by decide +kernel⟩, List.mem_of_getElem? (i := 689) (by decide +kernel), List.mem_of_getElem? (i := 687) (by decide +kernel), List.mem_of_getElem? (i := 688) (by decide +kernel)⟩
theorem lw_p27 : lw_okq (⟨"FollowScoreModel", "begin", "()V"⟩, 35) := ⟨⟨by decide +kernel, by decide +kernel⟩, List.mem_of_getElem? (i := 719) (by decide +kernel), List.mem_of_getElem? (i := 725) (by decide +kernel), List.mem_of_getElem? (i := 726) (by decide +kernel)⟩
theorem lw_p28 : lw_okq (⟨"FollowScoreModel", "fresh", "()V"⟩, 35) := ⟨⟨by decide +kernel, by decide +kernel⟩, List.mem_of_getElem? (i := 719) (by decide +kernel), List.mem_of_getElem? (i := 729) (by decide +kernel), List.mem_of_getElem? (i := 730) (by decide +kernel)⟩
theorem lw_p29 : lw_okq (⟨"FollowScoreModel", "follow", "()V"⟩, 35) := ⟨⟨by decide +kernel, by decide +kernel⟩, List.mem_of_getElem? (i := 719) (by decide +kernel), List.mem_of_getElem? (i := 733) (by decide +kernel), List.mem_of_getElem? (i := 734) (by decide +kernel)⟩
theorem lw_p30 : lw_okq (⟨"FollowScoreModel", "further", "(I)V"⟩, 35) := ⟨⟨by decide +kernel, by decide +kernel⟩, List.mem_of_getElem? (i := 719) (by decide +kernel), List.mem_of_getElem? (i := 738) (by decide +kernel), List.mem_of_getElem? (i := 739) (by decide +kernel)⟩
theorem lw_p31 : lw_okq (⟨"FollowScoreModel", "pass", "()V"⟩, 35) := ⟨⟨by decide +kernel, by decide +kernel⟩, List.mem_of_getElem? (i := 719) (by decide +kernel), List.mem_of_getElem? (i := 742) (by decide +kernel), List.mem_of_getElem? (i := 743) (by decide +kernel)⟩
def lw_privs_2 : List (MethodName × Nat) := [(⟨"FollowScore$Best", "passPrice", "(I)I"⟩, 12), (⟨"FollowScore$Best", "walk", "()V"⟩, 12), (⟨"FollowScore$Best", "forgetCourse", "()V"⟩, 12), (⟨"FollowScore$Best", "plays", "(II)Z"⟩, 12), (⟨"FollowScore$Best", "match", "(IIII)Z"⟩, 12), (⟨"FollowScore$Best", "keepStep", "(IIII)Z"⟩, 12), (⟨"FollowScore$Best", "stays", "(II)Z"⟩, 12), (⟨"FollowScore$Best", "passes", "(II)Z"⟩, 12), (⟨"FollowScore$Best", "leaps", "(II)Z"⟩, 12), (⟨"FollowScore$Boxes", "put", "(II)V"⟩, 3), (⟨"java/lang/Throwable", "fillInStackTrace", "(I)Ljava/lang/Throwable;"⟩, 6), (⟨"FollowScoreModel", "begin", "()V"⟩, 35), (⟨"FollowScoreModel", "fresh", "()V"⟩, 35), (⟨"FollowScoreModel", "follow", "()V"⟩, 35), (⟨"FollowScoreModel", "further", "(I)V"⟩, 35), (⟨"FollowScoreModel", "pass", "()V"⟩, 35)]
theorem lw_r2 : ∀ q ∈ lw_privs_2, lw_okq q := List.forall_mem_cons.mpr ⟨lw_p16, List.forall_mem_cons.mpr ⟨lw_p17, List.forall_mem_cons.mpr ⟨lw_p18, List.forall_mem_cons.mpr ⟨lw_p19, List.forall_mem_cons.mpr ⟨lw_p20, List.forall_mem_cons.mpr ⟨lw_p21, List.forall_mem_cons.mpr ⟨lw_p22, List.forall_mem_cons.mpr ⟨lw_p23, List.forall_mem_cons.mpr ⟨lw_p24, List.forall_mem_cons.mpr ⟨lw_p25, List.forall_mem_cons.mpr ⟨lw_p26, List.forall_mem_cons.mpr ⟨lw_p27, List.forall_mem_cons.mpr ⟨lw_p28, List.forall_mem_cons.mpr ⟨lw_p29, List.forall_mem_cons.mpr ⟨lw_p30, List.forall_mem_cons.mpr ⟨lw_p31, fun _ h => absurd h List.not_mem_nil⟩⟩⟩⟩⟩⟩⟩⟩⟩⟩⟩⟩⟩⟩⟩⟩
theorem lw_p32 : lw_okq (⟨"FollowScoreModel", "nextsOf", "(I)V"⟩, 35) := ⟨⟨by decide +kernel, by decide +kernel⟩, List.mem_of_getElem? (i := 719) (by decide +kernel), List.mem_of_getElem? (i := 746) (by decide +kernel), List.mem_of_getElem? (i := 747) (by decide +kernel)⟩
theorem lw_p33 : lw_okq (⟨"FollowScoreModel", "isThere", "(I)Z"⟩, 35) := ⟨⟨by decide +kernel, by decide +kernel⟩, List.mem_of_getElem? (i := 719) (by decide +kernel), List.mem_of_getElem? (i := 750) (by decide +kernel), List.mem_of_getElem? (i := 751) (by decide +kernel)⟩
theorem lw_p34 : lw_okq (⟨"FollowScoreModel", "lay", "(II)V"⟩, 35) := ⟨⟨by decide +kernel, by decide +kernel⟩, List.mem_of_getElem? (i := 719) (by decide +kernel), List.mem_of_getElem? (i := 754) (by decide +kernel), List.mem_of_getElem? (i := 755) (by decide +kernel)⟩
theorem lw_p35 : lw_okq (⟨"FollowScoreModel", "take", "(I)V"⟩, 35) := ⟨⟨by decide +kernel, by decide +kernel⟩, List.mem_of_getElem? (i := 719) (by decide +kernel), List.mem_of_getElem? (i := 758) (by decide +kernel), List.mem_of_getElem? (i := 759) (by decide +kernel)⟩
theorem lw_p36 : lw_okq (⟨"FollowScoreModel", "wrong", "(II)I"⟩, 35) := ⟨⟨by decide +kernel, by decide +kernel⟩, List.mem_of_getElem? (i := 719) (by decide +kernel), List.mem_of_getElem? (i := 762) (by decide +kernel), List.mem_of_getElem? (i := 763) (by decide +kernel)⟩
theorem lw_p37 : lw_okq (⟨"FollowScoreModel", "choose", "()V"⟩, 35) := ⟨⟨by decide +kernel, by decide +kernel⟩, List.mem_of_getElem? (i := 719) (by decide +kernel), List.mem_of_getElem? (i := 766) (by decide +kernel), List.mem_of_getElem? (i := 767) (by decide +kernel)⟩
theorem lw_p38 : lw_okq (⟨"FollowScoreModel", "anchor", "(I)V"⟩, 35) := ⟨⟨by decide +kernel, by decide +kernel⟩, List.mem_of_getElem? (i := 719) (by decide +kernel), List.mem_of_getElem? (i := 770) (by decide +kernel), List.mem_of_getElem? (i := 771) (by decide +kernel)⟩
theorem lw_p39 : lw_okq (⟨"FollowScoreModel", "tempoOf", "(I)I"⟩, 35) := ⟨⟨by decide +kernel, by decide +kernel⟩, List.mem_of_getElem? (i := 719) (by decide +kernel), List.mem_of_getElem? (i := 926) (by decide +kernel), List.mem_of_getElem? (i := 927) (by decide +kernel)⟩
theorem lw_p40 : lw_okq (⟨"FollowScoreModel", "left", "(I)V"⟩, 35) := ⟨⟨by decide +kernel, by decide +kernel⟩, List.mem_of_getElem? (i := 719) (by decide +kernel), List.mem_of_getElem? (i := 943) (by decide +kernel), List.mem_of_getElem? (i := 944) (by decide +kernel)⟩
theorem lw_p41 : lw_okq (⟨"FollowScoreModel", "at", "(II)I"⟩, 35) := ⟨⟨by decide +kernel, by decide +kernel⟩, List.mem_of_getElem? (i := 719) (by decide +kernel), List.mem_of_getElem? (i := 947) (by decide +kernel), List.mem_of_getElem? (i := 948) (by decide +kernel)⟩
theorem lw_p42 : lw_okq (⟨"FollowScoreModel", "choose", "(II)V"⟩, 35) := ⟨⟨by decide +kernel, by decide +kernel⟩, List.mem_of_getElem? (i := 719) (by decide +kernel), List.mem_of_getElem? (i := 951) (by decide +kernel), List.mem_of_getElem? (i := 952) (by decide +kernel)⟩
theorem lw_p43 : lw_okq (⟨"FollowScoreModel", "put", "(IIII)V"⟩, 35) := ⟨⟨by decide +kernel, by decide +kernel⟩, List.mem_of_getElem? (i := 719) (by decide +kernel), List.mem_of_getElem? (i := 955) (by decide +kernel), List.mem_of_getElem? (i := 956) (by decide +kernel)⟩
theorem lw_p44 : lw_okq (⟨"FollowScoreModel", "count", "(II)I"⟩, 35) := ⟨⟨by decide +kernel, by decide +kernel⟩, List.mem_of_getElem? (i := 719) (by decide +kernel), List.mem_of_getElem? (i := 975) (by decide +kernel), List.mem_of_getElem? (i := 976) (by decide +kernel)⟩
def lw_privs_3 : List (MethodName × Nat) := [(⟨"FollowScoreModel", "nextsOf", "(I)V"⟩, 35), (⟨"FollowScoreModel", "isThere", "(I)Z"⟩, 35), (⟨"FollowScoreModel", "lay", "(II)V"⟩, 35), (⟨"FollowScoreModel", "take", "(I)V"⟩, 35), (⟨"FollowScoreModel", "wrong", "(II)I"⟩, 35), (⟨"FollowScoreModel", "choose", "()V"⟩, 35), (⟨"FollowScoreModel", "anchor", "(I)V"⟩, 35), (⟨"FollowScoreModel", "tempoOf", "(I)I"⟩, 35), (⟨"FollowScoreModel", "left", "(I)V"⟩, 35), (⟨"FollowScoreModel", "at", "(II)I"⟩, 35), (⟨"FollowScoreModel", "choose", "(II)V"⟩, 35), (⟨"FollowScoreModel", "put", "(IIII)V"⟩, 35), (⟨"FollowScoreModel", "count", "(II)I"⟩, 35)]
theorem lw_r3 : ∀ q ∈ lw_privs_3, lw_okq q := List.forall_mem_cons.mpr ⟨lw_p32, List.forall_mem_cons.mpr ⟨lw_p33, List.forall_mem_cons.mpr ⟨lw_p34, List.forall_mem_cons.mpr ⟨lw_p35, List.forall_mem_cons.mpr ⟨lw_p36, List.forall_mem_cons.mpr ⟨lw_p37, List.forall_mem_cons.mpr ⟨lw_p38, List.forall_mem_cons.mpr ⟨lw_p39, List.forall_mem_cons.mpr ⟨lw_p40, List.forall_mem_cons.mpr ⟨lw_p41, List.forall_mem_cons.mpr ⟨lw_p42, List.forall_mem_cons.mpr ⟨lw_p43, List.forall_mem_cons.mpr ⟨lw_p44, fun _ h => absurd h List.not_mem_nil⟩⟩⟩⟩⟩⟩⟩⟩⟩⟩⟩⟩⟩
def lw_privs : List (MethodName × Nat) := lw_privs_1 ++ (lw_privs_2 ++ (lw_privs_3))
def lw_tbl : List Cond := k2_sels lw_privs ++ tables_1
theorem lw_privs_ok : ∀ q ∈ lw_privs, lw_okq q := by
  show ∀ q ∈ lw_privs_1 ++ (lw_privs_2 ++ (lw_privs_3)), lw_okq q
  exact List.forall_mem_append.mpr ⟨lw_r1, List.forall_mem_append.mpr ⟨lw_r2, lw_r3⟩⟩
end
section
def RX0 : String := "FollowScore$Anchors"
def TX0 : u_T := fun k => match k with
  | 0 => ("FollowScore$Anchors", "score", "LFollowScore$Score;", true)
  | 1 => ("FollowScore$Anchors", "heard", "LFollowScore$Heard;", true)
  | 2 => ("FollowScore$Anchors", "events", "[I", true)
  | 3 => ("FollowScore$Anchors", "notes", "[I", true)
  | _ => ("FollowScore$Anchors", "count", "I", false)
def tyX0 : Nat → FieldType := fun k => match k with
  | 0 => .object "FollowScore$Score"
  | 1 => .object "FollowScore$Heard"
  | 2 => .array .int
  | 3 => .array .int
  | _ => .int
abbrev wsX00 : List Cond := u_ws RX0 TX0 5
theorem nmX0 : ∀ a, a < 5 → ∀ b, b < 5 → a ≠ b → (TX0 a).2.1 ≠ (TX0 b).2.1 := by decide +kernel
theorem tyX0_ok : ∀ k, k < 5 → parseFieldDescriptor (TX0 k).2.2.1 = some (tyX0 k) := by decide +kernel
abbrev cX0_init : ByteArray := prog_2_method_1_code
def yX0_init : MethodName := ⟨RX0, "<init>", "(LFollowScore$Score;LFollowScore$Heard;)V"⟩
abbrev cX0_look : ByteArray := prog_2_method_2_code
def yX0_look : MethodName := ⟨RX0, "look", "(II)V"⟩
abbrev cX0_timeGone : ByteArray := prog_2_method_3_code
def yX0_timeGone : MethodName := ⟨RX0, "timeGone", "()I"⟩
abbrev cX0_startGrown : ByteArray := prog_2_method_4_code
def yX0_startGrown : MethodName := ⟨RX0, "startGrown", "()I"⟩
abbrev cX0_expected : ByteArray := prog_2_method_5_code
def yX0_expected : MethodName := ⟨RX0, "expected", "(I)J"⟩
abbrev cX0_firstOfLatest : ByteArray := prog_2_method_6_code
def yX0_firstOfLatest : MethodName := ⟨RX0, "firstOfLatest", "()I"⟩
def RX1 : String := "FollowScore$Best"
def TX1 : u_T := fun k => match k with
  | 0 => ("FollowScore$Best", "score", "LFollowScore$Score;", true)
  | 1 => ("FollowScore$Best", "nexts", "LFollowScore$Nexts;", true)
  | 2 => ("FollowScore$Best", "heard", "LFollowScore$Heard;", true)
  | 3 => ("FollowScore$Best", "rest", "[I", true)
  | 4 => ("FollowScore$Best", "course", "[I", true)
  | 5 => ("FollowScore$Best", "matches", "[I", true)
  | 6 => ("FollowScore$Best", "played", "[I", true)
  | 7 => ("FollowScore$Best", "right", "[I", true)
  | 8 => ("FollowScore$Best", "passed", "[I", true)
  | 9 => ("FollowScore$Best", "known", "Z", false)
  | 10 => ("FollowScore$Best", "sum", "I", false)
  | _ => ("FollowScore$Best", "count", "I", false)
def tyX1 : Nat → FieldType := fun k => match k with
  | 0 => .object "FollowScore$Score"
  | 1 => .object "FollowScore$Nexts"
  | 2 => .object "FollowScore$Heard"
  | 3 => .array .int
  | 4 => .array .int
  | 5 => .array .int
  | 6 => .array .int
  | 7 => .array .int
  | 8 => .array .int
  | 9 => .boolean
  | 10 => .int
  | _ => .int
abbrev wsX10 : List Cond := u_ws RX1 TX1 12
theorem nmX1 : ∀ a, a < 12 → ∀ b, b < 12 → a ≠ b → (TX1 a).2.1 ≠ (TX1 b).2.1 := by decide +kernel
theorem tyX1_ok : ∀ k, k < 12 → parseFieldDescriptor (TX1 k).2.2.1 = some (tyX1 k) := by decide +kernel
abbrev cX1_init : ByteArray := prog_3_method_1_code
def yX1_init : MethodName := ⟨RX1, "<init>", "(LFollowScore$Score;LFollowScore$Nexts;LFollowScore$Heard;)V"⟩
abbrev cX1_find : ByteArray := prog_3_method_2_code
def yX1_find : MethodName := ⟨RX1, "find", "()V"⟩
abbrev cX1_tell : ByteArray := prog_3_method_3_code
def yX1_tell : MethodName := ⟨RX1, "tell", "(II)I"⟩
abbrev cX1_isTouched : ByteArray := prog_3_method_4_code
def yX1_isTouched : MethodName := ⟨RX1, "isTouched", "(I)Z"⟩
abbrev cX1_isFaultless : ByteArray := prog_3_method_5_code
def yX1_isFaultless : MethodName := ⟨RX1, "isFaultless", "(I)Z"⟩
abbrev cX1_restAt : ByteArray := prog_3_method_6_code
def yX1_restAt : MethodName := ⟨RX1, "restAt", "(II)I"⟩
abbrev cX1_lowerRest : ByteArray := prog_3_method_7_code
def yX1_lowerRest : MethodName := ⟨RX1, "lowerRest", "(III)V"⟩
abbrev cX1_playPrice : ByteArray := prog_3_method_8_code
def yX1_playPrice : MethodName := ⟨RX1, "playPrice", "(II)I"⟩
abbrev cX1_leapPrice : ByteArray := prog_3_method_9_code
def yX1_leapPrice : MethodName := ⟨RX1, "leapPrice", "(II)I"⟩
abbrev cX1_passPrice : ByteArray := prog_3_method_10_code
def yX1_passPrice : MethodName := ⟨RX1, "passPrice", "(I)I"⟩
abbrev cX1_weighTaking : ByteArray := prog_3_method_11_code
def yX1_weighTaking : MethodName := ⟨RX1, "weighTaking", "(I)V"⟩
abbrev cX1_weighPassing : ByteArray := prog_3_method_12_code
def yX1_weighPassing : MethodName := ⟨RX1, "weighPassing", "(I)V"⟩
abbrev cX1_walk : ByteArray := prog_3_method_13_code
def yX1_walk : MethodName := ⟨RX1, "walk", "()V"⟩
abbrev cX1_forgetCourse : ByteArray := prog_3_method_14_code
def yX1_forgetCourse : MethodName := ⟨RX1, "forgetCourse", "()V"⟩
abbrev cX1_plays : ByteArray := prog_3_method_15_code
def yX1_plays : MethodName := ⟨RX1, "plays", "(II)Z"⟩
abbrev cX1_stays : ByteArray := prog_3_method_16_code
def yX1_stays : MethodName := ⟨RX1, "stays", "(II)Z"⟩
abbrev cX1_passes : ByteArray := prog_3_method_17_code
def yX1_passes : MethodName := ⟨RX1, "passes", "(II)Z"⟩
abbrev cX1_leaps : ByteArray := prog_3_method_18_code
def yX1_leaps : MethodName := ⟨RX1, "leaps", "(II)Z"⟩
abbrev cX1_match : ByteArray := prog_3_method_19_code
def yX1_match : MethodName := ⟨RX1, "match", "(IIII)Z"⟩
abbrev cX1_keepStep : ByteArray := prog_3_method_20_code
def yX1_keepStep : MethodName := ⟨RX1, "keepStep", "(IIII)Z"⟩
def RX2 : String := "FollowScore$Boxes"
def TX2 : u_T := fun k => match k with
  | 0 => ("FollowScore$Boxes", "box", "[I", true)
  | 1 => ("FollowScore$Boxes", "dueFrom", "[I", true)
  | _ => ("FollowScore$Boxes", "session", "I", false)
def tyX2 : Nat → FieldType := fun k => match k with
  | 0 => .array .int
  | 1 => .array .int
  | _ => .int
abbrev wsX20 : List Cond := u_ws RX2 TX2 3
theorem nmX2 : ∀ a, a < 3 → ∀ b, b < 3 → a ≠ b → (TX2 a).2.1 ≠ (TX2 b).2.1 := by decide +kernel
theorem tyX2_ok : ∀ k, k < 3 → parseFieldDescriptor (TX2 k).2.2.1 = some (tyX2 k) := by decide +kernel
abbrev cX2_init : ByteArray := prog_4_method_1_code
def yX2_init : MethodName := ⟨RX2, "<init>", "()V"⟩
abbrev cX2_open : ByteArray := prog_4_method_2_code
def yX2_open : MethodName := ⟨RX2, "open", "(I)V"⟩
abbrev cX2_raise : ByteArray := prog_4_method_3_code
def yX2_raise : MethodName := ⟨RX2, "raise", "(I)V"⟩
abbrev cX2_drop : ByteArray := prog_4_method_4_code
def yX2_drop : MethodName := ⟨RX2, "drop", "(I)V"⟩
abbrev cX2_put : ByteArray := prog_4_method_5_code
def yX2_put : MethodName := ⟨RX2, "put", "(II)V"⟩
abbrev cX2_countDue : ByteArray := prog_4_method_6_code
def yX2_countDue : MethodName := ⟨RX2, "countDue", "(I)I"⟩
abbrev cX2_dueAt : ByteArray := prog_4_method_7_code
def yX2_dueAt : MethodName := ⟨RX2, "dueAt", "(II)I"⟩
def RX3 : String := "FollowScore$Following"
def TX3 : u_T := fun k => match k with
  | 0 => ("FollowScore$Following", "score", "LFollowScore$Score;", true)
  | 1 => ("FollowScore$Following", "nexts", "LFollowScore$Nexts;", true)
  | 2 => ("FollowScore$Following", "heard", "LFollowScore$Heard;", true)
  | 3 => ("FollowScore$Following", "values", "[I", true)
  | 4 => ("FollowScore$Following", "places", "[I", true)
  | _ => ("FollowScore$Following", "reach", "[I", true)
def tyX3 : Nat → FieldType := fun k => match k with
  | 0 => .object "FollowScore$Score"
  | 1 => .object "FollowScore$Nexts"
  | 2 => .object "FollowScore$Heard"
  | 3 => .array .int
  | 4 => .array .int
  | _ => .array .int
abbrev wsX30 : List Cond := u_ws RX3 TX3 6
theorem nmX3 : ∀ a, a < 6 → ∀ b, b < 6 → a ≠ b → (TX3 a).2.1 ≠ (TX3 b).2.1 := by decide +kernel
theorem tyX3_ok : ∀ k, k < 6 → parseFieldDescriptor (TX3 k).2.2.1 = some (tyX3 k) := by decide +kernel
abbrev cX3_init : ByteArray := prog_5_method_1_code
def yX3_init : MethodName := ⟨RX3, "<init>", "(LFollowScore$Score;LFollowScore$Nexts;LFollowScore$Heard;)V"⟩
abbrev cX3_placeNow : ByteArray := prog_5_method_2_code
def yX3_placeNow : MethodName := ⟨RX3, "placeNow", "()I"⟩
abbrev cX3_placeBehind : ByteArray := prog_5_method_3_code
def yX3_placeBehind : MethodName := ⟨RX3, "placeBehind", "(I)I"⟩
abbrev cX3_valueNow : ByteArray := prog_5_method_4_code
def yX3_valueNow : MethodName := ⟨RX3, "valueNow", "(I)I"⟩
abbrev cX3_follow : ByteArray := prog_5_method_5_code
def yX3_follow : MethodName := ⟨RX3, "follow", "(I)V"⟩
abbrev cX3_passOn : ByteArray := prog_5_method_6_code
def yX3_passOn : MethodName := ⟨RX3, "passOn", "(I)V"⟩
abbrev cX3_passOnce : ByteArray := prog_5_method_7_code
def yX3_passOnce : MethodName := ⟨RX3, "passOnce", "()Z"⟩
abbrev cX3_take : ByteArray := prog_5_method_8_code
def yX3_take : MethodName := ⟨RX3, "take", "(II)V"⟩
abbrev cX3_lower : ByteArray := prog_5_method_9_code
def yX3_lower : MethodName := ⟨RX3, "lower", "(III)V"⟩
abbrev cX3_nearestOfLeast : ByteArray := prog_5_method_10_code
def yX3_nearestOfLeast : MethodName := ⟨RX3, "nearestOfLeast", "(II)I"⟩
abbrev cX3_forgetFar : ByteArray := prog_5_method_11_code
def yX3_forgetFar : MethodName := ⟨RX3, "forgetFar", "(II)V"⟩
def RX4 : String := "FollowScore$Heard"
def TX4 : u_T := fun k => match k with
  | 0 => ("FollowScore$Heard", "pitches", "[I", true)
  | 1 => ("FollowScore$Heard", "times", "[I", true)
  | _ => ("FollowScore$Heard", "count", "I", false)
def tyX4 : Nat → FieldType := fun k => match k with
  | 0 => .array .int
  | 1 => .array .int
  | _ => .int
abbrev wsX40 : List Cond := u_ws RX4 TX4 3
theorem nmX4 : ∀ a, a < 3 → ∀ b, b < 3 → a ≠ b → (TX4 a).2.1 ≠ (TX4 b).2.1 := by decide +kernel
theorem tyX4_ok : ∀ k, k < 3 → parseFieldDescriptor (TX4 k).2.2.1 = some (tyX4 k) := by decide +kernel
abbrev cX4_init : ByteArray := prog_6_method_1_code
def yX4_init : MethodName := ⟨RX4, "<init>", "()V"⟩
abbrev cX4_add : ByteArray := prog_6_method_2_code
def yX4_add : MethodName := ⟨RX4, "add", "(II)I"⟩
abbrev cX4_lastTime : ByteArray := prog_6_method_3_code
def yX4_lastTime : MethodName := ⟨RX4, "lastTime", "()I"⟩
def RX5 : String := "FollowScore$Nexts"
def TX5 : u_T := fun k => match k with
  | 0 => ("FollowScore$Nexts", "score", "LFollowScore$Score;", true)
  | 1 => ("FollowScore$Nexts", "from", "[I", true)
  | 2 => ("FollowScore$Nexts", "note", "[I", true)
  | 3 => ("FollowScore$Nexts", "price", "[I", true)
  | 4 => ("FollowScore$Nexts", "begin", "[I", true)
  | _ => ("FollowScore$Nexts", "count", "I", false)
def tyX5 : Nat → FieldType := fun k => match k with
  | 0 => .object "FollowScore$Score"
  | 1 => .array .int
  | 2 => .array .int
  | 3 => .array .int
  | 4 => .array .int
  | _ => .int
abbrev wsX50 : List Cond := u_ws RX5 TX5 6
theorem nmX5 : ∀ a, a < 6 → ∀ b, b < 6 → a ≠ b → (TX5 a).2.1 ≠ (TX5 b).2.1 := by decide +kernel
theorem tyX5_ok : ∀ k, k < 6 → parseFieldDescriptor (TX5 k).2.2.1 = some (tyX5 k) := by decide +kernel
abbrev cX5_init : ByteArray := prog_7_method_1_code
def yX5_init : MethodName := ⟨RX5, "<init>", "(LFollowScore$Score;)V"⟩
abbrev cX5_lay : ByteArray := prog_7_method_2_code
def yX5_lay : MethodName := ⟨RX5, "lay", "()V"⟩
abbrev cX5_layFrom : ByteArray := prog_7_method_3_code
def yX5_layFrom : MethodName := ⟨RX5, "layFrom", "(I)V"⟩
abbrev cX5_add : ByteArray := prog_7_method_4_code
def yX5_add : MethodName := ⟨RX5, "add", "(III)V"⟩
abbrev cX5_beginOf : ByteArray := prog_7_method_5_code
def yX5_beginOf : MethodName := ⟨RX5, "beginOf", "(I)I"⟩
abbrev cX5_endOf : ByteArray := prog_7_method_6_code
def yX5_endOf : MethodName := ⟨RX5, "endOf", "(I)I"⟩
def RX6 : String := "FollowScore$Score"
def TX6 : u_T := fun k => match k with
  | 0 => ("FollowScore$Score", "pitches", "[I", true)
  | 1 => ("FollowScore$Score", "starts", "[I", true)
  | 2 => ("FollowScore$Score", "wayFrom", "[I", true)
  | 3 => ("FollowScore$Score", "wayTo", "[I", true)
  | 4 => ("FollowScore$Score", "costs", "[I", true)
  | 5 => ("FollowScore$Score", "notes", "I", false)
  | 6 => ("FollowScore$Score", "ways", "I", false)
  | 7 => ("FollowScore$Score", "loopFirst", "I", false)
  | 8 => ("FollowScore$Score", "loopLast", "I", false)
  | _ => ("FollowScore$Score", "span", "I", false)
def tyX6 : Nat → FieldType := fun k => match k with
  | 0 => .array .int
  | 1 => .array .int
  | 2 => .array .int
  | 3 => .array .int
  | 4 => .array .int
  | 5 => .int
  | 6 => .int
  | 7 => .int
  | 8 => .int
  | _ => .int
abbrev wsX60 : List Cond := u_ws RX6 TX6 10
theorem nmX6 : ∀ a, a < 10 → ∀ b, b < 10 → a ≠ b → (TX6 a).2.1 ≠ (TX6 b).2.1 := by decide +kernel
theorem tyX6_ok : ∀ k, k < 10 → parseFieldDescriptor (TX6 k).2.2.1 = some (tyX6 k) := by decide +kernel
abbrev cX6_init : ByteArray := prog_8_method_1_code
def yX6_init : MethodName := ⟨RX6, "<init>", "()V"⟩
abbrev cX6_empty : ByteArray := prog_8_method_2_code
def yX6_empty : MethodName := ⟨RX6, "empty", "()V"⟩
abbrev cX6_addNote : ByteArray := prog_8_method_3_code
def yX6_addNote : MethodName := ⟨RX6, "addNote", "(II)I"⟩
abbrev cX6_addWay : ByteArray := prog_8_method_4_code
def yX6_addWay : MethodName := ⟨RX6, "addWay", "(II)I"⟩
abbrev cX6_isNote : ByteArray := prog_8_method_5_code
def yX6_isNote : MethodName := ⟨RX6, "isNote", "(I)Z"⟩
abbrev cX6_hasWay : ByteArray := prog_8_method_6_code
def yX6_hasWay : MethodName := ⟨RX6, "hasWay", "(II)Z"⟩
abbrev cX6_hasLoop : ByteArray := prog_8_method_7_code
def yX6_hasLoop : MethodName := ⟨RX6, "hasLoop", "()Z"⟩
abbrev cX6_lastStart : ByteArray := prog_8_method_8_code
def yX6_lastStart : MethodName := ⟨RX6, "lastStart", "()I"⟩
abbrev cX6_firstThere : ByteArray := prog_8_method_9_code
def yX6_firstThere : MethodName := ⟨RX6, "firstThere", "()I"⟩
abbrev cX6_lastThere : ByteArray := prog_8_method_10_code
def yX6_lastThere : MethodName := ⟨RX6, "lastThere", "()I"⟩
abbrev cX6_isThere : ByteArray := prog_8_method_11_code
def yX6_isThere : MethodName := ⟨RX6, "isThere", "(I)Z"⟩
abbrev cX6_mistake : ByteArray := prog_8_method_12_code
def yX6_mistake : MethodName := ⟨RX6, "mistake", "(II)I"⟩
def RX7 : String := "FollowScore"
def TX7 : u_T := fun k => match k with
  | 0 => ("FollowScore", "score", "LFollowScore$Score;", true)
  | 1 => ("FollowScore", "heard", "LFollowScore$Heard;", true)
  | 2 => ("FollowScore", "nexts", "LFollowScore$Nexts;", true)
  | 3 => ("FollowScore", "following", "LFollowScore$Following;", true)
  | 4 => ("FollowScore", "anchors", "LFollowScore$Anchors;", true)
  | 5 => ("FollowScore", "best", "LFollowScore$Best;", true)
  | _ => ("FollowScore", "boxes", "LFollowScore$Boxes;", true)
def tyX7 : Nat → FieldType := fun k => match k with
  | 0 => .object "FollowScore$Score"
  | 1 => .object "FollowScore$Heard"
  | 2 => .object "FollowScore$Nexts"
  | 3 => .object "FollowScore$Following"
  | 4 => .object "FollowScore$Anchors"
  | 5 => .object "FollowScore$Best"
  | _ => .object "FollowScore$Boxes"
abbrev wsX70 : List Cond := u_ws RX7 TX7 7
theorem nmX7 : ∀ a, a < 7 → ∀ b, b < 7 → a ≠ b → (TX7 a).2.1 ≠ (TX7 b).2.1 := by decide +kernel
theorem tyX7_ok : ∀ k, k < 7 → parseFieldDescriptor (TX7 k).2.2.1 = some (tyX7 k) := by decide +kernel
abbrev cX7_init : ByteArray := prog_1_method_1_code
def yX7_init : MethodName := ⟨RX7, "<init>", "()V"⟩
abbrev cX7_clear : ByteArray := prog_1_method_2_code
def yX7_clear : MethodName := ⟨RX7, "clear", "()V"⟩
abbrev cX7_note : ByteArray := prog_1_method_3_code
def yX7_note : MethodName := ⟨RX7, "note", "(II)I"⟩
abbrev cX7_way : ByteArray := prog_1_method_4_code
def yX7_way : MethodName := ⟨RX7, "way", "(II)I"⟩
abbrev cX7_loop : ByteArray := prog_1_method_5_code
def yX7_loop : MethodName := ⟨RX7, "loop", "(II)I"⟩
abbrev cX7_cost : ByteArray := prog_1_method_6_code
def yX7_cost : MethodName := ⟨RX7, "cost", "(II)I"⟩
abbrev cX7_span : ByteArray := prog_1_method_7_code
def yX7_span : MethodName := ⟨RX7, "span", "(I)I"⟩
abbrev cX7_hear : ByteArray := prog_1_method_8_code
def yX7_hear : MethodName := ⟨RX7, "hear", "(II)I"⟩
abbrev cX7_cut : ByteArray := prog_1_method_9_code
def yX7_cut : MethodName := ⟨RX7, "cut", "(I)I"⟩
abbrev cX7_valueOf : ByteArray := prog_1_method_10_code
def yX7_valueOf : MethodName := ⟨RX7, "valueOf", "(I)I"⟩
abbrev cX7_tempo : ByteArray := prog_1_method_11_code
def yX7_tempo : MethodName := ⟨RX7, "tempo", "(I)I"⟩
abbrev cX7_ahead : ByteArray := prog_1_method_12_code
def yX7_ahead : MethodName := ⟨RX7, "ahead", "(I)J"⟩
abbrev cX7_align : ByteArray := prog_1_method_13_code
def yX7_align : MethodName := ⟨RX7, "align", "()I"⟩
abbrev cX7_step : ByteArray := prog_1_method_14_code
def yX7_step : MethodName := ⟨RX7, "step", "(II)I"⟩
abbrev cX7_steps : ByteArray := prog_1_method_15_code
def yX7_steps : MethodName := ⟨RX7, "steps", "()I"⟩
abbrev cX7_matched : ByteArray := prog_1_method_16_code
def yX7_matched : MethodName := ⟨RX7, "matched", "(I)I"⟩
abbrev cX7_grade : ByteArray := prog_1_method_17_code
def yX7_grade : MethodName := ⟨RX7, "grade", "(II)I"⟩
abbrev cX7_mean : ByteArray := prog_1_method_18_code
def yX7_mean : MethodName := ⟨RX7, "mean", "(I)I"⟩
abbrev cX7_end : ByteArray := prog_1_method_19_code
def yX7_end : MethodName := ⟨RX7, "end", "()I"⟩
abbrev cX7_due : ByteArray := prog_1_method_20_code
def yX7_due : MethodName := ⟨RX7, "due", "(I)I"⟩
abbrev cX7_of : ByteArray := prog_1_method_21_code
def yX7_of : MethodName := ⟨RX7, "of", "(II)I"⟩
abbrev cX7_told : ByteArray := prog_1_method_22_code
def yX7_told : MethodName := ⟨RX7, "told", "(I)I"⟩
abbrev cX7_hearNothing : ByteArray := prog_1_method_23_code
def yX7_hearNothing : MethodName := ⟨RX7, "hearNothing", "()V"⟩
abbrev cX7_isWithin : ByteArray := prog_1_method_24_code
def yX7_isWithin : MethodName := ⟨RX7, "isWithin", "(III)Z"⟩
abbrev cX7_sumOf : ByteArray := prog_1_method_25_code
def yX7_sumOf : MethodName := ⟨RX7, "sumOf", "([II)I"⟩
abbrev cX7_lowestTerms : ByteArray := prog_1_method_26_code
def yX7_lowestTerms : MethodName := ⟨RX7, "lowestTerms", "(III)I"⟩
abbrev cX7_commonDivisor : ByteArray := prog_1_method_27_code
def yX7_commonDivisor : MethodName := ⟨RX7, "commonDivisor", "(II)I"⟩
def RX8 : String := "FollowScoreModel"
def TX8 : u_T := fun k => match k with
  | 0 => ("FollowScoreModel", "pitch", "[I", true)
  | 1 => ("FollowScoreModel", "start", "[I", true)
  | 2 => ("FollowScoreModel", "box", "[I", true)
  | 3 => ("FollowScoreModel", "dueFrom", "[I", true)
  | 4 => ("FollowScoreModel", "notes", "I", false)
  | 5 => ("FollowScoreModel", "wayFrom", "[I", true)
  | 6 => ("FollowScoreModel", "wayTo", "[I", true)
  | 7 => ("FollowScoreModel", "ways", "I", false)
  | 8 => ("FollowScoreModel", "loopFrom", "I", false)
  | 9 => ("FollowScoreModel", "loopTo", "I", false)
  | 10 => ("FollowScoreModel", "costs", "[I", true)
  | 11 => ("FollowScoreModel", "span", "I", false)
  | 12 => ("FollowScoreModel", "heardPitch", "[I", true)
  | 13 => ("FollowScoreModel", "heardTime", "[I", true)
  | 14 => ("FollowScoreModel", "events", "I", false)
  | 15 => ("FollowScoreModel", "session", "I", false)
  | 16 => ("FollowScoreModel", "value", "[I", true)
  | 17 => ("FollowScoreModel", "come", "[I", true)
  | 18 => ("FollowScoreModel", "next", "[I", true)
  | 19 => ("FollowScoreModel", "place", "I", false)
  | 20 => ("FollowScoreModel", "anchorNote", "[I", true)
  | 21 => ("FollowScoreModel", "anchorTime", "[I", true)
  | 22 => ("FollowScoreModel", "anchors", "I", false)
  | 23 => ("FollowScoreModel", "to", "[I", true)
  | 24 => ("FollowScoreModel", "price", "[I", true)
  | 25 => ("FollowScoreModel", "nexts", "I", false)
  | 26 => ("FollowScoreModel", "rest", "[I", true)
  | 27 => ("FollowScoreModel", "aligned", "Z", false)
  | 28 => ("FollowScoreModel", "sum", "I", false)
  | 29 => ("FollowScoreModel", "stepKind", "[I", true)
  | 30 => ("FollowScoreModel", "stepPlace", "[I", true)
  | 31 => ("FollowScoreModel", "stepEvent", "[I", true)
  | 32 => ("FollowScoreModel", "stepCost", "[I", true)
  | 33 => ("FollowScoreModel", "steps", "I", false)
  | _ => ("FollowScoreModel", "thrown", "I", false)
def tyX8 : Nat → FieldType := fun k => match k with
  | 0 => .array .int
  | 1 => .array .int
  | 2 => .array .int
  | 3 => .array .int
  | 4 => .int
  | 5 => .array .int
  | 6 => .array .int
  | 7 => .int
  | 8 => .int
  | 9 => .int
  | 10 => .array .int
  | 11 => .int
  | 12 => .array .int
  | 13 => .array .int
  | 14 => .int
  | 15 => .int
  | 16 => .array .int
  | 17 => .array .int
  | 18 => .array .int
  | 19 => .int
  | 20 => .array .int
  | 21 => .array .int
  | 22 => .int
  | 23 => .array .int
  | 24 => .array .int
  | 25 => .int
  | 26 => .array .int
  | 27 => .boolean
  | 28 => .int
  | 29 => .array .int
  | 30 => .array .int
  | 31 => .array .int
  | 32 => .array .int
  | 33 => .int
  | _ => .int
abbrev wsX80 : List Cond := u_ws RX8 TX8 35
theorem nmX8 : ∀ a, a < 35 → ∀ b, b < 35 → a ≠ b → (TX8 a).2.1 ≠ (TX8 b).2.1 := by decide +kernel
theorem tyX8_ok : ∀ k, k < 35 → parseFieldDescriptor (TX8 k).2.2.1 = some (tyX8 k) := by decide +kernel
abbrev cX8_init : ByteArray := prog_10_method_1_code
def yX8_init : MethodName := ⟨RX8, "<init>", "()V"⟩
abbrev cX8_thrown : ByteArray := prog_10_method_2_code
def yX8_thrown : MethodName := ⟨RX8, "thrown", "()I"⟩
abbrev cX8_begin : ByteArray := prog_10_method_3_code
def yX8_begin : MethodName := ⟨RX8, "begin", "()V"⟩
abbrev cX8_fresh : ByteArray := prog_10_method_4_code
def yX8_fresh : MethodName := ⟨RX8, "fresh", "()V"⟩
abbrev cX8_clear : ByteArray := prog_10_method_5_code
def yX8_clear : MethodName := ⟨RX8, "clear", "()V"⟩
abbrev cX8_isThere : ByteArray := prog_10_method_6_code
def yX8_isThere : MethodName := ⟨RX8, "isThere", "(I)Z"⟩
abbrev cX8_note : ByteArray := prog_10_method_7_code
def yX8_note : MethodName := ⟨RX8, "note", "(II)I"⟩
abbrev cX8_way : ByteArray := prog_10_method_8_code
def yX8_way : MethodName := ⟨RX8, "way", "(II)I"⟩
abbrev cX8_loop : ByteArray := prog_10_method_9_code
def yX8_loop : MethodName := ⟨RX8, "loop", "(II)I"⟩
abbrev cX8_cost : ByteArray := prog_10_method_10_code
def yX8_cost : MethodName := ⟨RX8, "cost", "(II)I"⟩
abbrev cX8_span : ByteArray := prog_10_method_11_code
def yX8_span : MethodName := ⟨RX8, "span", "(I)I"⟩
abbrev cX8_nextsOf : ByteArray := prog_10_method_12_code
def yX8_nextsOf : MethodName := ⟨RX8, "nextsOf", "(I)V"⟩
abbrev cX8_lay : ByteArray := prog_10_method_13_code
def yX8_lay : MethodName := ⟨RX8, "lay", "(II)V"⟩
abbrev cX8_wrong : ByteArray := prog_10_method_14_code
def yX8_wrong : MethodName := ⟨RX8, "wrong", "(II)I"⟩
abbrev cX8_follow : ByteArray := prog_10_method_15_code
def yX8_follow : MethodName := ⟨RX8, "follow", "()V"⟩
abbrev cX8_further : ByteArray := prog_10_method_16_code
def yX8_further : MethodName := ⟨RX8, "further", "(I)V"⟩
abbrev cX8_pass : ByteArray := prog_10_method_17_code
def yX8_pass : MethodName := ⟨RX8, "pass", "()V"⟩
abbrev cX8_take : ByteArray := prog_10_method_18_code
def yX8_take : MethodName := ⟨RX8, "take", "(I)V"⟩
abbrev cX8_choose : ByteArray := prog_10_method_19_code
def yX8_choose : MethodName := ⟨RX8, "choose", "()V"⟩
abbrev cX8_anchor : ByteArray := prog_10_method_20_code
def yX8_anchor : MethodName := ⟨RX8, "anchor", "(I)V"⟩
abbrev cX8_hear : ByteArray := prog_10_method_21_code
def yX8_hear : MethodName := ⟨RX8, "hear", "(II)I"⟩
abbrev cX8_cut : ByteArray := prog_10_method_22_code
def yX8_cut : MethodName := ⟨RX8, "cut", "(I)I"⟩
abbrev cX8_valueOf : ByteArray := prog_10_method_23_code
def yX8_valueOf : MethodName := ⟨RX8, "valueOf", "(I)I"⟩
abbrev cX8_common : ByteArray := prog_10_method_24_code
def yX8_common : MethodName := ⟨RX8, "common", "(II)I"⟩
abbrev cX8_tempoOf : ByteArray := prog_10_method_25_code
def yX8_tempoOf : MethodName := ⟨RX8, "tempoOf", "(I)I"⟩
abbrev cX8_tempo : ByteArray := prog_10_method_26_code
def yX8_tempo : MethodName := ⟨RX8, "tempo", "(I)I"⟩
abbrev cX8_ahead : ByteArray := prog_10_method_27_code
def yX8_ahead : MethodName := ⟨RX8, "ahead", "(I)J"⟩
abbrev cX8_at : ByteArray := prog_10_method_28_code
def yX8_at : MethodName := ⟨RX8, "at", "(II)I"⟩
abbrev cX8_left : ByteArray := prog_10_method_29_code
def yX8_left : MethodName := ⟨RX8, "left", "(I)V"⟩
abbrev cX8_put : ByteArray := prog_10_method_30_code
def yX8_put : MethodName := ⟨RX8, "put", "(IIII)V"⟩
abbrev cX8_choose_ : ByteArray := prog_10_method_31_code
def yX8_choose_ : MethodName := ⟨RX8, "choose", "(II)V"⟩
abbrev cX8_align : ByteArray := prog_10_method_32_code
def yX8_align : MethodName := ⟨RX8, "align", "()I"⟩
abbrev cX8_step : ByteArray := prog_10_method_33_code
def yX8_step : MethodName := ⟨RX8, "step", "(II)I"⟩
abbrev cX8_steps : ByteArray := prog_10_method_34_code
def yX8_steps : MethodName := ⟨RX8, "steps", "()I"⟩
abbrev cX8_matched : ByteArray := prog_10_method_35_code
def yX8_matched : MethodName := ⟨RX8, "matched", "(I)I"⟩
abbrev cX8_count : ByteArray := prog_10_method_36_code
def yX8_count : MethodName := ⟨RX8, "count", "(II)I"⟩
abbrev cX8_grade : ByteArray := prog_10_method_37_code
def yX8_grade : MethodName := ⟨RX8, "grade", "(II)I"⟩
abbrev cX8_mean : ByteArray := prog_10_method_38_code
def yX8_mean : MethodName := ⟨RX8, "mean", "(I)I"⟩
abbrev cX8_end : ByteArray := prog_10_method_39_code
def yX8_end : MethodName := ⟨RX8, "end", "()I"⟩
abbrev cX8_due : ByteArray := prog_10_method_40_code
def yX8_due : MethodName := ⟨RX8, "due", "(I)I"⟩
abbrev cX8_of : ByteArray := prog_10_method_41_code
def yX8_of : MethodName := ⟨RX8, "of", "(II)I"⟩
abbrev cX8_told : ByteArray := prog_10_method_42_code
def yX8_told : MethodName := ⟨RX8, "told", "(I)I"⟩
def RJ9 : String := "java/lang/Math"
def TJ9 : u_T := fun k => match k with
  | _ => ("", "", "", false)
def tyJ9 : Nat → FieldType := fun k => match k with
  | _ => .int
abbrev wsJ90 : List Cond := u_ws RJ9 TJ9 0
theorem nmJ9 : ∀ a, a < 0 → ∀ b, b < 0 → a ≠ b → (TJ9 a).2.1 ≠ (TJ9 b).2.1 := by decide +kernel
theorem tyJ9_ok : ∀ k, k < 0 → parseFieldDescriptor (TJ9 k).2.2.1 = some (tyJ9 k) := by decide +kernel
abbrev cJ9_floorDiv_f86c9 : ByteArray := prog_13_method_49_code
def yJ9_floorDiv_f86c9 : MethodName := ⟨RJ9, "floorDiv", "(JJ)J"⟩
abbrev cJ9_abs_0f7a4 : ByteArray := prog_13_method_59_code
def yJ9_abs_0f7a4 : MethodName := ⟨RJ9, "abs", "(I)I"⟩
abbrev cJ9_max_7cf53 : ByteArray := prog_13_method_65_code
def yJ9_max_7cf53 : MethodName := ⟨RJ9, "max", "(II)I"⟩
abbrev cJ9_min_7cf53 : ByteArray := prog_13_method_69_code
def yJ9_min_7cf53 : MethodName := ⟨RJ9, "min", "(II)I"⟩
def RJ0 : String := "java/lang/String"
def TJ0 : u_T := fun k => match k with
  | _ => ("", "", "", false)
def tyJ0 : Nat → FieldType := fun k => match k with
  | _ => .int
abbrev wsJ00 : List Cond := u_ws RJ0 TJ0 0
theorem nmJ0 : ∀ a, a < 0 → ∀ b, b < 0 → a ≠ b → (TJ0 a).2.1 ≠ (TJ0 b).2.1 := by decide +kernel
theorem tyJ0_ok : ∀ k, k < 0 → parseFieldDescriptor (TJ0 k).2.2.1 = some (tyJ0 k) := by decide +kernel
def RL : String := "FollowScoreLaw"
abbrev cL_mean : ByteArray := method_3_code
def yL_mean : MethodName := ⟨RL, "mean", "(LFollowScore;I[J)I"⟩
abbrev cL_law : ByteArray := code
def yL_law : MethodName := ⟨RL, "law", "([I)Z"⟩
abbrev vwCl : List vw_C := [(RX0, TX0, 5), (RX1, TX1, 12), (RX2, TX2, 3), (RX3, TX3, 6), (RX4, TX4, 3), (RX5, TX5, 6), (RX6, TX6, 10), (RX7, TX7, 7), (RX8, TX8, 35)]
end
section
theorem dX0_init_0 : decode cX0_init 0 = .ok (.aload_n 0, 1) := by decide +kernel
theorem dX0_init_1 : decode cX0_init 1 = .ok (.invokespecial 3, 3) := by decide +kernel
theorem dX0_init_4 : decode cX0_init 4 = .ok (.aload_n 0, 1) := by decide +kernel
theorem dX0_init_5 : decode cX0_init 5 = .ok (.bipush 60, 2) := by decide +kernel
theorem dX0_init_7 : decode cX0_init 7 = .ok (.newarray .int, 2) := by decide +kernel
theorem dX0_init_9 : decode cX0_init 9 = .ok (.putfield 9, 3) := by decide +kernel
theorem dX0_init_12 : decode cX0_init 12 = .ok (.aload_n 0, 1) := by decide +kernel
theorem dX0_init_13 : decode cX0_init 13 = .ok (.bipush 60, 2) := by decide +kernel
theorem dX0_init_15 : decode cX0_init 15 = .ok (.newarray .int, 2) := by decide +kernel
theorem dX0_init_17 : decode cX0_init 17 = .ok (.putfield 15, 3) := by decide +kernel
theorem dX0_init_20 : decode cX0_init 20 = .ok (.aload_n 0, 1) := by decide +kernel
theorem dX0_init_21 : decode cX0_init 21 = .ok (.aload_n 1, 1) := by decide +kernel
theorem dX0_init_22 : decode cX0_init 22 = .ok (.putfield 18, 3) := by decide +kernel
theorem dX0_init_25 : decode cX0_init 25 = .ok (.aload_n 0, 1) := by decide +kernel
theorem dX0_init_26 : decode cX0_init 26 = .ok (.aload_n 2, 1) := by decide +kernel
theorem dX0_init_27 : decode cX0_init 27 = .ok (.putfield 22, 3) := by decide +kernel
theorem dX0_init_30 : decode cX0_init 30 = .ok (.return_, 1) := by decide +kernel
theorem dX0_look_0 : decode cX0_look 0 = .ok (.aload_n 0, 1) := by decide +kernel
theorem dX0_look_1 : decode cX0_look 1 = .ok (.getfield 18, 3) := by decide +kernel
theorem dX0_look_4 : decode cX0_look 4 = .ok (.iload_n 2, 1) := by decide +kernel
theorem dX0_look_5 : decode cX0_look 5 = .ok (.invokevirtual 26, 3) := by decide +kernel
theorem dX0_look_8 : decode cX0_look 8 = .ok (.ifCond .eq 24, 3) := by decide +kernel
theorem dX0_look_11 : decode cX0_look 11 = .ok (.aload_n 0, 1) := by decide +kernel
theorem dX0_look_12 : decode cX0_look 12 = .ok (.getfield 18, 3) := by decide +kernel
theorem dX0_look_15 : decode cX0_look 15 = .ok (.getfield 32, 3) := by decide +kernel
theorem dX0_look_18 : decode cX0_look 18 = .ok (.iload_n 2, 1) := by decide +kernel
theorem dX0_look_19 : decode cX0_look 19 = .ok (.iaload, 1) := by decide +kernel
theorem dX0_look_20 : decode cX0_look 20 = .ok (.aload_n 0, 1) := by decide +kernel
theorem dX0_look_21 : decode cX0_look 21 = .ok (.getfield 22, 3) := by decide +kernel
theorem dX0_look_24 : decode cX0_look 24 = .ok (.getfield 35, 3) := by decide +kernel
theorem dX0_look_27 : decode cX0_look 27 = .ok (.iload_n 1, 1) := by decide +kernel
theorem dX0_look_28 : decode cX0_look 28 = .ok (.iaload, 1) := by decide +kernel
theorem dX0_look_29 : decode cX0_look 29 = .ok (.if_icmp .eq 4, 3) := by decide +kernel
theorem dX0_look_32 : decode cX0_look 32 = .ok (.return_, 1) := by decide +kernel
theorem dX0_look_33 : decode cX0_look 33 = .ok (.aload_n 0, 1) := by decide +kernel
theorem dX0_look_34 : decode cX0_look 34 = .ok (.getfield 38, 3) := by decide +kernel
theorem dX0_look_37 : decode cX0_look 37 = .ok (.ifCond .le 23, 3) := by decide +kernel
theorem dX0_look_40 : decode cX0_look 40 = .ok (.iload_n 2, 1) := by decide +kernel
theorem dX0_look_41 : decode cX0_look 41 = .ok (.aload_n 0, 1) := by decide +kernel
theorem dX0_look_42 : decode cX0_look 42 = .ok (.getfield 15, 3) := by decide +kernel
theorem dX0_look_45 : decode cX0_look 45 = .ok (.aload_n 0, 1) := by decide +kernel
theorem dX0_look_46 : decode cX0_look 46 = .ok (.getfield 38, 3) := by decide +kernel
theorem dX0_look_49 : decode cX0_look 49 = .ok (.iconst 1, 1) := by decide +kernel
theorem dX0_look_50 : decode cX0_look 50 = .ok (.isub, 1) := by decide +kernel
theorem dX0_look_51 : decode cX0_look 51 = .ok (.iaload, 1) := by decide +kernel
theorem dX0_look_52 : decode cX0_look 52 = .ok (.if_icmp .gt 8, 3) := by decide +kernel
theorem dX0_look_55 : decode cX0_look 55 = .ok (.aload_n 0, 1) := by decide +kernel
theorem dX0_look_56 : decode cX0_look 56 = .ok (.iconst 0, 1) := by decide +kernel
theorem dX0_look_57 : decode cX0_look 57 = .ok (.putfield 38, 3) := by decide +kernel
theorem dX0_look_60 : decode cX0_look 60 = .ok (.aload_n 0, 1) := by decide +kernel
theorem dX0_look_61 : decode cX0_look 61 = .ok (.getfield 38, 3) := by decide +kernel
theorem dX0_look_64 : decode cX0_look 64 = .ok (.bipush 60, 2) := by decide +kernel
theorem dX0_look_66 : decode cX0_look 66 = .ok (.if_icmp .lt 4, 3) := by decide +kernel
theorem dX0_look_69 : decode cX0_look 69 = .ok (.return_, 1) := by decide +kernel
theorem dX0_look_70 : decode cX0_look 70 = .ok (.aload_n 0, 1) := by decide +kernel
theorem dX0_look_71 : decode cX0_look 71 = .ok (.getfield 9, 3) := by decide +kernel
theorem dX0_look_74 : decode cX0_look 74 = .ok (.aload_n 0, 1) := by decide +kernel
theorem dX0_look_75 : decode cX0_look 75 = .ok (.getfield 38, 3) := by decide +kernel
theorem dX0_look_78 : decode cX0_look 78 = .ok (.iload_n 1, 1) := by decide +kernel
theorem dX0_look_79 : decode cX0_look 79 = .ok (.iastore, 1) := by decide +kernel
theorem dX0_look_80 : decode cX0_look 80 = .ok (.aload_n 0, 1) := by decide +kernel
theorem dX0_look_81 : decode cX0_look 81 = .ok (.getfield 15, 3) := by decide +kernel
theorem dX0_look_84 : decode cX0_look 84 = .ok (.aload_n 0, 1) := by decide +kernel
theorem dX0_look_85 : decode cX0_look 85 = .ok (.getfield 38, 3) := by decide +kernel
theorem dX0_look_88 : decode cX0_look 88 = .ok (.iload_n 2, 1) := by decide +kernel
theorem dX0_look_89 : decode cX0_look 89 = .ok (.iastore, 1) := by decide +kernel
theorem dX0_look_90 : decode cX0_look 90 = .ok (.aload_n 0, 1) := by decide +kernel
theorem dX0_look_91 : decode cX0_look 91 = .ok (.dup, 1) := by decide +kernel
theorem dX0_look_92 : decode cX0_look 92 = .ok (.getfield 38, 3) := by decide +kernel
theorem dX0_look_95 : decode cX0_look 95 = .ok (.iconst 1, 1) := by decide +kernel
theorem dX0_look_96 : decode cX0_look 96 = .ok (.iadd, 1) := by decide +kernel
theorem dX0_look_97 : decode cX0_look 97 = .ok (.putfield 38, 3) := by decide +kernel
theorem dX0_look_100 : decode cX0_look 100 = .ok (.return_, 1) := by decide +kernel
theorem dX0_timeGone_0 : decode cX0_timeGone 0 = .ok (.aload_n 0, 1) := by decide +kernel
theorem dX0_timeGone_1 : decode cX0_timeGone 1 = .ok (.getfield 38, 3) := by decide +kernel
theorem dX0_timeGone_4 : decode cX0_timeGone 4 = .ok (.iconst 2, 1) := by decide +kernel
theorem dX0_timeGone_5 : decode cX0_timeGone 5 = .ok (.if_icmp .ge 5, 3) := by decide +kernel
theorem dX0_timeGone_8 : decode cX0_timeGone 8 = .ok (.iconst 1, 1) := by decide +kernel
theorem dX0_timeGone_9 : decode cX0_timeGone 9 = .ok (.ireturn, 1) := by decide +kernel
theorem dX0_timeGone_10 : decode cX0_timeGone 10 = .ok (.aload_n 0, 1) := by decide +kernel
theorem dX0_timeGone_11 : decode cX0_timeGone 11 = .ok (.getfield 22, 3) := by decide +kernel
theorem dX0_timeGone_14 : decode cX0_timeGone 14 = .ok (.getfield 42, 3) := by decide +kernel
theorem dX0_timeGone_17 : decode cX0_timeGone 17 = .ok (.aload_n 0, 1) := by decide +kernel
theorem dX0_timeGone_18 : decode cX0_timeGone 18 = .ok (.getfield 9, 3) := by decide +kernel
theorem dX0_timeGone_21 : decode cX0_timeGone 21 = .ok (.aload_n 0, 1) := by decide +kernel
theorem dX0_timeGone_22 : decode cX0_timeGone 22 = .ok (.getfield 38, 3) := by decide +kernel
theorem dX0_timeGone_25 : decode cX0_timeGone 25 = .ok (.iconst 1, 1) := by decide +kernel
theorem dX0_timeGone_26 : decode cX0_timeGone 26 = .ok (.isub, 1) := by decide +kernel
theorem dX0_timeGone_27 : decode cX0_timeGone 27 = .ok (.iaload, 1) := by decide +kernel
theorem dX0_timeGone_28 : decode cX0_timeGone 28 = .ok (.iaload, 1) := by decide +kernel
theorem dX0_timeGone_29 : decode cX0_timeGone 29 = .ok (.aload_n 0, 1) := by decide +kernel
theorem dX0_timeGone_30 : decode cX0_timeGone 30 = .ok (.getfield 22, 3) := by decide +kernel
theorem dX0_timeGone_33 : decode cX0_timeGone 33 = .ok (.getfield 42, 3) := by decide +kernel
theorem dX0_timeGone_36 : decode cX0_timeGone 36 = .ok (.aload_n 0, 1) := by decide +kernel
theorem dX0_timeGone_37 : decode cX0_timeGone 37 = .ok (.getfield 9, 3) := by decide +kernel
theorem dX0_timeGone_40 : decode cX0_timeGone 40 = .ok (.aload_n 0, 1) := by decide +kernel
theorem dX0_timeGone_41 : decode cX0_timeGone 41 = .ok (.invokevirtual 45, 3) := by decide +kernel
theorem dX0_timeGone_44 : decode cX0_timeGone 44 = .ok (.iaload, 1) := by decide +kernel
theorem dX0_timeGone_45 : decode cX0_timeGone 45 = .ok (.iaload, 1) := by decide +kernel
theorem dX0_timeGone_46 : decode cX0_timeGone 46 = .ok (.isub, 1) := by decide +kernel
theorem dX0_timeGone_47 : decode cX0_timeGone 47 = .ok (.ireturn, 1) := by decide +kernel
theorem dX0_startGrown_0 : decode cX0_startGrown 0 = .ok (.aload_n 0, 1) := by decide +kernel
theorem dX0_startGrown_1 : decode cX0_startGrown 1 = .ok (.getfield 38, 3) := by decide +kernel
theorem dX0_startGrown_4 : decode cX0_startGrown 4 = .ok (.iconst 2, 1) := by decide +kernel
theorem dX0_startGrown_5 : decode cX0_startGrown 5 = .ok (.if_icmp .ge 5, 3) := by decide +kernel
theorem dX0_startGrown_8 : decode cX0_startGrown 8 = .ok (.iconst 1, 1) := by decide +kernel
theorem dX0_startGrown_9 : decode cX0_startGrown 9 = .ok (.ireturn, 1) := by decide +kernel
theorem dX0_startGrown_10 : decode cX0_startGrown 10 = .ok (.iconst 1, 1) := by decide +kernel
theorem dX0_startGrown_11 : decode cX0_startGrown 11 = .ok (.aload_n 0, 1) := by decide +kernel
theorem dX0_startGrown_12 : decode cX0_startGrown 12 = .ok (.getfield 18, 3) := by decide +kernel
theorem dX0_startGrown_15 : decode cX0_startGrown 15 = .ok (.getfield 49, 3) := by decide +kernel
theorem dX0_startGrown_18 : decode cX0_startGrown 18 = .ok (.aload_n 0, 1) := by decide +kernel
theorem dX0_startGrown_19 : decode cX0_startGrown 19 = .ok (.getfield 15, 3) := by decide +kernel
theorem dX0_startGrown_22 : decode cX0_startGrown 22 = .ok (.aload_n 0, 1) := by decide +kernel
theorem dX0_startGrown_23 : decode cX0_startGrown 23 = .ok (.getfield 38, 3) := by decide +kernel
theorem dX0_startGrown_26 : decode cX0_startGrown 26 = .ok (.iconst 1, 1) := by decide +kernel
theorem dX0_startGrown_27 : decode cX0_startGrown 27 = .ok (.isub, 1) := by decide +kernel
theorem dX0_startGrown_28 : decode cX0_startGrown 28 = .ok (.iaload, 1) := by decide +kernel
theorem dX0_startGrown_29 : decode cX0_startGrown 29 = .ok (.iaload, 1) := by decide +kernel
theorem dX0_startGrown_30 : decode cX0_startGrown 30 = .ok (.aload_n 0, 1) := by decide +kernel
theorem dX0_startGrown_31 : decode cX0_startGrown 31 = .ok (.getfield 18, 3) := by decide +kernel
theorem dX0_startGrown_34 : decode cX0_startGrown 34 = .ok (.getfield 49, 3) := by decide +kernel
theorem dX0_startGrown_37 : decode cX0_startGrown 37 = .ok (.aload_n 0, 1) := by decide +kernel
theorem dX0_startGrown_38 : decode cX0_startGrown 38 = .ok (.getfield 15, 3) := by decide +kernel
theorem dX0_startGrown_41 : decode cX0_startGrown 41 = .ok (.aload_n 0, 1) := by decide +kernel
theorem dX0_startGrown_42 : decode cX0_startGrown 42 = .ok (.invokevirtual 45, 3) := by decide +kernel
theorem dX0_startGrown_45 : decode cX0_startGrown 45 = .ok (.iaload, 1) := by decide +kernel
theorem dX0_startGrown_46 : decode cX0_startGrown 46 = .ok (.iaload, 1) := by decide +kernel
theorem dX0_startGrown_47 : decode cX0_startGrown 47 = .ok (.isub, 1) := by decide +kernel
theorem dX0_startGrown_48 : decode cX0_startGrown 48 = .ok (.invokestatic 52, 3) := by decide +kernel
theorem dX0_startGrown_51 : decode cX0_startGrown 51 = .ok (.ireturn, 1) := by decide +kernel
theorem dX0_expected_0 : decode cX0_expected 0 = .ok (.aload_n 0, 1) := by decide +kernel
theorem dX0_expected_1 : decode cX0_expected 1 = .ok (.getfield 38, 3) := by decide +kernel
theorem dX0_expected_4 : decode cX0_expected 4 = .ok (.ifCond .ne 7, 3) := by decide +kernel
theorem dX0_expected_7 : decode cX0_expected 7 = .ok (.ldc2_w 58, 3) := by decide +kernel
theorem dX0_expected_10 : decode cX0_expected 10 = .ok (.lreturn, 1) := by decide +kernel
theorem dX0_expected_11 : decode cX0_expected 11 = .ok (.aload_n 0, 1) := by decide +kernel
theorem dX0_expected_12 : decode cX0_expected 12 = .ok (.getfield 18, 3) := by decide +kernel
theorem dX0_expected_15 : decode cX0_expected 15 = .ok (.getfield 49, 3) := by decide +kernel
theorem dX0_expected_18 : decode cX0_expected 18 = .ok (.iload_n 1, 1) := by decide +kernel
theorem dX0_expected_19 : decode cX0_expected 19 = .ok (.iaload, 1) := by decide +kernel
theorem dX0_expected_20 : decode cX0_expected 20 = .ok (.aload_n 0, 1) := by decide +kernel
theorem dX0_expected_21 : decode cX0_expected 21 = .ok (.getfield 18, 3) := by decide +kernel
theorem dX0_expected_24 : decode cX0_expected 24 = .ok (.getfield 49, 3) := by decide +kernel
theorem dX0_expected_27 : decode cX0_expected 27 = .ok (.aload_n 0, 1) := by decide +kernel
theorem dX0_expected_28 : decode cX0_expected 28 = .ok (.getfield 15, 3) := by decide +kernel
theorem dX0_expected_31 : decode cX0_expected 31 = .ok (.aload_n 0, 1) := by decide +kernel
theorem dX0_expected_32 : decode cX0_expected 32 = .ok (.getfield 38, 3) := by decide +kernel
theorem dX0_expected_35 : decode cX0_expected 35 = .ok (.iconst 1, 1) := by decide +kernel
theorem dX0_expected_36 : decode cX0_expected 36 = .ok (.isub, 1) := by decide +kernel
theorem dX0_expected_37 : decode cX0_expected 37 = .ok (.iaload, 1) := by decide +kernel
theorem dX0_expected_38 : decode cX0_expected 38 = .ok (.iaload, 1) := by decide +kernel
theorem dX0_expected_39 : decode cX0_expected 39 = .ok (.isub, 1) := by decide +kernel
theorem dX0_expected_40 : decode cX0_expected 40 = .ok (.i2l, 1) := by decide +kernel
theorem dX0_expected_41 : decode cX0_expected 41 = .ok (.lstore_n 2, 1) := by decide +kernel
theorem dX0_expected_42 : decode cX0_expected 42 = .ok (.aload_n 0, 1) := by decide +kernel
theorem dX0_expected_43 : decode cX0_expected 43 = .ok (.getfield 22, 3) := by decide +kernel
theorem dX0_expected_46 : decode cX0_expected 46 = .ok (.getfield 42, 3) := by decide +kernel
theorem dX0_expected_49 : decode cX0_expected 49 = .ok (.aload_n 0, 1) := by decide +kernel
theorem dX0_expected_50 : decode cX0_expected 50 = .ok (.getfield 9, 3) := by decide +kernel
theorem dX0_expected_53 : decode cX0_expected 53 = .ok (.aload_n 0, 1) := by decide +kernel
theorem dX0_expected_54 : decode cX0_expected 54 = .ok (.getfield 38, 3) := by decide +kernel
theorem dX0_expected_57 : decode cX0_expected 57 = .ok (.iconst 1, 1) := by decide +kernel
theorem dX0_expected_58 : decode cX0_expected 58 = .ok (.isub, 1) := by decide +kernel
theorem dX0_expected_59 : decode cX0_expected 59 = .ok (.iaload, 1) := by decide +kernel
theorem dX0_expected_60 : decode cX0_expected 60 = .ok (.iaload, 1) := by decide +kernel
theorem dX0_expected_61 : decode cX0_expected 61 = .ok (.i2l, 1) := by decide +kernel
theorem dX0_expected_62 : decode cX0_expected 62 = .ok (.lload_n 2, 1) := by decide +kernel
theorem dX0_expected_63 : decode cX0_expected 63 = .ok (.aload_n 0, 1) := by decide +kernel
theorem dX0_expected_64 : decode cX0_expected 64 = .ok (.invokevirtual 60, 3) := by decide +kernel
theorem dX0_expected_67 : decode cX0_expected 67 = .ok (.i2l, 1) := by decide +kernel
theorem dX0_expected_68 : decode cX0_expected 68 = .ok (.lmul, 1) := by decide +kernel
theorem dX0_expected_69 : decode cX0_expected 69 = .ok (.aload_n 0, 1) := by decide +kernel
theorem dX0_expected_70 : decode cX0_expected 70 = .ok (.invokevirtual 63, 3) := by decide +kernel
theorem dX0_expected_73 : decode cX0_expected 73 = .ok (.i2l, 1) := by decide +kernel
theorem dX0_expected_74 : decode cX0_expected 74 = .ok (.invokestatic 66, 3) := by decide +kernel
theorem dX0_expected_77 : decode cX0_expected 77 = .ok (.ladd, 1) := by decide +kernel
theorem dX0_expected_78 : decode cX0_expected 78 = .ok (.lreturn, 1) := by decide +kernel
theorem dX0_firstOfLatest_0 : decode cX0_firstOfLatest 0 = .ok (.iconst 0, 1) := by decide +kernel
theorem dX0_firstOfLatest_1 : decode cX0_firstOfLatest 1 = .ok (.aload_n 0, 1) := by decide +kernel
theorem dX0_firstOfLatest_2 : decode cX0_firstOfLatest 2 = .ok (.getfield 38, 3) := by decide +kernel
theorem dX0_firstOfLatest_5 : decode cX0_firstOfLatest 5 = .ok (.iconst 4, 1) := by decide +kernel
theorem dX0_firstOfLatest_6 : decode cX0_firstOfLatest 6 = .ok (.isub, 1) := by decide +kernel
theorem dX0_firstOfLatest_7 : decode cX0_firstOfLatest 7 = .ok (.invokestatic 52, 3) := by decide +kernel
theorem dX0_firstOfLatest_10 : decode cX0_firstOfLatest 10 = .ok (.ireturn, 1) := by decide +kernel
theorem dX1_init_0 : decode cX1_init 0 = .ok (.aload_n 0, 1) := by decide +kernel
theorem dX1_init_1 : decode cX1_init 1 = .ok (.invokespecial 3, 3) := by decide +kernel
theorem dX1_init_4 : decode cX1_init 4 = .ok (.aload_n 0, 1) := by decide +kernel
theorem dX1_init_5 : decode cX1_init 5 = .ok (.sipush 7381, 3) := by decide +kernel
theorem dX1_init_8 : decode cX1_init 8 = .ok (.newarray .int, 2) := by decide +kernel
theorem dX1_init_10 : decode cX1_init 10 = .ok (.putfield 9, 3) := by decide +kernel
theorem dX1_init_13 : decode cX1_init 13 = .ok (.aload_n 0, 1) := by decide +kernel
theorem dX1_init_14 : decode cX1_init 14 = .ok (.sipush 7320, 3) := by decide +kernel
theorem dX1_init_17 : decode cX1_init 17 = .ok (.newarray .int, 2) := by decide +kernel
theorem dX1_init_19 : decode cX1_init 19 = .ok (.putfield 15, 3) := by decide +kernel
theorem dX1_init_22 : decode cX1_init 22 = .ok (.aload_n 0, 1) := by decide +kernel
theorem dX1_init_23 : decode cX1_init 23 = .ok (.bipush 120, 2) := by decide +kernel
theorem dX1_init_25 : decode cX1_init 25 = .ok (.newarray .int, 2) := by decide +kernel
theorem dX1_init_27 : decode cX1_init 27 = .ok (.putfield 18, 3) := by decide +kernel
theorem dX1_init_30 : decode cX1_init 30 = .ok (.aload_n 0, 1) := by decide +kernel
theorem dX1_init_31 : decode cX1_init 31 = .ok (.bipush 60, 2) := by decide +kernel
theorem dX1_init_33 : decode cX1_init 33 = .ok (.newarray .int, 2) := by decide +kernel
theorem dX1_init_35 : decode cX1_init 35 = .ok (.putfield 21, 3) := by decide +kernel
theorem dX1_init_38 : decode cX1_init 38 = .ok (.aload_n 0, 1) := by decide +kernel
theorem dX1_init_39 : decode cX1_init 39 = .ok (.bipush 60, 2) := by decide +kernel
theorem dX1_init_41 : decode cX1_init 41 = .ok (.newarray .int, 2) := by decide +kernel
theorem dX1_init_43 : decode cX1_init 43 = .ok (.putfield 24, 3) := by decide +kernel
theorem dX1_init_46 : decode cX1_init 46 = .ok (.aload_n 0, 1) := by decide +kernel
theorem dX1_init_47 : decode cX1_init 47 = .ok (.bipush 60, 2) := by decide +kernel
theorem dX1_init_49 : decode cX1_init 49 = .ok (.newarray .int, 2) := by decide +kernel
theorem dX1_init_51 : decode cX1_init 51 = .ok (.putfield 27, 3) := by decide +kernel
theorem dX1_init_54 : decode cX1_init 54 = .ok (.aload_n 0, 1) := by decide +kernel
theorem dX1_init_55 : decode cX1_init 55 = .ok (.aload_n 1, 1) := by decide +kernel
theorem dX1_init_56 : decode cX1_init 56 = .ok (.putfield 30, 3) := by decide +kernel
theorem dX1_init_59 : decode cX1_init 59 = .ok (.aload_n 0, 1) := by decide +kernel
theorem dX1_init_60 : decode cX1_init 60 = .ok (.aload_n 2, 1) := by decide +kernel
theorem dX1_init_61 : decode cX1_init 61 = .ok (.putfield 34, 3) := by decide +kernel
theorem dX1_init_64 : decode cX1_init 64 = .ok (.aload_n 0, 1) := by decide +kernel
theorem dX1_init_65 : decode cX1_init 65 = .ok (.aload_n 3, 1) := by decide +kernel
theorem dX1_init_66 : decode cX1_init 66 = .ok (.putfield 38, 3) := by decide +kernel
theorem dX1_init_69 : decode cX1_init 69 = .ok (.return_, 1) := by decide +kernel
theorem dX1_find_0 : decode cX1_find 0 = .ok (.iconst 0, 1) := by decide +kernel
theorem dX1_find_1 : decode cX1_find 1 = .ok (.istore_n 1, 1) := by decide +kernel
theorem dX1_find_2 : decode cX1_find 2 = .ok (.iload_n 1, 1) := by decide +kernel
theorem dX1_find_3 : decode cX1_find 3 = .ok (.aload_n 0, 1) := by decide +kernel
theorem dX1_find_4 : decode cX1_find 4 = .ok (.getfield 30, 3) := by decide +kernel
theorem dX1_find_7 : decode cX1_find 7 = .ok (.getfield 42, 3) := by decide +kernel
theorem dX1_find_10 : decode cX1_find 10 = .ok (.if_icmp .gt 27, 3) := by decide +kernel
theorem dX1_find_13 : decode cX1_find 13 = .ok (.aload_n 0, 1) := by decide +kernel
theorem dX1_find_14 : decode cX1_find 14 = .ok (.getfield 9, 3) := by decide +kernel
theorem dX1_find_17 : decode cX1_find 17 = .ok (.aload_n 0, 1) := by decide +kernel
theorem dX1_find_18 : decode cX1_find 18 = .ok (.getfield 38, 3) := by decide +kernel
theorem dX1_find_21 : decode cX1_find 21 = .ok (.getfield 48, 3) := by decide +kernel
theorem dX1_find_24 : decode cX1_find 24 = .ok (.bipush 61, 2) := by decide +kernel
theorem dX1_find_26 : decode cX1_find 26 = .ok (.imul, 1) := by decide +kernel
theorem dX1_find_27 : decode cX1_find 27 = .ok (.iload_n 1, 1) := by decide +kernel
theorem dX1_find_28 : decode cX1_find 28 = .ok (.iadd, 1) := by decide +kernel
theorem dX1_find_29 : decode cX1_find 29 = .ok (.iconst 0, 1) := by decide +kernel
theorem dX1_find_30 : decode cX1_find 30 = .ok (.iastore, 1) := by decide +kernel
theorem dX1_find_31 : decode cX1_find 31 = .ok (.iinc 1 1, 3) := by decide +kernel
theorem dX1_find_34 : decode cX1_find 34 = .ok (.goto (-32), 3) := by decide +kernel
theorem dX1_find_37 : decode cX1_find 37 = .ok (.aload_n 0, 1) := by decide +kernel
theorem dX1_find_38 : decode cX1_find 38 = .ok (.getfield 38, 3) := by decide +kernel
theorem dX1_find_41 : decode cX1_find 41 = .ok (.getfield 48, 3) := by decide +kernel
theorem dX1_find_44 : decode cX1_find 44 = .ok (.iconst 1, 1) := by decide +kernel
theorem dX1_find_45 : decode cX1_find 45 = .ok (.isub, 1) := by decide +kernel
theorem dX1_find_46 : decode cX1_find 46 = .ok (.istore_n 1, 1) := by decide +kernel
theorem dX1_find_47 : decode cX1_find 47 = .ok (.iload_n 1, 1) := by decide +kernel
theorem dX1_find_48 : decode cX1_find 48 = .ok (.ifCond .lt 19, 3) := by decide +kernel
theorem dX1_find_51 : decode cX1_find 51 = .ok (.aload_n 0, 1) := by decide +kernel
theorem dX1_find_52 : decode cX1_find 52 = .ok (.iload_n 1, 1) := by decide +kernel
theorem dX1_find_53 : decode cX1_find 53 = .ok (.invokevirtual 53, 3) := by decide +kernel
theorem dX1_find_56 : decode cX1_find 56 = .ok (.aload_n 0, 1) := by decide +kernel
theorem dX1_find_57 : decode cX1_find 57 = .ok (.iload_n 1, 1) := by decide +kernel
theorem dX1_find_58 : decode cX1_find 58 = .ok (.invokevirtual 57, 3) := by decide +kernel
theorem dX1_find_61 : decode cX1_find 61 = .ok (.iinc 1 (-1), 3) := by decide +kernel
theorem dX1_find_64 : decode cX1_find 64 = .ok (.goto (-17), 3) := by decide +kernel
theorem dX1_find_67 : decode cX1_find 67 = .ok (.aload_n 0, 1) := by decide +kernel
theorem dX1_find_68 : decode cX1_find 68 = .ok (.aload_n 0, 1) := by decide +kernel
theorem dX1_find_69 : decode cX1_find 69 = .ok (.iconst 0, 1) := by decide +kernel
theorem dX1_find_70 : decode cX1_find 70 = .ok (.iconst (-1), 1) := by decide +kernel
theorem dX1_find_71 : decode cX1_find 71 = .ok (.invokevirtual 60, 3) := by decide +kernel
theorem dX1_find_74 : decode cX1_find 74 = .ok (.putfield 64, 3) := by decide +kernel
theorem dX1_find_77 : decode cX1_find 77 = .ok (.aload_n 0, 1) := by decide +kernel
theorem dX1_find_78 : decode cX1_find 78 = .ok (.invokevirtual 67, 3) := by decide +kernel
theorem dX1_find_81 : decode cX1_find 81 = .ok (.aload_n 0, 1) := by decide +kernel
theorem dX1_find_82 : decode cX1_find 82 = .ok (.iconst 1, 1) := by decide +kernel
theorem dX1_find_83 : decode cX1_find 83 = .ok (.putfield 70, 3) := by decide +kernel
theorem dX1_find_86 : decode cX1_find 86 = .ok (.return_, 1) := by decide +kernel
theorem dX1_tell_0 : decode cX1_tell 0 = .ok (.aload_n 0, 1) := by decide +kernel
theorem dX1_tell_1 : decode cX1_tell 1 = .ok (.getfield 15, 3) := by decide +kernel
theorem dX1_tell_4 : decode cX1_tell 4 = .ok (.iload_n 1, 1) := by decide +kernel
theorem dX1_tell_5 : decode cX1_tell 5 = .ok (.iaload, 1) := by decide +kernel
theorem dX1_tell_6 : decode cX1_tell 6 = .ok (.istore_n 3, 1) := by decide +kernel
theorem dX1_tell_7 : decode cX1_tell 7 = .ok (.iload_n 2, 1) := by decide +kernel
theorem dX1_tell_8 : decode cX1_tell 8 = .ok (.tableswitch 52 0 2 #[28, 35, 42], 28) := by decide +kernel
theorem dX1_tell_36 : decode cX1_tell 36 = .ok (.iload_n 3, 1) := by decide +kernel
theorem dX1_tell_37 : decode cX1_tell 37 = .ok (.bipush 13, 2) := by decide +kernel
theorem dX1_tell_39 : decode cX1_tell 39 = .ok (.ishr, 1) := by decide +kernel
theorem dX1_tell_40 : decode cX1_tell 40 = .ok (.iconst 3, 1) := by decide +kernel
theorem dX1_tell_41 : decode cX1_tell 41 = .ok (.iand, 1) := by decide +kernel
theorem dX1_tell_42 : decode cX1_tell 42 = .ok (.ireturn, 1) := by decide +kernel
theorem dX1_tell_43 : decode cX1_tell 43 = .ok (.iload_n 3, 1) := by decide +kernel
theorem dX1_tell_44 : decode cX1_tell 44 = .ok (.bipush 63, 2) := by decide +kernel
theorem dX1_tell_46 : decode cX1_tell 46 = .ok (.iand, 1) := by decide +kernel
theorem dX1_tell_47 : decode cX1_tell 47 = .ok (.iconst 1, 1) := by decide +kernel
theorem dX1_tell_48 : decode cX1_tell 48 = .ok (.isub, 1) := by decide +kernel
theorem dX1_tell_49 : decode cX1_tell 49 = .ok (.ireturn, 1) := by decide +kernel
theorem dX1_tell_50 : decode cX1_tell 50 = .ok (.iload_n 3, 1) := by decide +kernel
theorem dX1_tell_51 : decode cX1_tell 51 = .ok (.bipush 6, 2) := by decide +kernel
theorem dX1_tell_53 : decode cX1_tell 53 = .ok (.ishr, 1) := by decide +kernel
theorem dX1_tell_54 : decode cX1_tell 54 = .ok (.bipush 127, 2) := by decide +kernel
theorem dX1_tell_56 : decode cX1_tell 56 = .ok (.iand, 1) := by decide +kernel
theorem dX1_tell_57 : decode cX1_tell 57 = .ok (.iconst 1, 1) := by decide +kernel
theorem dX1_tell_58 : decode cX1_tell 58 = .ok (.isub, 1) := by decide +kernel
theorem dX1_tell_59 : decode cX1_tell 59 = .ok (.ireturn, 1) := by decide +kernel
theorem dX1_tell_60 : decode cX1_tell 60 = .ok (.iload_n 3, 1) := by decide +kernel
theorem dX1_tell_61 : decode cX1_tell 61 = .ok (.bipush 15, 2) := by decide +kernel
theorem dX1_tell_63 : decode cX1_tell 63 = .ok (.ishr, 1) := by decide +kernel
theorem dX1_tell_64 : decode cX1_tell 64 = .ok (.ireturn, 1) := by decide +kernel
theorem dX1_isTouched_0 : decode cX1_isTouched 0 = .ok (.aload_n 0, 1) := by decide +kernel
theorem dX1_isTouched_1 : decode cX1_isTouched 1 = .ok (.getfield 21, 3) := by decide +kernel
theorem dX1_isTouched_4 : decode cX1_isTouched 4 = .ok (.iload_n 1, 1) := by decide +kernel
theorem dX1_isTouched_5 : decode cX1_isTouched 5 = .ok (.iaload, 1) := by decide +kernel
theorem dX1_isTouched_6 : decode cX1_isTouched 6 = .ok (.ifCond .gt 12, 3) := by decide +kernel
theorem dX1_isTouched_9 : decode cX1_isTouched 9 = .ok (.aload_n 0, 1) := by decide +kernel
theorem dX1_isTouched_10 : decode cX1_isTouched 10 = .ok (.getfield 27, 3) := by decide +kernel
theorem dX1_isTouched_13 : decode cX1_isTouched 13 = .ok (.iload_n 1, 1) := by decide +kernel
theorem dX1_isTouched_14 : decode cX1_isTouched 14 = .ok (.iaload, 1) := by decide +kernel
theorem dX1_isTouched_15 : decode cX1_isTouched 15 = .ok (.ifCond .le 7, 3) := by decide +kernel
theorem dX1_isTouched_18 : decode cX1_isTouched 18 = .ok (.iconst 1, 1) := by decide +kernel
theorem dX1_isTouched_19 : decode cX1_isTouched 19 = .ok (.goto 4, 3) := by decide +kernel
theorem dX1_isTouched_22 : decode cX1_isTouched 22 = .ok (.iconst 0, 1) := by decide +kernel
theorem dX1_isTouched_23 : decode cX1_isTouched 23 = .ok (.ireturn, 1) := by decide +kernel
theorem dX1_isFaultless_0 : decode cX1_isFaultless 0 = .ok (.aload_n 0, 1) := by decide +kernel
theorem dX1_isFaultless_1 : decode cX1_isFaultless 1 = .ok (.getfield 21, 3) := by decide +kernel
theorem dX1_isFaultless_4 : decode cX1_isFaultless 4 = .ok (.iload_n 1, 1) := by decide +kernel
theorem dX1_isFaultless_5 : decode cX1_isFaultless 5 = .ok (.iaload, 1) := by decide +kernel
theorem dX1_isFaultless_6 : decode cX1_isFaultless 6 = .ok (.ifCond .le 31, 3) := by decide +kernel
theorem dX1_isFaultless_9 : decode cX1_isFaultless 9 = .ok (.aload_n 0, 1) := by decide +kernel
theorem dX1_isFaultless_10 : decode cX1_isFaultless 10 = .ok (.getfield 24, 3) := by decide +kernel
theorem dX1_isFaultless_13 : decode cX1_isFaultless 13 = .ok (.iload_n 1, 1) := by decide +kernel
theorem dX1_isFaultless_14 : decode cX1_isFaultless 14 = .ok (.iaload, 1) := by decide +kernel
theorem dX1_isFaultless_15 : decode cX1_isFaultless 15 = .ok (.aload_n 0, 1) := by decide +kernel
theorem dX1_isFaultless_16 : decode cX1_isFaultless 16 = .ok (.getfield 21, 3) := by decide +kernel
theorem dX1_isFaultless_19 : decode cX1_isFaultless 19 = .ok (.iload_n 1, 1) := by decide +kernel
theorem dX1_isFaultless_20 : decode cX1_isFaultless 20 = .ok (.iaload, 1) := by decide +kernel
theorem dX1_isFaultless_21 : decode cX1_isFaultless 21 = .ok (.if_icmp .ne 16, 3) := by decide +kernel
theorem dX1_isFaultless_24 : decode cX1_isFaultless 24 = .ok (.aload_n 0, 1) := by decide +kernel
theorem dX1_isFaultless_25 : decode cX1_isFaultless 25 = .ok (.getfield 27, 3) := by decide +kernel
theorem dX1_isFaultless_28 : decode cX1_isFaultless 28 = .ok (.iload_n 1, 1) := by decide +kernel
theorem dX1_isFaultless_29 : decode cX1_isFaultless 29 = .ok (.iaload, 1) := by decide +kernel
theorem dX1_isFaultless_30 : decode cX1_isFaultless 30 = .ok (.ifCond .ne 7, 3) := by decide +kernel
theorem dX1_isFaultless_33 : decode cX1_isFaultless 33 = .ok (.iconst 1, 1) := by decide +kernel
theorem dX1_isFaultless_34 : decode cX1_isFaultless 34 = .ok (.goto 4, 3) := by decide +kernel
theorem dX1_isFaultless_37 : decode cX1_isFaultless 37 = .ok (.iconst 0, 1) := by decide +kernel
theorem dX1_isFaultless_38 : decode cX1_isFaultless 38 = .ok (.ireturn, 1) := by decide +kernel
theorem dX1_restAt_0 : decode cX1_restAt 0 = .ok (.aload_n 0, 1) := by decide +kernel
theorem dX1_restAt_1 : decode cX1_restAt 1 = .ok (.getfield 9, 3) := by decide +kernel
theorem dX1_restAt_4 : decode cX1_restAt 4 = .ok (.iload_n 1, 1) := by decide +kernel
theorem dX1_restAt_5 : decode cX1_restAt 5 = .ok (.bipush 61, 2) := by decide +kernel
theorem dX1_restAt_7 : decode cX1_restAt 7 = .ok (.imul, 1) := by decide +kernel
theorem dX1_restAt_8 : decode cX1_restAt 8 = .ok (.iload_n 2, 1) := by decide +kernel
theorem dX1_restAt_9 : decode cX1_restAt 9 = .ok (.iadd, 1) := by decide +kernel
theorem dX1_restAt_10 : decode cX1_restAt 10 = .ok (.iconst 1, 1) := by decide +kernel
theorem dX1_restAt_11 : decode cX1_restAt 11 = .ok (.iadd, 1) := by decide +kernel
theorem dX1_restAt_12 : decode cX1_restAt 12 = .ok (.iaload, 1) := by decide +kernel
theorem dX1_restAt_13 : decode cX1_restAt 13 = .ok (.ireturn, 1) := by decide +kernel
theorem dX1_lowerRest_0 : decode cX1_lowerRest 0 = .ok (.iload_n 1, 1) := by decide +kernel
theorem dX1_lowerRest_1 : decode cX1_lowerRest 1 = .ok (.bipush 61, 2) := by decide +kernel
theorem dX1_lowerRest_3 : decode cX1_lowerRest 3 = .ok (.imul, 1) := by decide +kernel
theorem dX1_lowerRest_4 : decode cX1_lowerRest 4 = .ok (.iload_n 2, 1) := by decide +kernel
theorem dX1_lowerRest_5 : decode cX1_lowerRest 5 = .ok (.iadd, 1) := by decide +kernel
theorem dX1_lowerRest_6 : decode cX1_lowerRest 6 = .ok (.iconst 1, 1) := by decide +kernel
theorem dX1_lowerRest_7 : decode cX1_lowerRest 7 = .ok (.iadd, 1) := by decide +kernel
theorem dX1_lowerRest_8 : decode cX1_lowerRest 8 = .ok (.istore 4, 2) := by decide +kernel
theorem dX1_lowerRest_10 : decode cX1_lowerRest 10 = .ok (.aload_n 0, 1) := by decide +kernel
theorem dX1_lowerRest_11 : decode cX1_lowerRest 11 = .ok (.getfield 9, 3) := by decide +kernel
theorem dX1_lowerRest_14 : decode cX1_lowerRest 14 = .ok (.iload 4, 2) := by decide +kernel
theorem dX1_lowerRest_16 : decode cX1_lowerRest 16 = .ok (.aload_n 0, 1) := by decide +kernel
theorem dX1_lowerRest_17 : decode cX1_lowerRest 17 = .ok (.getfield 9, 3) := by decide +kernel
theorem dX1_lowerRest_20 : decode cX1_lowerRest 20 = .ok (.iload 4, 2) := by decide +kernel
theorem dX1_lowerRest_22 : decode cX1_lowerRest 22 = .ok (.iaload, 1) := by decide +kernel
theorem dX1_lowerRest_23 : decode cX1_lowerRest 23 = .ok (.iload_n 3, 1) := by decide +kernel
theorem dX1_lowerRest_24 : decode cX1_lowerRest 24 = .ok (.invokestatic 74, 3) := by decide +kernel
theorem dX1_lowerRest_27 : decode cX1_lowerRest 27 = .ok (.iastore, 1) := by decide +kernel
theorem dX1_lowerRest_28 : decode cX1_lowerRest 28 = .ok (.return_, 1) := by decide +kernel
theorem dX1_playPrice_0 : decode cX1_playPrice 0 = .ok (.aload_n 0, 1) := by decide +kernel
theorem dX1_playPrice_1 : decode cX1_playPrice 1 = .ok (.getfield 34, 3) := by decide +kernel
theorem dX1_playPrice_4 : decode cX1_playPrice 4 = .ok (.getfield 79, 3) := by decide +kernel
theorem dX1_playPrice_7 : decode cX1_playPrice 7 = .ok (.iload_n 1, 1) := by decide +kernel
theorem dX1_playPrice_8 : decode cX1_playPrice 8 = .ok (.iaload, 1) := by decide +kernel
theorem dX1_playPrice_9 : decode cX1_playPrice 9 = .ok (.aload_n 0, 1) := by decide +kernel
theorem dX1_playPrice_10 : decode cX1_playPrice 10 = .ok (.getfield 30, 3) := by decide +kernel
theorem dX1_playPrice_13 : decode cX1_playPrice 13 = .ok (.aload_n 0, 1) := by decide +kernel
theorem dX1_playPrice_14 : decode cX1_playPrice 14 = .ok (.getfield 34, 3) := by decide +kernel
theorem dX1_playPrice_17 : decode cX1_playPrice 17 = .ok (.getfield 84, 3) := by decide +kernel
theorem dX1_playPrice_20 : decode cX1_playPrice 20 = .ok (.iload_n 1, 1) := by decide +kernel
theorem dX1_playPrice_21 : decode cX1_playPrice 21 = .ok (.iaload, 1) := by decide +kernel
theorem dX1_playPrice_22 : decode cX1_playPrice 22 = .ok (.aload_n 0, 1) := by decide +kernel
theorem dX1_playPrice_23 : decode cX1_playPrice 23 = .ok (.getfield 38, 3) := by decide +kernel
theorem dX1_playPrice_26 : decode cX1_playPrice 26 = .ok (.getfield 87, 3) := by decide +kernel
theorem dX1_playPrice_29 : decode cX1_playPrice 29 = .ok (.iload_n 2, 1) := by decide +kernel
theorem dX1_playPrice_30 : decode cX1_playPrice 30 = .ok (.iaload, 1) := by decide +kernel
theorem dX1_playPrice_31 : decode cX1_playPrice 31 = .ok (.invokevirtual 90, 3) := by decide +kernel
theorem dX1_playPrice_34 : decode cX1_playPrice 34 = .ok (.iadd, 1) := by decide +kernel
theorem dX1_playPrice_35 : decode cX1_playPrice 35 = .ok (.ireturn, 1) := by decide +kernel
theorem dX1_leapPrice_0 : decode cX1_leapPrice 0 = .ok (.aload_n 0, 1) := by decide +kernel
theorem dX1_leapPrice_1 : decode cX1_leapPrice 1 = .ok (.getfield 30, 3) := by decide +kernel
theorem dX1_leapPrice_4 : decode cX1_leapPrice 4 = .ok (.getfield 93, 3) := by decide +kernel
theorem dX1_leapPrice_7 : decode cX1_leapPrice 7 = .ok (.iconst 4, 1) := by decide +kernel
theorem dX1_leapPrice_8 : decode cX1_leapPrice 8 = .ok (.iaload, 1) := by decide +kernel
theorem dX1_leapPrice_9 : decode cX1_leapPrice 9 = .ok (.aload_n 0, 1) := by decide +kernel
theorem dX1_leapPrice_10 : decode cX1_leapPrice 10 = .ok (.getfield 30, 3) := by decide +kernel
theorem dX1_leapPrice_13 : decode cX1_leapPrice 13 = .ok (.iload_n 1, 1) := by decide +kernel
theorem dX1_leapPrice_14 : decode cX1_leapPrice 14 = .ok (.aload_n 0, 1) := by decide +kernel
theorem dX1_leapPrice_15 : decode cX1_leapPrice 15 = .ok (.getfield 38, 3) := by decide +kernel
theorem dX1_leapPrice_18 : decode cX1_leapPrice 18 = .ok (.getfield 87, 3) := by decide +kernel
theorem dX1_leapPrice_21 : decode cX1_leapPrice 21 = .ok (.iload_n 2, 1) := by decide +kernel
theorem dX1_leapPrice_22 : decode cX1_leapPrice 22 = .ok (.iaload, 1) := by decide +kernel
theorem dX1_leapPrice_23 : decode cX1_leapPrice 23 = .ok (.invokevirtual 90, 3) := by decide +kernel
theorem dX1_leapPrice_26 : decode cX1_leapPrice 26 = .ok (.iadd, 1) := by decide +kernel
theorem dX1_leapPrice_27 : decode cX1_leapPrice 27 = .ok (.ireturn, 1) := by decide +kernel
theorem dX1_passPrice_0 : decode cX1_passPrice 0 = .ok (.aload_n 0, 1) := by decide +kernel
theorem dX1_passPrice_1 : decode cX1_passPrice 1 = .ok (.getfield 34, 3) := by decide +kernel
theorem dX1_passPrice_4 : decode cX1_passPrice 4 = .ok (.getfield 79, 3) := by decide +kernel
theorem dX1_passPrice_7 : decode cX1_passPrice 7 = .ok (.iload_n 1, 1) := by decide +kernel
theorem dX1_passPrice_8 : decode cX1_passPrice 8 = .ok (.iaload, 1) := by decide +kernel
theorem dX1_passPrice_9 : decode cX1_passPrice 9 = .ok (.aload_n 0, 1) := by decide +kernel
theorem dX1_passPrice_10 : decode cX1_passPrice 10 = .ok (.getfield 30, 3) := by decide +kernel
theorem dX1_passPrice_13 : decode cX1_passPrice 13 = .ok (.getfield 93, 3) := by decide +kernel
theorem dX1_passPrice_16 : decode cX1_passPrice 16 = .ok (.iconst 2, 1) := by decide +kernel
theorem dX1_passPrice_17 : decode cX1_passPrice 17 = .ok (.iaload, 1) := by decide +kernel
theorem dX1_passPrice_18 : decode cX1_passPrice 18 = .ok (.iadd, 1) := by decide +kernel
theorem dX1_passPrice_19 : decode cX1_passPrice 19 = .ok (.ireturn, 1) := by decide +kernel
theorem dX1_weighTaking_0 : decode cX1_weighTaking 0 = .ok (.ldc 96, 2) := by decide +kernel
theorem dX1_weighTaking_2 : decode cX1_weighTaking 2 = .ok (.istore_n 2, 1) := by decide +kernel
theorem dX1_weighTaking_3 : decode cX1_weighTaking 3 = .ok (.aload_n 0, 1) := by decide +kernel
theorem dX1_weighTaking_4 : decode cX1_weighTaking 4 = .ok (.getfield 30, 3) := by decide +kernel
theorem dX1_weighTaking_7 : decode cX1_weighTaking 7 = .ok (.invokevirtual 97, 3) := by decide +kernel
theorem dX1_weighTaking_10 : decode cX1_weighTaking 10 = .ok (.istore_n 3, 1) := by decide +kernel
theorem dX1_weighTaking_11 : decode cX1_weighTaking 11 = .ok (.iload_n 3, 1) := by decide +kernel
theorem dX1_weighTaking_12 : decode cX1_weighTaking 12 = .ok (.aload_n 0, 1) := by decide +kernel
theorem dX1_weighTaking_13 : decode cX1_weighTaking 13 = .ok (.getfield 30, 3) := by decide +kernel
theorem dX1_weighTaking_16 : decode cX1_weighTaking 16 = .ok (.invokevirtual 101, 3) := by decide +kernel
theorem dX1_weighTaking_19 : decode cX1_weighTaking 19 = .ok (.if_icmp .gt 29, 3) := by decide +kernel
theorem dX1_weighTaking_22 : decode cX1_weighTaking 22 = .ok (.iload_n 2, 1) := by decide +kernel
theorem dX1_weighTaking_23 : decode cX1_weighTaking 23 = .ok (.aload_n 0, 1) := by decide +kernel
theorem dX1_weighTaking_24 : decode cX1_weighTaking 24 = .ok (.iload_n 3, 1) := by decide +kernel
theorem dX1_weighTaking_25 : decode cX1_weighTaking 25 = .ok (.iload_n 1, 1) := by decide +kernel
theorem dX1_weighTaking_26 : decode cX1_weighTaking 26 = .ok (.invokevirtual 104, 3) := by decide +kernel
theorem dX1_weighTaking_29 : decode cX1_weighTaking 29 = .ok (.aload_n 0, 1) := by decide +kernel
theorem dX1_weighTaking_30 : decode cX1_weighTaking 30 = .ok (.iload_n 1, 1) := by decide +kernel
theorem dX1_weighTaking_31 : decode cX1_weighTaking 31 = .ok (.iconst 1, 1) := by decide +kernel
theorem dX1_weighTaking_32 : decode cX1_weighTaking 32 = .ok (.iadd, 1) := by decide +kernel
theorem dX1_weighTaking_33 : decode cX1_weighTaking 33 = .ok (.iload_n 3, 1) := by decide +kernel
theorem dX1_weighTaking_34 : decode cX1_weighTaking 34 = .ok (.invokevirtual 60, 3) := by decide +kernel
theorem dX1_weighTaking_37 : decode cX1_weighTaking 37 = .ok (.iadd, 1) := by decide +kernel
theorem dX1_weighTaking_38 : decode cX1_weighTaking 38 = .ok (.invokestatic 74, 3) := by decide +kernel
theorem dX1_weighTaking_41 : decode cX1_weighTaking 41 = .ok (.istore_n 2, 1) := by decide +kernel
theorem dX1_weighTaking_42 : decode cX1_weighTaking 42 = .ok (.iinc 3 1, 3) := by decide +kernel
theorem dX1_weighTaking_45 : decode cX1_weighTaking 45 = .ok (.goto (-34), 3) := by decide +kernel
theorem dX1_weighTaking_48 : decode cX1_weighTaking 48 = .ok (.iconst (-1), 1) := by decide +kernel
theorem dX1_weighTaking_49 : decode cX1_weighTaking 49 = .ok (.istore_n 3, 1) := by decide +kernel
theorem dX1_weighTaking_50 : decode cX1_weighTaking 50 = .ok (.iload_n 3, 1) := by decide +kernel
theorem dX1_weighTaking_51 : decode cX1_weighTaking 51 = .ok (.aload_n 0, 1) := by decide +kernel
theorem dX1_weighTaking_52 : decode cX1_weighTaking 52 = .ok (.getfield 30, 3) := by decide +kernel
theorem dX1_weighTaking_55 : decode cX1_weighTaking 55 = .ok (.getfield 42, 3) := by decide +kernel
theorem dX1_weighTaking_58 : decode cX1_weighTaking 58 = .ok (.if_icmp .ge 48, 3) := by decide +kernel
theorem dX1_weighTaking_61 : decode cX1_weighTaking 61 = .ok (.aload_n 0, 1) := by decide +kernel
theorem dX1_weighTaking_62 : decode cX1_weighTaking 62 = .ok (.getfield 30, 3) := by decide +kernel
theorem dX1_weighTaking_65 : decode cX1_weighTaking 65 = .ok (.getfield 93, 3) := by decide +kernel
theorem dX1_weighTaking_68 : decode cX1_weighTaking 68 = .ok (.iconst 1, 1) := by decide +kernel
theorem dX1_weighTaking_69 : decode cX1_weighTaking 69 = .ok (.iaload, 1) := by decide +kernel
theorem dX1_weighTaking_70 : decode cX1_weighTaking 70 = .ok (.aload_n 0, 1) := by decide +kernel
theorem dX1_weighTaking_71 : decode cX1_weighTaking 71 = .ok (.iload_n 1, 1) := by decide +kernel
theorem dX1_weighTaking_72 : decode cX1_weighTaking 72 = .ok (.iconst 1, 1) := by decide +kernel
theorem dX1_weighTaking_73 : decode cX1_weighTaking 73 = .ok (.iadd, 1) := by decide +kernel
theorem dX1_weighTaking_74 : decode cX1_weighTaking 74 = .ok (.iload_n 3, 1) := by decide +kernel
theorem dX1_weighTaking_75 : decode cX1_weighTaking 75 = .ok (.invokevirtual 60, 3) := by decide +kernel
theorem dX1_weighTaking_78 : decode cX1_weighTaking 78 = .ok (.iadd, 1) := by decide +kernel
theorem dX1_weighTaking_79 : decode cX1_weighTaking 79 = .ok (.istore 4, 2) := by decide +kernel
theorem dX1_weighTaking_81 : decode cX1_weighTaking 81 = .ok (.aload_n 0, 1) := by decide +kernel
theorem dX1_weighTaking_82 : decode cX1_weighTaking 82 = .ok (.getfield 9, 3) := by decide +kernel
theorem dX1_weighTaking_85 : decode cX1_weighTaking 85 = .ok (.iload_n 1, 1) := by decide +kernel
theorem dX1_weighTaking_86 : decode cX1_weighTaking 86 = .ok (.bipush 61, 2) := by decide +kernel
theorem dX1_weighTaking_88 : decode cX1_weighTaking 88 = .ok (.imul, 1) := by decide +kernel
theorem dX1_weighTaking_89 : decode cX1_weighTaking 89 = .ok (.iload_n 3, 1) := by decide +kernel
theorem dX1_weighTaking_90 : decode cX1_weighTaking 90 = .ok (.iadd, 1) := by decide +kernel
theorem dX1_weighTaking_91 : decode cX1_weighTaking 91 = .ok (.iconst 1, 1) := by decide +kernel
theorem dX1_weighTaking_92 : decode cX1_weighTaking 92 = .ok (.iadd, 1) := by decide +kernel
theorem dX1_weighTaking_93 : decode cX1_weighTaking 93 = .ok (.iload_n 2, 1) := by decide +kernel
theorem dX1_weighTaking_94 : decode cX1_weighTaking 94 = .ok (.iload 4, 2) := by decide +kernel
theorem dX1_weighTaking_96 : decode cX1_weighTaking 96 = .ok (.invokestatic 74, 3) := by decide +kernel
theorem dX1_weighTaking_99 : decode cX1_weighTaking 99 = .ok (.iastore, 1) := by decide +kernel
theorem dX1_weighTaking_100 : decode cX1_weighTaking 100 = .ok (.iinc 3 1, 3) := by decide +kernel
theorem dX1_weighTaking_103 : decode cX1_weighTaking 103 = .ok (.goto (-53), 3) := by decide +kernel
theorem dX1_weighTaking_106 : decode cX1_weighTaking 106 = .ok (.iconst 0, 1) := by decide +kernel
theorem dX1_weighTaking_107 : decode cX1_weighTaking 107 = .ok (.istore_n 3, 1) := by decide +kernel
theorem dX1_weighTaking_108 : decode cX1_weighTaking 108 = .ok (.iload_n 3, 1) := by decide +kernel
theorem dX1_weighTaking_109 : decode cX1_weighTaking 109 = .ok (.aload_n 0, 1) := by decide +kernel
theorem dX1_weighTaking_110 : decode cX1_weighTaking 110 = .ok (.getfield 34, 3) := by decide +kernel
theorem dX1_weighTaking_113 : decode cX1_weighTaking 113 = .ok (.getfield 107, 3) := by decide +kernel
theorem dX1_weighTaking_116 : decode cX1_weighTaking 116 = .ok (.if_icmp .ge 50, 3) := by decide +kernel
theorem dX1_weighTaking_119 : decode cX1_weighTaking 119 = .ok (.aload_n 0, 1) := by decide +kernel
theorem dX1_weighTaking_120 : decode cX1_weighTaking 120 = .ok (.iload_n 3, 1) := by decide +kernel
theorem dX1_weighTaking_121 : decode cX1_weighTaking 121 = .ok (.iload_n 1, 1) := by decide +kernel
theorem dX1_weighTaking_122 : decode cX1_weighTaking 122 = .ok (.invokevirtual 108, 3) := by decide +kernel
theorem dX1_weighTaking_125 : decode cX1_weighTaking 125 = .ok (.aload_n 0, 1) := by decide +kernel
theorem dX1_weighTaking_126 : decode cX1_weighTaking 126 = .ok (.iload_n 1, 1) := by decide +kernel
theorem dX1_weighTaking_127 : decode cX1_weighTaking 127 = .ok (.iconst 1, 1) := by decide +kernel
theorem dX1_weighTaking_128 : decode cX1_weighTaking 128 = .ok (.iadd, 1) := by decide +kernel
theorem dX1_weighTaking_129 : decode cX1_weighTaking 129 = .ok (.aload_n 0, 1) := by decide +kernel
theorem dX1_weighTaking_130 : decode cX1_weighTaking 130 = .ok (.getfield 34, 3) := by decide +kernel
theorem dX1_weighTaking_133 : decode cX1_weighTaking 133 = .ok (.getfield 84, 3) := by decide +kernel
theorem dX1_weighTaking_136 : decode cX1_weighTaking 136 = .ok (.iload_n 3, 1) := by decide +kernel
theorem dX1_weighTaking_137 : decode cX1_weighTaking 137 = .ok (.iaload, 1) := by decide +kernel
theorem dX1_weighTaking_138 : decode cX1_weighTaking 138 = .ok (.invokevirtual 60, 3) := by decide +kernel
theorem dX1_weighTaking_141 : decode cX1_weighTaking 141 = .ok (.iadd, 1) := by decide +kernel
theorem dX1_weighTaking_142 : decode cX1_weighTaking 142 = .ok (.istore 4, 2) := by decide +kernel
theorem dX1_weighTaking_144 : decode cX1_weighTaking 144 = .ok (.aload_n 0, 1) := by decide +kernel
theorem dX1_weighTaking_145 : decode cX1_weighTaking 145 = .ok (.iload_n 1, 1) := by decide +kernel
theorem dX1_weighTaking_146 : decode cX1_weighTaking 146 = .ok (.aload_n 0, 1) := by decide +kernel
theorem dX1_weighTaking_147 : decode cX1_weighTaking 147 = .ok (.getfield 34, 3) := by decide +kernel
theorem dX1_weighTaking_150 : decode cX1_weighTaking 150 = .ok (.getfield 111, 3) := by decide +kernel
theorem dX1_weighTaking_153 : decode cX1_weighTaking 153 = .ok (.iload_n 3, 1) := by decide +kernel
theorem dX1_weighTaking_154 : decode cX1_weighTaking 154 = .ok (.iaload, 1) := by decide +kernel
theorem dX1_weighTaking_155 : decode cX1_weighTaking 155 = .ok (.iload 4, 2) := by decide +kernel
theorem dX1_weighTaking_157 : decode cX1_weighTaking 157 = .ok (.invokevirtual 114, 3) := by decide +kernel
theorem dX1_weighTaking_160 : decode cX1_weighTaking 160 = .ok (.iinc 3 1, 3) := by decide +kernel
theorem dX1_weighTaking_163 : decode cX1_weighTaking 163 = .ok (.goto (-55), 3) := by decide +kernel
theorem dX1_weighTaking_166 : decode cX1_weighTaking 166 = .ok (.return_, 1) := by decide +kernel
theorem dX1_weighPassing_0 : decode cX1_weighPassing 0 = .ok (.iconst 1, 1) := by decide +kernel
theorem dX1_weighPassing_1 : decode cX1_weighPassing 1 = .ok (.istore_n 2, 1) := by decide +kernel
theorem dX1_weighPassing_2 : decode cX1_weighPassing 2 = .ok (.iconst 0, 1) := by decide +kernel
theorem dX1_weighPassing_3 : decode cX1_weighPassing 3 = .ok (.istore_n 3, 1) := by decide +kernel
theorem dX1_weighPassing_4 : decode cX1_weighPassing 4 = .ok (.iload_n 3, 1) := by decide +kernel
theorem dX1_weighPassing_5 : decode cX1_weighPassing 5 = .ok (.bipush 61, 2) := by decide +kernel
theorem dX1_weighPassing_7 : decode cX1_weighPassing 7 = .ok (.if_icmp .ge 100, 3) := by decide +kernel
theorem dX1_weighPassing_10 : decode cX1_weighPassing 10 = .ok (.iload_n 2, 1) := by decide +kernel
theorem dX1_weighPassing_11 : decode cX1_weighPassing 11 = .ok (.ifCond .eq 96, 3) := by decide +kernel
theorem dX1_weighPassing_14 : decode cX1_weighPassing 14 = .ok (.iconst 0, 1) := by decide +kernel
theorem dX1_weighPassing_15 : decode cX1_weighPassing 15 = .ok (.istore_n 2, 1) := by decide +kernel
theorem dX1_weighPassing_16 : decode cX1_weighPassing 16 = .ok (.aload_n 0, 1) := by decide +kernel
theorem dX1_weighPassing_17 : decode cX1_weighPassing 17 = .ok (.getfield 34, 3) := by decide +kernel
theorem dX1_weighPassing_20 : decode cX1_weighPassing 20 = .ok (.getfield 107, 3) := by decide +kernel
theorem dX1_weighPassing_23 : decode cX1_weighPassing 23 = .ok (.iconst 1, 1) := by decide +kernel
theorem dX1_weighPassing_24 : decode cX1_weighPassing 24 = .ok (.isub, 1) := by decide +kernel
theorem dX1_weighPassing_25 : decode cX1_weighPassing 25 = .ok (.istore 4, 2) := by decide +kernel
theorem dX1_weighPassing_27 : decode cX1_weighPassing 27 = .ok (.iload 4, 2) := by decide +kernel
theorem dX1_weighPassing_29 : decode cX1_weighPassing 29 = .ok (.ifCond .lt 72, 3) := by decide +kernel
theorem dX1_weighPassing_32 : decode cX1_weighPassing 32 = .ok (.aload_n 0, 1) := by decide +kernel
theorem dX1_weighPassing_33 : decode cX1_weighPassing 33 = .ok (.iload 4, 2) := by decide +kernel
theorem dX1_weighPassing_35 : decode cX1_weighPassing 35 = .ok (.invokevirtual 118, 3) := by decide +kernel
theorem dX1_weighPassing_38 : decode cX1_weighPassing 38 = .ok (.aload_n 0, 1) := by decide +kernel
theorem dX1_weighPassing_39 : decode cX1_weighPassing 39 = .ok (.iload_n 1, 1) := by decide +kernel
theorem dX1_weighPassing_40 : decode cX1_weighPassing 40 = .ok (.aload_n 0, 1) := by decide +kernel
theorem dX1_weighPassing_41 : decode cX1_weighPassing 41 = .ok (.getfield 34, 3) := by decide +kernel
theorem dX1_weighPassing_44 : decode cX1_weighPassing 44 = .ok (.getfield 84, 3) := by decide +kernel
theorem dX1_weighPassing_47 : decode cX1_weighPassing 47 = .ok (.iload 4, 2) := by decide +kernel
theorem dX1_weighPassing_49 : decode cX1_weighPassing 49 = .ok (.iaload, 1) := by decide +kernel
theorem dX1_weighPassing_50 : decode cX1_weighPassing 50 = .ok (.invokevirtual 60, 3) := by decide +kernel
theorem dX1_weighPassing_53 : decode cX1_weighPassing 53 = .ok (.iadd, 1) := by decide +kernel
theorem dX1_weighPassing_54 : decode cX1_weighPassing 54 = .ok (.istore 5, 2) := by decide +kernel
theorem dX1_weighPassing_56 : decode cX1_weighPassing 56 = .ok (.iload 5, 2) := by decide +kernel
theorem dX1_weighPassing_58 : decode cX1_weighPassing 58 = .ok (.aload_n 0, 1) := by decide +kernel
theorem dX1_weighPassing_59 : decode cX1_weighPassing 59 = .ok (.iload_n 1, 1) := by decide +kernel
theorem dX1_weighPassing_60 : decode cX1_weighPassing 60 = .ok (.aload_n 0, 1) := by decide +kernel
theorem dX1_weighPassing_61 : decode cX1_weighPassing 61 = .ok (.getfield 34, 3) := by decide +kernel
theorem dX1_weighPassing_64 : decode cX1_weighPassing 64 = .ok (.getfield 111, 3) := by decide +kernel
theorem dX1_weighPassing_67 : decode cX1_weighPassing 67 = .ok (.iload 4, 2) := by decide +kernel
theorem dX1_weighPassing_69 : decode cX1_weighPassing 69 = .ok (.iaload, 1) := by decide +kernel
theorem dX1_weighPassing_70 : decode cX1_weighPassing 70 = .ok (.invokevirtual 60, 3) := by decide +kernel
theorem dX1_weighPassing_73 : decode cX1_weighPassing 73 = .ok (.if_icmp .ge 22, 3) := by decide +kernel
theorem dX1_weighPassing_76 : decode cX1_weighPassing 76 = .ok (.aload_n 0, 1) := by decide +kernel
theorem dX1_weighPassing_77 : decode cX1_weighPassing 77 = .ok (.iload_n 1, 1) := by decide +kernel
theorem dX1_weighPassing_78 : decode cX1_weighPassing 78 = .ok (.aload_n 0, 1) := by decide +kernel
theorem dX1_weighPassing_79 : decode cX1_weighPassing 79 = .ok (.getfield 34, 3) := by decide +kernel
theorem dX1_weighPassing_82 : decode cX1_weighPassing 82 = .ok (.getfield 111, 3) := by decide +kernel
theorem dX1_weighPassing_85 : decode cX1_weighPassing 85 = .ok (.iload 4, 2) := by decide +kernel
theorem dX1_weighPassing_87 : decode cX1_weighPassing 87 = .ok (.iaload, 1) := by decide +kernel
theorem dX1_weighPassing_88 : decode cX1_weighPassing 88 = .ok (.iload 5, 2) := by decide +kernel
theorem dX1_weighPassing_90 : decode cX1_weighPassing 90 = .ok (.invokevirtual 114, 3) := by decide +kernel
theorem dX1_weighPassing_93 : decode cX1_weighPassing 93 = .ok (.iconst 1, 1) := by decide +kernel
theorem dX1_weighPassing_94 : decode cX1_weighPassing 94 = .ok (.istore_n 2, 1) := by decide +kernel
theorem dX1_weighPassing_95 : decode cX1_weighPassing 95 = .ok (.iinc 4 (-1), 3) := by decide +kernel
theorem dX1_weighPassing_98 : decode cX1_weighPassing 98 = .ok (.goto (-71), 3) := by decide +kernel
theorem dX1_weighPassing_101 : decode cX1_weighPassing 101 = .ok (.iinc 3 1, 3) := by decide +kernel
theorem dX1_weighPassing_104 : decode cX1_weighPassing 104 = .ok (.goto (-100), 3) := by decide +kernel
theorem dX1_weighPassing_107 : decode cX1_weighPassing 107 = .ok (.return_, 1) := by decide +kernel
theorem dX1_walk_0 : decode cX1_walk 0 = .ok (.aload_n 0, 1) := by decide +kernel
theorem dX1_walk_1 : decode cX1_walk 1 = .ok (.invokevirtual 122, 3) := by decide +kernel
theorem dX1_walk_4 : decode cX1_walk 4 = .ok (.iconst (-1), 1) := by decide +kernel
theorem dX1_walk_5 : decode cX1_walk 5 = .ok (.istore_n 1, 1) := by decide +kernel
theorem dX1_walk_6 : decode cX1_walk 6 = .ok (.iconst 0, 1) := by decide +kernel
theorem dX1_walk_7 : decode cX1_walk 7 = .ok (.istore_n 2, 1) := by decide +kernel
theorem dX1_walk_8 : decode cX1_walk 8 = .ok (.iconst 0, 1) := by decide +kernel
theorem dX1_walk_9 : decode cX1_walk 9 = .ok (.istore_n 3, 1) := by decide +kernel
theorem dX1_walk_10 : decode cX1_walk 10 = .ok (.iload_n 3, 1) := by decide +kernel
theorem dX1_walk_11 : decode cX1_walk 11 = .ok (.sipush 7320, 3) := by decide +kernel
theorem dX1_walk_14 : decode cX1_walk 14 = .ok (.if_icmp .ge 89, 3) := by decide +kernel
theorem dX1_walk_17 : decode cX1_walk 17 = .ok (.iload_n 2, 1) := by decide +kernel
theorem dX1_walk_18 : decode cX1_walk 18 = .ok (.aload_n 0, 1) := by decide +kernel
theorem dX1_walk_19 : decode cX1_walk 19 = .ok (.getfield 38, 3) := by decide +kernel
theorem dX1_walk_22 : decode cX1_walk 22 = .ok (.getfield 48, 3) := by decide +kernel
theorem dX1_walk_25 : decode cX1_walk 25 = .ok (.if_icmp .ge 78, 3) := by decide +kernel
theorem dX1_walk_28 : decode cX1_walk 28 = .ok (.aload_n 0, 1) := by decide +kernel
theorem dX1_walk_29 : decode cX1_walk 29 = .ok (.iload_n 2, 1) := by decide +kernel
theorem dX1_walk_30 : decode cX1_walk 30 = .ok (.iload_n 1, 1) := by decide +kernel
theorem dX1_walk_31 : decode cX1_walk 31 = .ok (.invokevirtual 125, 3) := by decide +kernel
theorem dX1_walk_34 : decode cX1_walk 34 = .ok (.ifCond .ne 30, 3) := by decide +kernel
theorem dX1_walk_37 : decode cX1_walk 37 = .ok (.aload_n 0, 1) := by decide +kernel
theorem dX1_walk_38 : decode cX1_walk 38 = .ok (.iload_n 2, 1) := by decide +kernel
theorem dX1_walk_39 : decode cX1_walk 39 = .ok (.iload_n 1, 1) := by decide +kernel
theorem dX1_walk_40 : decode cX1_walk 40 = .ok (.invokevirtual 129, 3) := by decide +kernel
theorem dX1_walk_43 : decode cX1_walk 43 = .ok (.ifCond .ne 21, 3) := by decide +kernel
theorem dX1_walk_46 : decode cX1_walk 46 = .ok (.aload_n 0, 1) := by decide +kernel
theorem dX1_walk_47 : decode cX1_walk 47 = .ok (.iload_n 2, 1) := by decide +kernel
theorem dX1_walk_48 : decode cX1_walk 48 = .ok (.iload_n 1, 1) := by decide +kernel
theorem dX1_walk_49 : decode cX1_walk 49 = .ok (.invokevirtual 132, 3) := by decide +kernel
theorem dX1_walk_52 : decode cX1_walk 52 = .ok (.ifCond .ne 12, 3) := by decide +kernel
theorem dX1_walk_55 : decode cX1_walk 55 = .ok (.aload_n 0, 1) := by decide +kernel
theorem dX1_walk_56 : decode cX1_walk 56 = .ok (.iload_n 2, 1) := by decide +kernel
theorem dX1_walk_57 : decode cX1_walk 57 = .ok (.iload_n 1, 1) := by decide +kernel
theorem dX1_walk_58 : decode cX1_walk 58 = .ok (.invokevirtual 135, 3) := by decide +kernel
theorem dX1_walk_61 : decode cX1_walk 61 = .ok (.ifCond .eq 7, 3) := by decide +kernel
theorem dX1_walk_64 : decode cX1_walk 64 = .ok (.iconst 1, 1) := by decide +kernel
theorem dX1_walk_65 : decode cX1_walk 65 = .ok (.goto 4, 3) := by decide +kernel
theorem dX1_walk_68 : decode cX1_walk 68 = .ok (.iconst 0, 1) := by decide +kernel
theorem dX1_walk_69 : decode cX1_walk 69 = .ok (.istore 4, 2) := by decide +kernel
theorem dX1_walk_71 : decode cX1_walk 71 = .ok (.iload 4, 2) := by decide +kernel
theorem dX1_walk_73 : decode cX1_walk 73 = .ok (.ifCond .ne 4, 3) := by decide +kernel
theorem dX1_walk_76 : decode cX1_walk 76 = .ok (.return_, 1) := by decide +kernel
theorem dX1_walk_77 : decode cX1_walk 77 = .ok (.aload_n 0, 1) := by decide +kernel
theorem dX1_walk_78 : decode cX1_walk 78 = .ok (.iload_n 3, 1) := by decide +kernel
theorem dX1_walk_79 : decode cX1_walk 79 = .ok (.iconst 1, 1) := by decide +kernel
theorem dX1_walk_80 : decode cX1_walk 80 = .ok (.invokevirtual 138, 3) := by decide +kernel
theorem dX1_walk_83 : decode cX1_walk 83 = .ok (.istore_n 1, 1) := by decide +kernel
theorem dX1_walk_84 : decode cX1_walk 84 = .ok (.aload_n 0, 1) := by decide +kernel
theorem dX1_walk_85 : decode cX1_walk 85 = .ok (.iload_n 3, 1) := by decide +kernel
theorem dX1_walk_86 : decode cX1_walk 86 = .ok (.iconst 0, 1) := by decide +kernel
theorem dX1_walk_87 : decode cX1_walk 87 = .ok (.invokevirtual 138, 3) := by decide +kernel
theorem dX1_walk_90 : decode cX1_walk 90 = .ok (.iconst 2, 1) := by decide +kernel
theorem dX1_walk_91 : decode cX1_walk 91 = .ok (.if_icmp .eq 6, 3) := by decide +kernel
theorem dX1_walk_94 : decode cX1_walk 94 = .ok (.iinc 2 1, 3) := by decide +kernel
theorem dX1_walk_97 : decode cX1_walk 97 = .ok (.iinc 3 1, 3) := by decide +kernel
theorem dX1_walk_100 : decode cX1_walk 100 = .ok (.goto (-90), 3) := by decide +kernel
theorem dX1_walk_103 : decode cX1_walk 103 = .ok (.return_, 1) := by decide +kernel
theorem dX1_forgetCourse_0 : decode cX1_forgetCourse 0 = .ok (.aload_n 0, 1) := by decide +kernel
theorem dX1_forgetCourse_1 : decode cX1_forgetCourse 1 = .ok (.iconst 0, 1) := by decide +kernel
theorem dX1_forgetCourse_2 : decode cX1_forgetCourse 2 = .ok (.putfield 141, 3) := by decide +kernel
theorem dX1_forgetCourse_5 : decode cX1_forgetCourse 5 = .ok (.iconst 0, 1) := by decide +kernel
theorem dX1_forgetCourse_6 : decode cX1_forgetCourse 6 = .ok (.istore_n 1, 1) := by decide +kernel
theorem dX1_forgetCourse_7 : decode cX1_forgetCourse 7 = .ok (.iload_n 1, 1) := by decide +kernel
theorem dX1_forgetCourse_8 : decode cX1_forgetCourse 8 = .ok (.bipush 60, 2) := by decide +kernel
theorem dX1_forgetCourse_10 : decode cX1_forgetCourse 10 = .ok (.if_icmp .ge 30, 3) := by decide +kernel
theorem dX1_forgetCourse_13 : decode cX1_forgetCourse 13 = .ok (.aload_n 0, 1) := by decide +kernel
theorem dX1_forgetCourse_14 : decode cX1_forgetCourse 14 = .ok (.getfield 21, 3) := by decide +kernel
theorem dX1_forgetCourse_17 : decode cX1_forgetCourse 17 = .ok (.iload_n 1, 1) := by decide +kernel
theorem dX1_forgetCourse_18 : decode cX1_forgetCourse 18 = .ok (.iconst 0, 1) := by decide +kernel
theorem dX1_forgetCourse_19 : decode cX1_forgetCourse 19 = .ok (.iastore, 1) := by decide +kernel
theorem dX1_forgetCourse_20 : decode cX1_forgetCourse 20 = .ok (.aload_n 0, 1) := by decide +kernel
theorem dX1_forgetCourse_21 : decode cX1_forgetCourse 21 = .ok (.getfield 24, 3) := by decide +kernel
theorem dX1_forgetCourse_24 : decode cX1_forgetCourse 24 = .ok (.iload_n 1, 1) := by decide +kernel
theorem dX1_forgetCourse_25 : decode cX1_forgetCourse 25 = .ok (.iconst 0, 1) := by decide +kernel
theorem dX1_forgetCourse_26 : decode cX1_forgetCourse 26 = .ok (.iastore, 1) := by decide +kernel
theorem dX1_forgetCourse_27 : decode cX1_forgetCourse 27 = .ok (.aload_n 0, 1) := by decide +kernel
theorem dX1_forgetCourse_28 : decode cX1_forgetCourse 28 = .ok (.getfield 27, 3) := by decide +kernel
theorem dX1_forgetCourse_31 : decode cX1_forgetCourse 31 = .ok (.iload_n 1, 1) := by decide +kernel
theorem dX1_forgetCourse_32 : decode cX1_forgetCourse 32 = .ok (.iconst 0, 1) := by decide +kernel
theorem dX1_forgetCourse_33 : decode cX1_forgetCourse 33 = .ok (.iastore, 1) := by decide +kernel
theorem dX1_forgetCourse_34 : decode cX1_forgetCourse 34 = .ok (.iinc 1 1, 3) := by decide +kernel
theorem dX1_forgetCourse_37 : decode cX1_forgetCourse 37 = .ok (.goto (-30), 3) := by decide +kernel
theorem dX1_forgetCourse_40 : decode cX1_forgetCourse 40 = .ok (.return_, 1) := by decide +kernel
theorem dX1_plays_0 : decode cX1_plays 0 = .ok (.aload_n 0, 1) := by decide +kernel
theorem dX1_plays_1 : decode cX1_plays 1 = .ok (.getfield 34, 3) := by decide +kernel
theorem dX1_plays_4 : decode cX1_plays 4 = .ok (.iload_n 2, 1) := by decide +kernel
theorem dX1_plays_5 : decode cX1_plays 5 = .ok (.invokevirtual 142, 3) := by decide +kernel
theorem dX1_plays_8 : decode cX1_plays 8 = .ok (.istore_n 3, 1) := by decide +kernel
theorem dX1_plays_9 : decode cX1_plays 9 = .ok (.iload_n 3, 1) := by decide +kernel
theorem dX1_plays_10 : decode cX1_plays 10 = .ok (.aload_n 0, 1) := by decide +kernel
theorem dX1_plays_11 : decode cX1_plays 11 = .ok (.getfield 34, 3) := by decide +kernel
theorem dX1_plays_14 : decode cX1_plays 14 = .ok (.iload_n 2, 1) := by decide +kernel
theorem dX1_plays_15 : decode cX1_plays 15 = .ok (.invokevirtual 145, 3) := by decide +kernel
theorem dX1_plays_18 : decode cX1_plays 18 = .ok (.if_icmp .ge 60, 3) := by decide +kernel
theorem dX1_plays_21 : decode cX1_plays 21 = .ok (.aload_n 0, 1) := by decide +kernel
theorem dX1_plays_22 : decode cX1_plays 22 = .ok (.getfield 34, 3) := by decide +kernel
theorem dX1_plays_25 : decode cX1_plays 25 = .ok (.getfield 84, 3) := by decide +kernel
theorem dX1_plays_28 : decode cX1_plays 28 = .ok (.iload_n 3, 1) := by decide +kernel
theorem dX1_plays_29 : decode cX1_plays 29 = .ok (.iaload, 1) := by decide +kernel
theorem dX1_plays_30 : decode cX1_plays 30 = .ok (.istore 4, 2) := by decide +kernel
theorem dX1_plays_32 : decode cX1_plays 32 = .ok (.aload_n 0, 1) := by decide +kernel
theorem dX1_plays_33 : decode cX1_plays 33 = .ok (.iload_n 3, 1) := by decide +kernel
theorem dX1_plays_34 : decode cX1_plays 34 = .ok (.iload_n 1, 1) := by decide +kernel
theorem dX1_plays_35 : decode cX1_plays 35 = .ok (.invokevirtual 108, 3) := by decide +kernel
theorem dX1_plays_38 : decode cX1_plays 38 = .ok (.istore 5, 2) := by decide +kernel
theorem dX1_plays_40 : decode cX1_plays 40 = .ok (.iload 5, 2) := by decide +kernel
theorem dX1_plays_42 : decode cX1_plays 42 = .ok (.aload_n 0, 1) := by decide +kernel
theorem dX1_plays_43 : decode cX1_plays 43 = .ok (.iload_n 1, 1) := by decide +kernel
theorem dX1_plays_44 : decode cX1_plays 44 = .ok (.iconst 1, 1) := by decide +kernel
theorem dX1_plays_45 : decode cX1_plays 45 = .ok (.iadd, 1) := by decide +kernel
theorem dX1_plays_46 : decode cX1_plays 46 = .ok (.iload 4, 2) := by decide +kernel
theorem dX1_plays_48 : decode cX1_plays 48 = .ok (.invokevirtual 60, 3) := by decide +kernel
theorem dX1_plays_51 : decode cX1_plays 51 = .ok (.iadd, 1) := by decide +kernel
theorem dX1_plays_52 : decode cX1_plays 52 = .ok (.aload_n 0, 1) := by decide +kernel
theorem dX1_plays_53 : decode cX1_plays 53 = .ok (.iload_n 1, 1) := by decide +kernel
theorem dX1_plays_54 : decode cX1_plays 54 = .ok (.iload_n 2, 1) := by decide +kernel
theorem dX1_plays_55 : decode cX1_plays 55 = .ok (.invokevirtual 60, 3) := by decide +kernel
theorem dX1_plays_58 : decode cX1_plays 58 = .ok (.if_icmp .ne 14, 3) := by decide +kernel
theorem dX1_plays_61 : decode cX1_plays 61 = .ok (.aload_n 0, 1) := by decide +kernel
theorem dX1_plays_62 : decode cX1_plays 62 = .ok (.iconst 0, 1) := by decide +kernel
theorem dX1_plays_63 : decode cX1_plays 63 = .ok (.iload 4, 2) := by decide +kernel
theorem dX1_plays_65 : decode cX1_plays 65 = .ok (.iload_n 1, 1) := by decide +kernel
theorem dX1_plays_66 : decode cX1_plays 66 = .ok (.iload 5, 2) := by decide +kernel
theorem dX1_plays_68 : decode cX1_plays 68 = .ok (.invokevirtual 148, 3) := by decide +kernel
theorem dX1_plays_71 : decode cX1_plays 71 = .ok (.ireturn, 1) := by decide +kernel
theorem dX1_plays_72 : decode cX1_plays 72 = .ok (.iinc 3 1, 3) := by decide +kernel
theorem dX1_plays_75 : decode cX1_plays 75 = .ok (.goto (-66), 3) := by decide +kernel
theorem dX1_plays_78 : decode cX1_plays 78 = .ok (.iconst 0, 1) := by decide +kernel
theorem dX1_plays_79 : decode cX1_plays 79 = .ok (.ireturn, 1) := by decide +kernel
theorem dX1_stays_0 : decode cX1_stays 0 = .ok (.aload_n 0, 1) := by decide +kernel
theorem dX1_stays_1 : decode cX1_stays 1 = .ok (.getfield 30, 3) := by decide +kernel
theorem dX1_stays_4 : decode cX1_stays 4 = .ok (.getfield 93, 3) := by decide +kernel
theorem dX1_stays_7 : decode cX1_stays 7 = .ok (.iconst 1, 1) := by decide +kernel
theorem dX1_stays_8 : decode cX1_stays 8 = .ok (.iaload, 1) := by decide +kernel
theorem dX1_stays_9 : decode cX1_stays 9 = .ok (.istore_n 3, 1) := by decide +kernel
theorem dX1_stays_10 : decode cX1_stays 10 = .ok (.iload_n 3, 1) := by decide +kernel
theorem dX1_stays_11 : decode cX1_stays 11 = .ok (.aload_n 0, 1) := by decide +kernel
theorem dX1_stays_12 : decode cX1_stays 12 = .ok (.iload_n 1, 1) := by decide +kernel
theorem dX1_stays_13 : decode cX1_stays 13 = .ok (.iconst 1, 1) := by decide +kernel
theorem dX1_stays_14 : decode cX1_stays 14 = .ok (.iadd, 1) := by decide +kernel
theorem dX1_stays_15 : decode cX1_stays 15 = .ok (.iload_n 2, 1) := by decide +kernel
theorem dX1_stays_16 : decode cX1_stays 16 = .ok (.invokevirtual 60, 3) := by decide +kernel
theorem dX1_stays_19 : decode cX1_stays 19 = .ok (.iadd, 1) := by decide +kernel
theorem dX1_stays_20 : decode cX1_stays 20 = .ok (.aload_n 0, 1) := by decide +kernel
theorem dX1_stays_21 : decode cX1_stays 21 = .ok (.iload_n 1, 1) := by decide +kernel
theorem dX1_stays_22 : decode cX1_stays 22 = .ok (.iload_n 2, 1) := by decide +kernel
theorem dX1_stays_23 : decode cX1_stays 23 = .ok (.invokevirtual 60, 3) := by decide +kernel
theorem dX1_stays_26 : decode cX1_stays 26 = .ok (.if_icmp .eq 5, 3) := by decide +kernel
theorem dX1_stays_29 : decode cX1_stays 29 = .ok (.iconst 0, 1) := by decide +kernel
theorem dX1_stays_30 : decode cX1_stays 30 = .ok (.ireturn, 1) := by decide +kernel
theorem dX1_stays_31 : decode cX1_stays 31 = .ok (.aload_n 0, 1) := by decide +kernel
theorem dX1_stays_32 : decode cX1_stays 32 = .ok (.getfield 18, 3) := by decide +kernel
theorem dX1_stays_35 : decode cX1_stays 35 = .ok (.iload_n 1, 1) := by decide +kernel
theorem dX1_stays_36 : decode cX1_stays 36 = .ok (.iconst (-1), 1) := by decide +kernel
theorem dX1_stays_37 : decode cX1_stays 37 = .ok (.iastore, 1) := by decide +kernel
theorem dX1_stays_38 : decode cX1_stays 38 = .ok (.aload_n 0, 1) := by decide +kernel
theorem dX1_stays_39 : decode cX1_stays 39 = .ok (.iconst 1, 1) := by decide +kernel
theorem dX1_stays_40 : decode cX1_stays 40 = .ok (.iload_n 2, 1) := by decide +kernel
theorem dX1_stays_41 : decode cX1_stays 41 = .ok (.iload_n 1, 1) := by decide +kernel
theorem dX1_stays_42 : decode cX1_stays 42 = .ok (.iload_n 3, 1) := by decide +kernel
theorem dX1_stays_43 : decode cX1_stays 43 = .ok (.invokevirtual 152, 3) := by decide +kernel
theorem dX1_stays_46 : decode cX1_stays 46 = .ok (.ireturn, 1) := by decide +kernel
theorem dX1_passes_0 : decode cX1_passes 0 = .ok (.aload_n 0, 1) := by decide +kernel
theorem dX1_passes_1 : decode cX1_passes 1 = .ok (.getfield 34, 3) := by decide +kernel
theorem dX1_passes_4 : decode cX1_passes 4 = .ok (.iload_n 2, 1) := by decide +kernel
theorem dX1_passes_5 : decode cX1_passes 5 = .ok (.invokevirtual 142, 3) := by decide +kernel
theorem dX1_passes_8 : decode cX1_passes 8 = .ok (.istore_n 3, 1) := by decide +kernel
theorem dX1_passes_9 : decode cX1_passes 9 = .ok (.iload_n 3, 1) := by decide +kernel
theorem dX1_passes_10 : decode cX1_passes 10 = .ok (.aload_n 0, 1) := by decide +kernel
theorem dX1_passes_11 : decode cX1_passes 11 = .ok (.getfield 34, 3) := by decide +kernel
theorem dX1_passes_14 : decode cX1_passes 14 = .ok (.iload_n 2, 1) := by decide +kernel
theorem dX1_passes_15 : decode cX1_passes 15 = .ok (.invokevirtual 145, 3) := by decide +kernel
theorem dX1_passes_18 : decode cX1_passes 18 = .ok (.if_icmp .ge 68, 3) := by decide +kernel
theorem dX1_passes_21 : decode cX1_passes 21 = .ok (.aload_n 0, 1) := by decide +kernel
theorem dX1_passes_22 : decode cX1_passes 22 = .ok (.getfield 34, 3) := by decide +kernel
theorem dX1_passes_25 : decode cX1_passes 25 = .ok (.getfield 84, 3) := by decide +kernel
theorem dX1_passes_28 : decode cX1_passes 28 = .ok (.iload_n 3, 1) := by decide +kernel
theorem dX1_passes_29 : decode cX1_passes 29 = .ok (.iaload, 1) := by decide +kernel
theorem dX1_passes_30 : decode cX1_passes 30 = .ok (.istore 4, 2) := by decide +kernel
theorem dX1_passes_32 : decode cX1_passes 32 = .ok (.aload_n 0, 1) := by decide +kernel
theorem dX1_passes_33 : decode cX1_passes 33 = .ok (.iload_n 3, 1) := by decide +kernel
theorem dX1_passes_34 : decode cX1_passes 34 = .ok (.invokevirtual 118, 3) := by decide +kernel
theorem dX1_passes_37 : decode cX1_passes 37 = .ok (.istore 5, 2) := by decide +kernel
theorem dX1_passes_39 : decode cX1_passes 39 = .ok (.iload 5, 2) := by decide +kernel
theorem dX1_passes_41 : decode cX1_passes 41 = .ok (.aload_n 0, 1) := by decide +kernel
theorem dX1_passes_42 : decode cX1_passes 42 = .ok (.iload_n 1, 1) := by decide +kernel
theorem dX1_passes_43 : decode cX1_passes 43 = .ok (.iload 4, 2) := by decide +kernel
theorem dX1_passes_45 : decode cX1_passes 45 = .ok (.invokevirtual 60, 3) := by decide +kernel
theorem dX1_passes_48 : decode cX1_passes 48 = .ok (.iadd, 1) := by decide +kernel
theorem dX1_passes_49 : decode cX1_passes 49 = .ok (.aload_n 0, 1) := by decide +kernel
theorem dX1_passes_50 : decode cX1_passes 50 = .ok (.iload_n 1, 1) := by decide +kernel
theorem dX1_passes_51 : decode cX1_passes 51 = .ok (.iload_n 2, 1) := by decide +kernel
theorem dX1_passes_52 : decode cX1_passes 52 = .ok (.invokevirtual 60, 3) := by decide +kernel
theorem dX1_passes_55 : decode cX1_passes 55 = .ok (.if_icmp .ne 25, 3) := by decide +kernel
theorem dX1_passes_58 : decode cX1_passes 58 = .ok (.aload_n 0, 1) := by decide +kernel
theorem dX1_passes_59 : decode cX1_passes 59 = .ok (.getfield 27, 3) := by decide +kernel
theorem dX1_passes_62 : decode cX1_passes 62 = .ok (.iload 4, 2) := by decide +kernel
theorem dX1_passes_64 : decode cX1_passes 64 = .ok (.dup2, 1) := by decide +kernel
theorem dX1_passes_65 : decode cX1_passes 65 = .ok (.iaload, 1) := by decide +kernel
theorem dX1_passes_66 : decode cX1_passes 66 = .ok (.iconst 1, 1) := by decide +kernel
theorem dX1_passes_67 : decode cX1_passes 67 = .ok (.iadd, 1) := by decide +kernel
theorem dX1_passes_68 : decode cX1_passes 68 = .ok (.iastore, 1) := by decide +kernel
theorem dX1_passes_69 : decode cX1_passes 69 = .ok (.aload_n 0, 1) := by decide +kernel
theorem dX1_passes_70 : decode cX1_passes 70 = .ok (.iconst 2, 1) := by decide +kernel
theorem dX1_passes_71 : decode cX1_passes 71 = .ok (.iload 4, 2) := by decide +kernel
theorem dX1_passes_73 : decode cX1_passes 73 = .ok (.iconst (-1), 1) := by decide +kernel
theorem dX1_passes_74 : decode cX1_passes 74 = .ok (.iload 5, 2) := by decide +kernel
theorem dX1_passes_76 : decode cX1_passes 76 = .ok (.invokevirtual 152, 3) := by decide +kernel
theorem dX1_passes_79 : decode cX1_passes 79 = .ok (.ireturn, 1) := by decide +kernel
theorem dX1_passes_80 : decode cX1_passes 80 = .ok (.iinc 3 1, 3) := by decide +kernel
theorem dX1_passes_83 : decode cX1_passes 83 = .ok (.goto (-74), 3) := by decide +kernel
theorem dX1_passes_86 : decode cX1_passes 86 = .ok (.iconst 0, 1) := by decide +kernel
theorem dX1_passes_87 : decode cX1_passes 87 = .ok (.ireturn, 1) := by decide +kernel
theorem dX1_leaps_0 : decode cX1_leaps 0 = .ok (.aload_n 0, 1) := by decide +kernel
theorem dX1_leaps_1 : decode cX1_leaps 1 = .ok (.getfield 30, 3) := by decide +kernel
theorem dX1_leaps_4 : decode cX1_leaps 4 = .ok (.invokevirtual 97, 3) := by decide +kernel
theorem dX1_leaps_7 : decode cX1_leaps 7 = .ok (.istore_n 3, 1) := by decide +kernel
theorem dX1_leaps_8 : decode cX1_leaps 8 = .ok (.iload_n 3, 1) := by decide +kernel
theorem dX1_leaps_9 : decode cX1_leaps 9 = .ok (.aload_n 0, 1) := by decide +kernel
theorem dX1_leaps_10 : decode cX1_leaps 10 = .ok (.getfield 30, 3) := by decide +kernel
theorem dX1_leaps_13 : decode cX1_leaps 13 = .ok (.invokevirtual 101, 3) := by decide +kernel
theorem dX1_leaps_16 : decode cX1_leaps 16 = .ok (.if_icmp .gt 47, 3) := by decide +kernel
theorem dX1_leaps_19 : decode cX1_leaps 19 = .ok (.aload_n 0, 1) := by decide +kernel
theorem dX1_leaps_20 : decode cX1_leaps 20 = .ok (.iload_n 3, 1) := by decide +kernel
theorem dX1_leaps_21 : decode cX1_leaps 21 = .ok (.iload_n 1, 1) := by decide +kernel
theorem dX1_leaps_22 : decode cX1_leaps 22 = .ok (.invokevirtual 104, 3) := by decide +kernel
theorem dX1_leaps_25 : decode cX1_leaps 25 = .ok (.istore 4, 2) := by decide +kernel
theorem dX1_leaps_27 : decode cX1_leaps 27 = .ok (.iload 4, 2) := by decide +kernel
theorem dX1_leaps_29 : decode cX1_leaps 29 = .ok (.aload_n 0, 1) := by decide +kernel
theorem dX1_leaps_30 : decode cX1_leaps 30 = .ok (.iload_n 1, 1) := by decide +kernel
theorem dX1_leaps_31 : decode cX1_leaps 31 = .ok (.iconst 1, 1) := by decide +kernel
theorem dX1_leaps_32 : decode cX1_leaps 32 = .ok (.iadd, 1) := by decide +kernel
theorem dX1_leaps_33 : decode cX1_leaps 33 = .ok (.iload_n 3, 1) := by decide +kernel
theorem dX1_leaps_34 : decode cX1_leaps 34 = .ok (.invokevirtual 60, 3) := by decide +kernel
theorem dX1_leaps_37 : decode cX1_leaps 37 = .ok (.iadd, 1) := by decide +kernel
theorem dX1_leaps_38 : decode cX1_leaps 38 = .ok (.aload_n 0, 1) := by decide +kernel
theorem dX1_leaps_39 : decode cX1_leaps 39 = .ok (.iload_n 1, 1) := by decide +kernel
theorem dX1_leaps_40 : decode cX1_leaps 40 = .ok (.iload_n 2, 1) := by decide +kernel
theorem dX1_leaps_41 : decode cX1_leaps 41 = .ok (.invokevirtual 60, 3) := by decide +kernel
theorem dX1_leaps_44 : decode cX1_leaps 44 = .ok (.if_icmp .ne 13, 3) := by decide +kernel
theorem dX1_leaps_47 : decode cX1_leaps 47 = .ok (.aload_n 0, 1) := by decide +kernel
theorem dX1_leaps_48 : decode cX1_leaps 48 = .ok (.iconst 3, 1) := by decide +kernel
theorem dX1_leaps_49 : decode cX1_leaps 49 = .ok (.iload_n 3, 1) := by decide +kernel
theorem dX1_leaps_50 : decode cX1_leaps 50 = .ok (.iload_n 1, 1) := by decide +kernel
theorem dX1_leaps_51 : decode cX1_leaps 51 = .ok (.iload 4, 2) := by decide +kernel
theorem dX1_leaps_53 : decode cX1_leaps 53 = .ok (.invokevirtual 148, 3) := by decide +kernel
theorem dX1_leaps_56 : decode cX1_leaps 56 = .ok (.ireturn, 1) := by decide +kernel
theorem dX1_leaps_57 : decode cX1_leaps 57 = .ok (.iinc 3 1, 3) := by decide +kernel
theorem dX1_leaps_60 : decode cX1_leaps 60 = .ok (.goto (-52), 3) := by decide +kernel
theorem dX1_leaps_63 : decode cX1_leaps 63 = .ok (.iconst 0, 1) := by decide +kernel
theorem dX1_leaps_64 : decode cX1_leaps 64 = .ok (.ireturn, 1) := by decide +kernel
theorem dX1_match_0 : decode cX1_match 0 = .ok (.aload_n 0, 1) := by decide +kernel
theorem dX1_match_1 : decode cX1_match 1 = .ok (.getfield 18, 3) := by decide +kernel
theorem dX1_match_4 : decode cX1_match 4 = .ok (.iload_n 3, 1) := by decide +kernel
theorem dX1_match_5 : decode cX1_match 5 = .ok (.iload_n 2, 1) := by decide +kernel
theorem dX1_match_6 : decode cX1_match 6 = .ok (.iastore, 1) := by decide +kernel
theorem dX1_match_7 : decode cX1_match 7 = .ok (.aload_n 0, 1) := by decide +kernel
theorem dX1_match_8 : decode cX1_match 8 = .ok (.getfield 21, 3) := by decide +kernel
theorem dX1_match_11 : decode cX1_match 11 = .ok (.iload_n 2, 1) := by decide +kernel
theorem dX1_match_12 : decode cX1_match 12 = .ok (.dup2, 1) := by decide +kernel
theorem dX1_match_13 : decode cX1_match 13 = .ok (.iaload, 1) := by decide +kernel
theorem dX1_match_14 : decode cX1_match 14 = .ok (.iconst 1, 1) := by decide +kernel
theorem dX1_match_15 : decode cX1_match 15 = .ok (.iadd, 1) := by decide +kernel
theorem dX1_match_16 : decode cX1_match 16 = .ok (.iastore, 1) := by decide +kernel
theorem dX1_match_17 : decode cX1_match 17 = .ok (.aload_n 0, 1) := by decide +kernel
theorem dX1_match_18 : decode cX1_match 18 = .ok (.getfield 30, 3) := by decide +kernel
theorem dX1_match_21 : decode cX1_match 21 = .ok (.getfield 155, 3) := by decide +kernel
theorem dX1_match_24 : decode cX1_match 24 = .ok (.iload_n 2, 1) := by decide +kernel
theorem dX1_match_25 : decode cX1_match 25 = .ok (.iaload, 1) := by decide +kernel
theorem dX1_match_26 : decode cX1_match 26 = .ok (.aload_n 0, 1) := by decide +kernel
theorem dX1_match_27 : decode cX1_match 27 = .ok (.getfield 38, 3) := by decide +kernel
theorem dX1_match_30 : decode cX1_match 30 = .ok (.getfield 87, 3) := by decide +kernel
theorem dX1_match_33 : decode cX1_match 33 = .ok (.iload_n 3, 1) := by decide +kernel
theorem dX1_match_34 : decode cX1_match 34 = .ok (.iaload, 1) := by decide +kernel
theorem dX1_match_35 : decode cX1_match 35 = .ok (.if_icmp .ne 13, 3) := by decide +kernel
theorem dX1_match_38 : decode cX1_match 38 = .ok (.aload_n 0, 1) := by decide +kernel
theorem dX1_match_39 : decode cX1_match 39 = .ok (.getfield 24, 3) := by decide +kernel
theorem dX1_match_42 : decode cX1_match 42 = .ok (.iload_n 2, 1) := by decide +kernel
theorem dX1_match_43 : decode cX1_match 43 = .ok (.dup2, 1) := by decide +kernel
theorem dX1_match_44 : decode cX1_match 44 = .ok (.iaload, 1) := by decide +kernel
theorem dX1_match_45 : decode cX1_match 45 = .ok (.iconst 1, 1) := by decide +kernel
theorem dX1_match_46 : decode cX1_match 46 = .ok (.iadd, 1) := by decide +kernel
theorem dX1_match_47 : decode cX1_match 47 = .ok (.iastore, 1) := by decide +kernel
theorem dX1_match_48 : decode cX1_match 48 = .ok (.aload_n 0, 1) := by decide +kernel
theorem dX1_match_49 : decode cX1_match 49 = .ok (.iload_n 1, 1) := by decide +kernel
theorem dX1_match_50 : decode cX1_match 50 = .ok (.iload_n 2, 1) := by decide +kernel
theorem dX1_match_51 : decode cX1_match 51 = .ok (.iload_n 3, 1) := by decide +kernel
theorem dX1_match_52 : decode cX1_match 52 = .ok (.iload 4, 2) := by decide +kernel
theorem dX1_match_54 : decode cX1_match 54 = .ok (.invokevirtual 152, 3) := by decide +kernel
theorem dX1_match_57 : decode cX1_match 57 = .ok (.ireturn, 1) := by decide +kernel
theorem dX1_keepStep_0 : decode cX1_keepStep 0 = .ok (.aload_n 0, 1) := by decide +kernel
theorem dX1_keepStep_1 : decode cX1_keepStep 1 = .ok (.getfield 141, 3) := by decide +kernel
theorem dX1_keepStep_4 : decode cX1_keepStep 4 = .ok (.sipush 7320, 3) := by decide +kernel
theorem dX1_keepStep_7 : decode cX1_keepStep 7 = .ok (.if_icmp .lt 5, 3) := by decide +kernel
theorem dX1_keepStep_10 : decode cX1_keepStep 10 = .ok (.iconst 0, 1) := by decide +kernel
theorem dX1_keepStep_11 : decode cX1_keepStep 11 = .ok (.ireturn, 1) := by decide +kernel
theorem dX1_keepStep_12 : decode cX1_keepStep 12 = .ok (.aload_n 0, 1) := by decide +kernel
theorem dX1_keepStep_13 : decode cX1_keepStep 13 = .ok (.getfield 15, 3) := by decide +kernel
theorem dX1_keepStep_16 : decode cX1_keepStep 16 = .ok (.aload_n 0, 1) := by decide +kernel
theorem dX1_keepStep_17 : decode cX1_keepStep 17 = .ok (.getfield 141, 3) := by decide +kernel
theorem dX1_keepStep_20 : decode cX1_keepStep 20 = .ok (.iload 4, 2) := by decide +kernel
theorem dX1_keepStep_22 : decode cX1_keepStep 22 = .ok (.bipush 15, 2) := by decide +kernel
theorem dX1_keepStep_24 : decode cX1_keepStep 24 = .ok (.ishl, 1) := by decide +kernel
theorem dX1_keepStep_25 : decode cX1_keepStep 25 = .ok (.iload_n 1, 1) := by decide +kernel
theorem dX1_keepStep_26 : decode cX1_keepStep 26 = .ok (.bipush 13, 2) := by decide +kernel
theorem dX1_keepStep_28 : decode cX1_keepStep 28 = .ok (.ishl, 1) := by decide +kernel
theorem dX1_keepStep_29 : decode cX1_keepStep 29 = .ok (.ior, 1) := by decide +kernel
theorem dX1_keepStep_30 : decode cX1_keepStep 30 = .ok (.iload_n 3, 1) := by decide +kernel
theorem dX1_keepStep_31 : decode cX1_keepStep 31 = .ok (.iconst 1, 1) := by decide +kernel
theorem dX1_keepStep_32 : decode cX1_keepStep 32 = .ok (.iadd, 1) := by decide +kernel
theorem dX1_keepStep_33 : decode cX1_keepStep 33 = .ok (.bipush 6, 2) := by decide +kernel
theorem dX1_keepStep_35 : decode cX1_keepStep 35 = .ok (.ishl, 1) := by decide +kernel
theorem dX1_keepStep_36 : decode cX1_keepStep 36 = .ok (.ior, 1) := by decide +kernel
theorem dX1_keepStep_37 : decode cX1_keepStep 37 = .ok (.iload_n 2, 1) := by decide +kernel
theorem dX1_keepStep_38 : decode cX1_keepStep 38 = .ok (.iconst 1, 1) := by decide +kernel
theorem dX1_keepStep_39 : decode cX1_keepStep 39 = .ok (.iadd, 1) := by decide +kernel
theorem dX1_keepStep_40 : decode cX1_keepStep 40 = .ok (.ior, 1) := by decide +kernel
theorem dX1_keepStep_41 : decode cX1_keepStep 41 = .ok (.iastore, 1) := by decide +kernel
theorem dX1_keepStep_42 : decode cX1_keepStep 42 = .ok (.aload_n 0, 1) := by decide +kernel
theorem dX1_keepStep_43 : decode cX1_keepStep 43 = .ok (.dup, 1) := by decide +kernel
theorem dX1_keepStep_44 : decode cX1_keepStep 44 = .ok (.getfield 141, 3) := by decide +kernel
theorem dX1_keepStep_47 : decode cX1_keepStep 47 = .ok (.iconst 1, 1) := by decide +kernel
theorem dX1_keepStep_48 : decode cX1_keepStep 48 = .ok (.iadd, 1) := by decide +kernel
theorem dX1_keepStep_49 : decode cX1_keepStep 49 = .ok (.putfield 141, 3) := by decide +kernel
theorem dX1_keepStep_52 : decode cX1_keepStep 52 = .ok (.iconst 1, 1) := by decide +kernel
theorem dX1_keepStep_53 : decode cX1_keepStep 53 = .ok (.ireturn, 1) := by decide +kernel
theorem dX2_init_0 : decode cX2_init 0 = .ok (.aload_n 0, 1) := by decide +kernel
theorem dX2_init_1 : decode cX2_init 1 = .ok (.invokespecial 3, 3) := by decide +kernel
theorem dX2_init_4 : decode cX2_init 4 = .ok (.aload_n 0, 1) := by decide +kernel
theorem dX2_init_5 : decode cX2_init 5 = .ok (.bipush 60, 2) := by decide +kernel
theorem dX2_init_7 : decode cX2_init 7 = .ok (.newarray .int, 2) := by decide +kernel
theorem dX2_init_9 : decode cX2_init 9 = .ok (.putfield 9, 3) := by decide +kernel
theorem dX2_init_12 : decode cX2_init 12 = .ok (.aload_n 0, 1) := by decide +kernel
theorem dX2_init_13 : decode cX2_init 13 = .ok (.bipush 60, 2) := by decide +kernel
theorem dX2_init_15 : decode cX2_init 15 = .ok (.newarray .int, 2) := by decide +kernel
theorem dX2_init_17 : decode cX2_init 17 = .ok (.putfield 15, 3) := by decide +kernel
theorem dX2_init_20 : decode cX2_init 20 = .ok (.return_, 1) := by decide +kernel
theorem dX2_open_0 : decode cX2_open 0 = .ok (.aload_n 0, 1) := by decide +kernel
theorem dX2_open_1 : decode cX2_open 1 = .ok (.getfield 9, 3) := by decide +kernel
theorem dX2_open_4 : decode cX2_open 4 = .ok (.iload_n 1, 1) := by decide +kernel
theorem dX2_open_5 : decode cX2_open 5 = .ok (.iconst 0, 1) := by decide +kernel
theorem dX2_open_6 : decode cX2_open 6 = .ok (.iastore, 1) := by decide +kernel
theorem dX2_open_7 : decode cX2_open 7 = .ok (.aload_n 0, 1) := by decide +kernel
theorem dX2_open_8 : decode cX2_open 8 = .ok (.getfield 15, 3) := by decide +kernel
theorem dX2_open_11 : decode cX2_open 11 = .ok (.iload_n 1, 1) := by decide +kernel
theorem dX2_open_12 : decode cX2_open 12 = .ok (.iconst 0, 1) := by decide +kernel
theorem dX2_open_13 : decode cX2_open 13 = .ok (.iastore, 1) := by decide +kernel
theorem dX2_open_14 : decode cX2_open 14 = .ok (.return_, 1) := by decide +kernel
theorem dX2_raise_0 : decode cX2_raise 0 = .ok (.aload_n 0, 1) := by decide +kernel
theorem dX2_raise_1 : decode cX2_raise 1 = .ok (.iload_n 1, 1) := by decide +kernel
theorem dX2_raise_2 : decode cX2_raise 2 = .ok (.iconst 5, 1) := by decide +kernel
theorem dX2_raise_3 : decode cX2_raise 3 = .ok (.aload_n 0, 1) := by decide +kernel
theorem dX2_raise_4 : decode cX2_raise 4 = .ok (.getfield 9, 3) := by decide +kernel
theorem dX2_raise_7 : decode cX2_raise 7 = .ok (.iload_n 1, 1) := by decide +kernel
theorem dX2_raise_8 : decode cX2_raise 8 = .ok (.iaload, 1) := by decide +kernel
theorem dX2_raise_9 : decode cX2_raise 9 = .ok (.iconst 1, 1) := by decide +kernel
theorem dX2_raise_10 : decode cX2_raise 10 = .ok (.iadd, 1) := by decide +kernel
theorem dX2_raise_11 : decode cX2_raise 11 = .ok (.invokestatic 18, 3) := by decide +kernel
theorem dX2_raise_14 : decode cX2_raise 14 = .ok (.invokevirtual 24, 3) := by decide +kernel
theorem dX2_raise_17 : decode cX2_raise 17 = .ok (.return_, 1) := by decide +kernel
theorem dX2_drop_0 : decode cX2_drop 0 = .ok (.aload_n 0, 1) := by decide +kernel
theorem dX2_drop_1 : decode cX2_drop 1 = .ok (.iload_n 1, 1) := by decide +kernel
theorem dX2_drop_2 : decode cX2_drop 2 = .ok (.iconst 0, 1) := by decide +kernel
theorem dX2_drop_3 : decode cX2_drop 3 = .ok (.invokevirtual 24, 3) := by decide +kernel
theorem dX2_drop_6 : decode cX2_drop 6 = .ok (.return_, 1) := by decide +kernel
theorem dX2_put_0 : decode cX2_put 0 = .ok (.aload_n 0, 1) := by decide +kernel
theorem dX2_put_1 : decode cX2_put 1 = .ok (.getfield 9, 3) := by decide +kernel
theorem dX2_put_4 : decode cX2_put 4 = .ok (.iload_n 1, 1) := by decide +kernel
theorem dX2_put_5 : decode cX2_put 5 = .ok (.iload_n 2, 1) := by decide +kernel
theorem dX2_put_6 : decode cX2_put 6 = .ok (.iastore, 1) := by decide +kernel
theorem dX2_put_7 : decode cX2_put 7 = .ok (.aload_n 0, 1) := by decide +kernel
theorem dX2_put_8 : decode cX2_put 8 = .ok (.getfield 15, 3) := by decide +kernel
theorem dX2_put_11 : decode cX2_put 11 = .ok (.iload_n 1, 1) := by decide +kernel
theorem dX2_put_12 : decode cX2_put 12 = .ok (.aload_n 0, 1) := by decide +kernel
theorem dX2_put_13 : decode cX2_put 13 = .ok (.getfield 28, 3) := by decide +kernel
theorem dX2_put_16 : decode cX2_put 16 = .ok (.iconst 1, 1) := by decide +kernel
theorem dX2_put_17 : decode cX2_put 17 = .ok (.iload_n 2, 1) := by decide +kernel
theorem dX2_put_18 : decode cX2_put 18 = .ok (.ishl, 1) := by decide +kernel
theorem dX2_put_19 : decode cX2_put 19 = .ok (.iadd, 1) := by decide +kernel
theorem dX2_put_20 : decode cX2_put 20 = .ok (.iastore, 1) := by decide +kernel
theorem dX2_put_21 : decode cX2_put 21 = .ok (.return_, 1) := by decide +kernel
theorem dX2_countDue_0 : decode cX2_countDue 0 = .ok (.iconst 0, 1) := by decide +kernel
theorem dX2_countDue_1 : decode cX2_countDue 1 = .ok (.istore_n 2, 1) := by decide +kernel
theorem dX2_countDue_2 : decode cX2_countDue 2 = .ok (.iconst 0, 1) := by decide +kernel
theorem dX2_countDue_3 : decode cX2_countDue 3 = .ok (.istore_n 3, 1) := by decide +kernel
theorem dX2_countDue_4 : decode cX2_countDue 4 = .ok (.iload_n 3, 1) := by decide +kernel
theorem dX2_countDue_5 : decode cX2_countDue 5 = .ok (.iload_n 1, 1) := by decide +kernel
theorem dX2_countDue_6 : decode cX2_countDue 6 = .ok (.if_icmp .ge 25, 3) := by decide +kernel
theorem dX2_countDue_9 : decode cX2_countDue 9 = .ok (.aload_n 0, 1) := by decide +kernel
theorem dX2_countDue_10 : decode cX2_countDue 10 = .ok (.getfield 15, 3) := by decide +kernel
theorem dX2_countDue_13 : decode cX2_countDue 13 = .ok (.iload_n 3, 1) := by decide +kernel
theorem dX2_countDue_14 : decode cX2_countDue 14 = .ok (.iaload, 1) := by decide +kernel
theorem dX2_countDue_15 : decode cX2_countDue 15 = .ok (.aload_n 0, 1) := by decide +kernel
theorem dX2_countDue_16 : decode cX2_countDue 16 = .ok (.getfield 28, 3) := by decide +kernel
theorem dX2_countDue_19 : decode cX2_countDue 19 = .ok (.if_icmp .gt 6, 3) := by decide +kernel
theorem dX2_countDue_22 : decode cX2_countDue 22 = .ok (.iinc 2 1, 3) := by decide +kernel
theorem dX2_countDue_25 : decode cX2_countDue 25 = .ok (.iinc 3 1, 3) := by decide +kernel
theorem dX2_countDue_28 : decode cX2_countDue 28 = .ok (.goto (-24), 3) := by decide +kernel
theorem dX2_countDue_31 : decode cX2_countDue 31 = .ok (.iload_n 2, 1) := by decide +kernel
theorem dX2_countDue_32 : decode cX2_countDue 32 = .ok (.ireturn, 1) := by decide +kernel
theorem dX2_dueAt_0 : decode cX2_dueAt 0 = .ok (.iload_n 1, 1) := by decide +kernel
theorem dX2_dueAt_1 : decode cX2_dueAt 1 = .ok (.istore_n 3, 1) := by decide +kernel
theorem dX2_dueAt_2 : decode cX2_dueAt 2 = .ok (.iconst 0, 1) := by decide +kernel
theorem dX2_dueAt_3 : decode cX2_dueAt 3 = .ok (.istore 4, 2) := by decide +kernel
theorem dX2_dueAt_5 : decode cX2_dueAt 5 = .ok (.iload 4, 2) := by decide +kernel
theorem dX2_dueAt_7 : decode cX2_dueAt 7 = .ok (.iconst 5, 1) := by decide +kernel
theorem dX2_dueAt_8 : decode cX2_dueAt 8 = .ok (.if_icmp .gt 63, 3) := by decide +kernel
theorem dX2_dueAt_11 : decode cX2_dueAt 11 = .ok (.iconst 0, 1) := by decide +kernel
theorem dX2_dueAt_12 : decode cX2_dueAt 12 = .ok (.istore 5, 2) := by decide +kernel
theorem dX2_dueAt_14 : decode cX2_dueAt 14 = .ok (.iload 5, 2) := by decide +kernel
theorem dX2_dueAt_16 : decode cX2_dueAt 16 = .ok (.iload_n 2, 1) := by decide +kernel
theorem dX2_dueAt_17 : decode cX2_dueAt 17 = .ok (.if_icmp .ge 48, 3) := by decide +kernel
theorem dX2_dueAt_20 : decode cX2_dueAt 20 = .ok (.aload_n 0, 1) := by decide +kernel
theorem dX2_dueAt_21 : decode cX2_dueAt 21 = .ok (.getfield 9, 3) := by decide +kernel
theorem dX2_dueAt_24 : decode cX2_dueAt 24 = .ok (.iload 5, 2) := by decide +kernel
theorem dX2_dueAt_26 : decode cX2_dueAt 26 = .ok (.iaload, 1) := by decide +kernel
theorem dX2_dueAt_27 : decode cX2_dueAt 27 = .ok (.iload 4, 2) := by decide +kernel
theorem dX2_dueAt_29 : decode cX2_dueAt 29 = .ok (.if_icmp .ne 30, 3) := by decide +kernel
theorem dX2_dueAt_32 : decode cX2_dueAt 32 = .ok (.aload_n 0, 1) := by decide +kernel
theorem dX2_dueAt_33 : decode cX2_dueAt 33 = .ok (.getfield 15, 3) := by decide +kernel
theorem dX2_dueAt_36 : decode cX2_dueAt 36 = .ok (.iload 5, 2) := by decide +kernel
theorem dX2_dueAt_38 : decode cX2_dueAt 38 = .ok (.iaload, 1) := by decide +kernel
theorem dX2_dueAt_39 : decode cX2_dueAt 39 = .ok (.aload_n 0, 1) := by decide +kernel
theorem dX2_dueAt_40 : decode cX2_dueAt 40 = .ok (.getfield 28, 3) := by decide +kernel
theorem dX2_dueAt_43 : decode cX2_dueAt 43 = .ok (.if_icmp .le 6, 3) := by decide +kernel
theorem dX2_dueAt_46 : decode cX2_dueAt 46 = .ok (.goto 13, 3) := by decide +kernel
theorem dX2_dueAt_49 : decode cX2_dueAt 49 = .ok (.iload_n 3, 1) := by decide +kernel
theorem dX2_dueAt_50 : decode cX2_dueAt 50 = .ok (.ifCond .ne 6, 3) := by decide +kernel
theorem dX2_dueAt_53 : decode cX2_dueAt 53 = .ok (.iload 5, 2) := by decide +kernel
theorem dX2_dueAt_55 : decode cX2_dueAt 55 = .ok (.ireturn, 1) := by decide +kernel
theorem dX2_dueAt_56 : decode cX2_dueAt 56 = .ok (.iinc 3 (-1), 3) := by decide +kernel
theorem dX2_dueAt_59 : decode cX2_dueAt 59 = .ok (.iinc 5 1, 3) := by decide +kernel
theorem dX2_dueAt_62 : decode cX2_dueAt 62 = .ok (.goto (-48), 3) := by decide +kernel
theorem dX2_dueAt_65 : decode cX2_dueAt 65 = .ok (.iinc 4 1, 3) := by decide +kernel
theorem dX2_dueAt_68 : decode cX2_dueAt 68 = .ok (.goto (-63), 3) := by decide +kernel
theorem dX2_dueAt_71 : decode cX2_dueAt 71 = .ok (.iconst (-1), 1) := by decide +kernel
theorem dX2_dueAt_72 : decode cX2_dueAt 72 = .ok (.ireturn, 1) := by decide +kernel
theorem dX3_init_0 : decode cX3_init 0 = .ok (.aload_n 0, 1) := by decide +kernel
theorem dX3_init_1 : decode cX3_init 1 = .ok (.invokespecial 3, 3) := by decide +kernel
theorem dX3_init_4 : decode cX3_init 4 = .ok (.aload_n 0, 1) := by decide +kernel
theorem dX3_init_5 : decode cX3_init 5 = .ok (.sipush 7381, 3) := by decide +kernel
theorem dX3_init_8 : decode cX3_init 8 = .ok (.newarray .int, 2) := by decide +kernel
theorem dX3_init_10 : decode cX3_init 10 = .ok (.putfield 9, 3) := by decide +kernel
theorem dX3_init_13 : decode cX3_init 13 = .ok (.aload_n 0, 1) := by decide +kernel
theorem dX3_init_14 : decode cX3_init 14 = .ok (.bipush 121, 2) := by decide +kernel
theorem dX3_init_16 : decode cX3_init 16 = .ok (.newarray .int, 2) := by decide +kernel
theorem dX3_init_18 : decode cX3_init 18 = .ok (.putfield 15, 3) := by decide +kernel
theorem dX3_init_21 : decode cX3_init 21 = .ok (.aload_n 0, 1) := by decide +kernel
theorem dX3_init_22 : decode cX3_init 22 = .ok (.bipush 61, 2) := by decide +kernel
theorem dX3_init_24 : decode cX3_init 24 = .ok (.newarray .int, 2) := by decide +kernel
theorem dX3_init_26 : decode cX3_init 26 = .ok (.putfield 18, 3) := by decide +kernel
theorem dX3_init_29 : decode cX3_init 29 = .ok (.aload_n 0, 1) := by decide +kernel
theorem dX3_init_30 : decode cX3_init 30 = .ok (.aload_n 1, 1) := by decide +kernel
theorem dX3_init_31 : decode cX3_init 31 = .ok (.putfield 21, 3) := by decide +kernel
theorem dX3_init_34 : decode cX3_init 34 = .ok (.aload_n 0, 1) := by decide +kernel
theorem dX3_init_35 : decode cX3_init 35 = .ok (.aload_n 2, 1) := by decide +kernel
theorem dX3_init_36 : decode cX3_init 36 = .ok (.putfield 25, 3) := by decide +kernel
theorem dX3_init_39 : decode cX3_init 39 = .ok (.aload_n 0, 1) := by decide +kernel
theorem dX3_init_40 : decode cX3_init 40 = .ok (.aload_n 3, 1) := by decide +kernel
theorem dX3_init_41 : decode cX3_init 41 = .ok (.putfield 29, 3) := by decide +kernel
theorem dX3_init_44 : decode cX3_init 44 = .ok (.aload_n 0, 1) := by decide +kernel
theorem dX3_init_45 : decode cX3_init 45 = .ok (.getfield 15, 3) := by decide +kernel
theorem dX3_init_48 : decode cX3_init 48 = .ok (.iconst 0, 1) := by decide +kernel
theorem dX3_init_49 : decode cX3_init 49 = .ok (.iconst (-1), 1) := by decide +kernel
theorem dX3_init_50 : decode cX3_init 50 = .ok (.iastore, 1) := by decide +kernel
theorem dX3_init_51 : decode cX3_init 51 = .ok (.iconst 0, 1) := by decide +kernel
theorem dX3_init_52 : decode cX3_init 52 = .ok (.istore 4, 2) := by decide +kernel
theorem dX3_init_54 : decode cX3_init 54 = .ok (.iload 4, 2) := by decide +kernel
theorem dX3_init_56 : decode cX3_init 56 = .ok (.bipush 61, 2) := by decide +kernel
theorem dX3_init_58 : decode cX3_init 58 = .ok (.if_icmp .ge 18, 3) := by decide +kernel
theorem dX3_init_61 : decode cX3_init 61 = .ok (.aload_n 0, 1) := by decide +kernel
theorem dX3_init_62 : decode cX3_init 62 = .ok (.getfield 9, 3) := by decide +kernel
theorem dX3_init_65 : decode cX3_init 65 = .ok (.iload 4, 2) := by decide +kernel
theorem dX3_init_67 : decode cX3_init 67 = .ok (.ldc 33, 2) := by decide +kernel
theorem dX3_init_69 : decode cX3_init 69 = .ok (.iastore, 1) := by decide +kernel
theorem dX3_init_70 : decode cX3_init 70 = .ok (.iinc 4 1, 3) := by decide +kernel
theorem dX3_init_73 : decode cX3_init 73 = .ok (.goto (-19), 3) := by decide +kernel
theorem dX3_init_76 : decode cX3_init 76 = .ok (.aload_n 0, 1) := by decide +kernel
theorem dX3_init_77 : decode cX3_init 77 = .ok (.getfield 9, 3) := by decide +kernel
theorem dX3_init_80 : decode cX3_init 80 = .ok (.iconst 0, 1) := by decide +kernel
theorem dX3_init_81 : decode cX3_init 81 = .ok (.iconst 0, 1) := by decide +kernel
theorem dX3_init_82 : decode cX3_init 82 = .ok (.iastore, 1) := by decide +kernel
theorem dX3_init_83 : decode cX3_init 83 = .ok (.return_, 1) := by decide +kernel
theorem dX3_placeNow_0 : decode cX3_placeNow 0 = .ok (.aload_n 0, 1) := by decide +kernel
theorem dX3_placeNow_1 : decode cX3_placeNow 1 = .ok (.getfield 15, 3) := by decide +kernel
theorem dX3_placeNow_4 : decode cX3_placeNow 4 = .ok (.aload_n 0, 1) := by decide +kernel
theorem dX3_placeNow_5 : decode cX3_placeNow 5 = .ok (.getfield 29, 3) := by decide +kernel
theorem dX3_placeNow_8 : decode cX3_placeNow 8 = .ok (.getfield 34, 3) := by decide +kernel
theorem dX3_placeNow_11 : decode cX3_placeNow 11 = .ok (.iaload, 1) := by decide +kernel
theorem dX3_placeNow_12 : decode cX3_placeNow 12 = .ok (.ireturn, 1) := by decide +kernel
theorem dX3_placeBehind_0 : decode cX3_placeBehind 0 = .ok (.aload_n 0, 1) := by decide +kernel
theorem dX3_placeBehind_1 : decode cX3_placeBehind 1 = .ok (.getfield 15, 3) := by decide +kernel
theorem dX3_placeBehind_4 : decode cX3_placeBehind 4 = .ok (.iload_n 1, 1) := by decide +kernel
theorem dX3_placeBehind_5 : decode cX3_placeBehind 5 = .ok (.iconst 1, 1) := by decide +kernel
theorem dX3_placeBehind_6 : decode cX3_placeBehind 6 = .ok (.iadd, 1) := by decide +kernel
theorem dX3_placeBehind_7 : decode cX3_placeBehind 7 = .ok (.iaload, 1) := by decide +kernel
theorem dX3_placeBehind_8 : decode cX3_placeBehind 8 = .ok (.ireturn, 1) := by decide +kernel
theorem dX3_valueNow_0 : decode cX3_valueNow 0 = .ok (.aload_n 0, 1) := by decide +kernel
theorem dX3_valueNow_1 : decode cX3_valueNow 1 = .ok (.getfield 9, 3) := by decide +kernel
theorem dX3_valueNow_4 : decode cX3_valueNow 4 = .ok (.aload_n 0, 1) := by decide +kernel
theorem dX3_valueNow_5 : decode cX3_valueNow 5 = .ok (.getfield 29, 3) := by decide +kernel
theorem dX3_valueNow_8 : decode cX3_valueNow 8 = .ok (.getfield 34, 3) := by decide +kernel
theorem dX3_valueNow_11 : decode cX3_valueNow 11 = .ok (.bipush 61, 2) := by decide +kernel
theorem dX3_valueNow_13 : decode cX3_valueNow 13 = .ok (.imul, 1) := by decide +kernel
theorem dX3_valueNow_14 : decode cX3_valueNow 14 = .ok (.iload_n 1, 1) := by decide +kernel
theorem dX3_valueNow_15 : decode cX3_valueNow 15 = .ok (.iadd, 1) := by decide +kernel
theorem dX3_valueNow_16 : decode cX3_valueNow 16 = .ok (.iconst 1, 1) := by decide +kernel
theorem dX3_valueNow_17 : decode cX3_valueNow 17 = .ok (.iadd, 1) := by decide +kernel
theorem dX3_valueNow_18 : decode cX3_valueNow 18 = .ok (.iaload, 1) := by decide +kernel
theorem dX3_valueNow_19 : decode cX3_valueNow 19 = .ok (.ireturn, 1) := by decide +kernel
theorem dX3_follow_0 : decode cX3_follow 0 = .ok (.iload_n 1, 1) := by decide +kernel
theorem dX3_follow_1 : decode cX3_follow 1 = .ok (.iconst 1, 1) := by decide +kernel
theorem dX3_follow_2 : decode cX3_follow 2 = .ok (.iadd, 1) := by decide +kernel
theorem dX3_follow_3 : decode cX3_follow 3 = .ok (.bipush 61, 2) := by decide +kernel
theorem dX3_follow_5 : decode cX3_follow 5 = .ok (.imul, 1) := by decide +kernel
theorem dX3_follow_6 : decode cX3_follow 6 = .ok (.istore_n 2, 1) := by decide +kernel
theorem dX3_follow_7 : decode cX3_follow 7 = .ok (.aload_n 0, 1) := by decide +kernel
theorem dX3_follow_8 : decode cX3_follow 8 = .ok (.iload_n 1, 1) := by decide +kernel
theorem dX3_follow_9 : decode cX3_follow 9 = .ok (.bipush 61, 2) := by decide +kernel
theorem dX3_follow_11 : decode cX3_follow 11 = .ok (.imul, 1) := by decide +kernel
theorem dX3_follow_12 : decode cX3_follow 12 = .ok (.invokevirtual 40, 3) := by decide +kernel
theorem dX3_follow_15 : decode cX3_follow 15 = .ok (.aload_n 0, 1) := by decide +kernel
theorem dX3_follow_16 : decode cX3_follow 16 = .ok (.iload_n 2, 1) := by decide +kernel
theorem dX3_follow_17 : decode cX3_follow 17 = .ok (.aload_n 0, 1) := by decide +kernel
theorem dX3_follow_18 : decode cX3_follow 18 = .ok (.getfield 29, 3) := by decide +kernel
theorem dX3_follow_21 : decode cX3_follow 21 = .ok (.getfield 44, 3) := by decide +kernel
theorem dX3_follow_24 : decode cX3_follow 24 = .ok (.iload_n 1, 1) := by decide +kernel
theorem dX3_follow_25 : decode cX3_follow 25 = .ok (.iaload, 1) := by decide +kernel
theorem dX3_follow_26 : decode cX3_follow 26 = .ok (.invokevirtual 47, 3) := by decide +kernel
theorem dX3_follow_29 : decode cX3_follow 29 = .ok (.aload_n 0, 1) := by decide +kernel
theorem dX3_follow_30 : decode cX3_follow 30 = .ok (.getfield 15, 3) := by decide +kernel
theorem dX3_follow_33 : decode cX3_follow 33 = .ok (.iload_n 1, 1) := by decide +kernel
theorem dX3_follow_34 : decode cX3_follow 34 = .ok (.iconst 1, 1) := by decide +kernel
theorem dX3_follow_35 : decode cX3_follow 35 = .ok (.iadd, 1) := by decide +kernel
theorem dX3_follow_36 : decode cX3_follow 36 = .ok (.aload_n 0, 1) := by decide +kernel
theorem dX3_follow_37 : decode cX3_follow 37 = .ok (.iload_n 2, 1) := by decide +kernel
theorem dX3_follow_38 : decode cX3_follow 38 = .ok (.aload_n 0, 1) := by decide +kernel
theorem dX3_follow_39 : decode cX3_follow 39 = .ok (.getfield 15, 3) := by decide +kernel
theorem dX3_follow_42 : decode cX3_follow 42 = .ok (.iload_n 1, 1) := by decide +kernel
theorem dX3_follow_43 : decode cX3_follow 43 = .ok (.iaload, 1) := by decide +kernel
theorem dX3_follow_44 : decode cX3_follow 44 = .ok (.iconst 1, 1) := by decide +kernel
theorem dX3_follow_45 : decode cX3_follow 45 = .ok (.iadd, 1) := by decide +kernel
theorem dX3_follow_46 : decode cX3_follow 46 = .ok (.invokevirtual 51, 3) := by decide +kernel
theorem dX3_follow_49 : decode cX3_follow 49 = .ok (.iastore, 1) := by decide +kernel
theorem dX3_follow_50 : decode cX3_follow 50 = .ok (.aload_n 0, 1) := by decide +kernel
theorem dX3_follow_51 : decode cX3_follow 51 = .ok (.iload_n 2, 1) := by decide +kernel
theorem dX3_follow_52 : decode cX3_follow 52 = .ok (.aload_n 0, 1) := by decide +kernel
theorem dX3_follow_53 : decode cX3_follow 53 = .ok (.getfield 15, 3) := by decide +kernel
theorem dX3_follow_56 : decode cX3_follow 56 = .ok (.iload_n 1, 1) := by decide +kernel
theorem dX3_follow_57 : decode cX3_follow 57 = .ok (.iconst 1, 1) := by decide +kernel
theorem dX3_follow_58 : decode cX3_follow 58 = .ok (.iadd, 1) := by decide +kernel
theorem dX3_follow_59 : decode cX3_follow 59 = .ok (.iaload, 1) := by decide +kernel
theorem dX3_follow_60 : decode cX3_follow 60 = .ok (.invokevirtual 55, 3) := by decide +kernel
theorem dX3_follow_63 : decode cX3_follow 63 = .ok (.return_, 1) := by decide +kernel
theorem dX3_passOn_0 : decode cX3_passOn 0 = .ok (.iconst 0, 1) := by decide +kernel
theorem dX3_passOn_1 : decode cX3_passOn 1 = .ok (.istore_n 2, 1) := by decide +kernel
theorem dX3_passOn_2 : decode cX3_passOn 2 = .ok (.iload_n 2, 1) := by decide +kernel
theorem dX3_passOn_3 : decode cX3_passOn 3 = .ok (.aload_n 0, 1) := by decide +kernel
theorem dX3_passOn_4 : decode cX3_passOn 4 = .ok (.getfield 21, 3) := by decide +kernel
theorem dX3_passOn_7 : decode cX3_passOn 7 = .ok (.getfield 58, 3) := by decide +kernel
theorem dX3_passOn_10 : decode cX3_passOn 10 = .ok (.if_icmp .gt 23, 3) := by decide +kernel
theorem dX3_passOn_13 : decode cX3_passOn 13 = .ok (.aload_n 0, 1) := by decide +kernel
theorem dX3_passOn_14 : decode cX3_passOn 14 = .ok (.getfield 18, 3) := by decide +kernel
theorem dX3_passOn_17 : decode cX3_passOn 17 = .ok (.iload_n 2, 1) := by decide +kernel
theorem dX3_passOn_18 : decode cX3_passOn 18 = .ok (.aload_n 0, 1) := by decide +kernel
theorem dX3_passOn_19 : decode cX3_passOn 19 = .ok (.getfield 9, 3) := by decide +kernel
theorem dX3_passOn_22 : decode cX3_passOn 22 = .ok (.iload_n 1, 1) := by decide +kernel
theorem dX3_passOn_23 : decode cX3_passOn 23 = .ok (.iload_n 2, 1) := by decide +kernel
theorem dX3_passOn_24 : decode cX3_passOn 24 = .ok (.iadd, 1) := by decide +kernel
theorem dX3_passOn_25 : decode cX3_passOn 25 = .ok (.iaload, 1) := by decide +kernel
theorem dX3_passOn_26 : decode cX3_passOn 26 = .ok (.iastore, 1) := by decide +kernel
theorem dX3_passOn_27 : decode cX3_passOn 27 = .ok (.iinc 2 1, 3) := by decide +kernel
theorem dX3_passOn_30 : decode cX3_passOn 30 = .ok (.goto (-28), 3) := by decide +kernel
theorem dX3_passOn_33 : decode cX3_passOn 33 = .ok (.iconst 1, 1) := by decide +kernel
theorem dX3_passOn_34 : decode cX3_passOn 34 = .ok (.istore_n 2, 1) := by decide +kernel
theorem dX3_passOn_35 : decode cX3_passOn 35 = .ok (.iconst 0, 1) := by decide +kernel
theorem dX3_passOn_36 : decode cX3_passOn 36 = .ok (.istore_n 3, 1) := by decide +kernel
theorem dX3_passOn_37 : decode cX3_passOn 37 = .ok (.iload_n 3, 1) := by decide +kernel
theorem dX3_passOn_38 : decode cX3_passOn 38 = .ok (.bipush 61, 2) := by decide +kernel
theorem dX3_passOn_40 : decode cX3_passOn 40 = .ok (.if_icmp .ge 18, 3) := by decide +kernel
theorem dX3_passOn_43 : decode cX3_passOn 43 = .ok (.iload_n 2, 1) := by decide +kernel
theorem dX3_passOn_44 : decode cX3_passOn 44 = .ok (.ifCond .eq 14, 3) := by decide +kernel
theorem dX3_passOn_47 : decode cX3_passOn 47 = .ok (.aload_n 0, 1) := by decide +kernel
theorem dX3_passOn_48 : decode cX3_passOn 48 = .ok (.invokevirtual 63, 3) := by decide +kernel
theorem dX3_passOn_51 : decode cX3_passOn 51 = .ok (.istore_n 2, 1) := by decide +kernel
theorem dX3_passOn_52 : decode cX3_passOn 52 = .ok (.iinc 3 1, 3) := by decide +kernel
theorem dX3_passOn_55 : decode cX3_passOn 55 = .ok (.goto (-18), 3) := by decide +kernel
theorem dX3_passOn_58 : decode cX3_passOn 58 = .ok (.return_, 1) := by decide +kernel
theorem dX3_passOnce_0 : decode cX3_passOnce 0 = .ok (.iconst 0, 1) := by decide +kernel
theorem dX3_passOnce_1 : decode cX3_passOnce 1 = .ok (.istore_n 1, 1) := by decide +kernel
theorem dX3_passOnce_2 : decode cX3_passOnce 2 = .ok (.iconst 0, 1) := by decide +kernel
theorem dX3_passOnce_3 : decode cX3_passOnce 3 = .ok (.istore_n 2, 1) := by decide +kernel
theorem dX3_passOnce_4 : decode cX3_passOnce 4 = .ok (.iload_n 2, 1) := by decide +kernel
theorem dX3_passOnce_5 : decode cX3_passOnce 5 = .ok (.aload_n 0, 1) := by decide +kernel
theorem dX3_passOnce_6 : decode cX3_passOnce 6 = .ok (.getfield 25, 3) := by decide +kernel
theorem dX3_passOnce_9 : decode cX3_passOnce 9 = .ok (.getfield 67, 3) := by decide +kernel
theorem dX3_passOnce_12 : decode cX3_passOnce 12 = .ok (.if_icmp .ge 80, 3) := by decide +kernel
theorem dX3_passOnce_15 : decode cX3_passOnce 15 = .ok (.aload_n 0, 1) := by decide +kernel
theorem dX3_passOnce_16 : decode cX3_passOnce 16 = .ok (.getfield 18, 3) := by decide +kernel
theorem dX3_passOnce_19 : decode cX3_passOnce 19 = .ok (.aload_n 0, 1) := by decide +kernel
theorem dX3_passOnce_20 : decode cX3_passOnce 20 = .ok (.getfield 25, 3) := by decide +kernel
theorem dX3_passOnce_23 : decode cX3_passOnce 23 = .ok (.getfield 70, 3) := by decide +kernel
theorem dX3_passOnce_26 : decode cX3_passOnce 26 = .ok (.iload_n 2, 1) := by decide +kernel
theorem dX3_passOnce_27 : decode cX3_passOnce 27 = .ok (.iaload, 1) := by decide +kernel
theorem dX3_passOnce_28 : decode cX3_passOnce 28 = .ok (.iconst 1, 1) := by decide +kernel
theorem dX3_passOnce_29 : decode cX3_passOnce 29 = .ok (.iadd, 1) := by decide +kernel
theorem dX3_passOnce_30 : decode cX3_passOnce 30 = .ok (.iaload, 1) := by decide +kernel
theorem dX3_passOnce_31 : decode cX3_passOnce 31 = .ok (.aload_n 0, 1) := by decide +kernel
theorem dX3_passOnce_32 : decode cX3_passOnce 32 = .ok (.getfield 25, 3) := by decide +kernel
theorem dX3_passOnce_35 : decode cX3_passOnce 35 = .ok (.getfield 73, 3) := by decide +kernel
theorem dX3_passOnce_38 : decode cX3_passOnce 38 = .ok (.iload_n 2, 1) := by decide +kernel
theorem dX3_passOnce_39 : decode cX3_passOnce 39 = .ok (.iaload, 1) := by decide +kernel
theorem dX3_passOnce_40 : decode cX3_passOnce 40 = .ok (.iadd, 1) := by decide +kernel
theorem dX3_passOnce_41 : decode cX3_passOnce 41 = .ok (.aload_n 0, 1) := by decide +kernel
theorem dX3_passOnce_42 : decode cX3_passOnce 42 = .ok (.getfield 21, 3) := by decide +kernel
theorem dX3_passOnce_45 : decode cX3_passOnce 45 = .ok (.getfield 76, 3) := by decide +kernel
theorem dX3_passOnce_48 : decode cX3_passOnce 48 = .ok (.iconst 2, 1) := by decide +kernel
theorem dX3_passOnce_49 : decode cX3_passOnce 49 = .ok (.iaload, 1) := by decide +kernel
theorem dX3_passOnce_50 : decode cX3_passOnce 50 = .ok (.iadd, 1) := by decide +kernel
theorem dX3_passOnce_51 : decode cX3_passOnce 51 = .ok (.istore_n 3, 1) := by decide +kernel
theorem dX3_passOnce_52 : decode cX3_passOnce 52 = .ok (.aload_n 0, 1) := by decide +kernel
theorem dX3_passOnce_53 : decode cX3_passOnce 53 = .ok (.getfield 25, 3) := by decide +kernel
theorem dX3_passOnce_56 : decode cX3_passOnce 56 = .ok (.getfield 79, 3) := by decide +kernel
theorem dX3_passOnce_59 : decode cX3_passOnce 59 = .ok (.iload_n 2, 1) := by decide +kernel
theorem dX3_passOnce_60 : decode cX3_passOnce 60 = .ok (.iaload, 1) := by decide +kernel
theorem dX3_passOnce_61 : decode cX3_passOnce 61 = .ok (.iconst 1, 1) := by decide +kernel
theorem dX3_passOnce_62 : decode cX3_passOnce 62 = .ok (.iadd, 1) := by decide +kernel
theorem dX3_passOnce_63 : decode cX3_passOnce 63 = .ok (.istore 4, 2) := by decide +kernel
theorem dX3_passOnce_65 : decode cX3_passOnce 65 = .ok (.iload_n 3, 1) := by decide +kernel
theorem dX3_passOnce_66 : decode cX3_passOnce 66 = .ok (.aload_n 0, 1) := by decide +kernel
theorem dX3_passOnce_67 : decode cX3_passOnce 67 = .ok (.getfield 18, 3) := by decide +kernel
theorem dX3_passOnce_70 : decode cX3_passOnce 70 = .ok (.iload 4, 2) := by decide +kernel
theorem dX3_passOnce_72 : decode cX3_passOnce 72 = .ok (.iaload, 1) := by decide +kernel
theorem dX3_passOnce_73 : decode cX3_passOnce 73 = .ok (.if_icmp .ge 13, 3) := by decide +kernel
theorem dX3_passOnce_76 : decode cX3_passOnce 76 = .ok (.aload_n 0, 1) := by decide +kernel
theorem dX3_passOnce_77 : decode cX3_passOnce 77 = .ok (.getfield 18, 3) := by decide +kernel
theorem dX3_passOnce_80 : decode cX3_passOnce 80 = .ok (.iload 4, 2) := by decide +kernel
theorem dX3_passOnce_82 : decode cX3_passOnce 82 = .ok (.iload_n 3, 1) := by decide +kernel
theorem dX3_passOnce_83 : decode cX3_passOnce 83 = .ok (.iastore, 1) := by decide +kernel
theorem dX3_passOnce_84 : decode cX3_passOnce 84 = .ok (.iconst 1, 1) := by decide +kernel
theorem dX3_passOnce_85 : decode cX3_passOnce 85 = .ok (.istore_n 1, 1) := by decide +kernel
theorem dX3_passOnce_86 : decode cX3_passOnce 86 = .ok (.iinc 2 1, 3) := by decide +kernel
theorem dX3_passOnce_89 : decode cX3_passOnce 89 = .ok (.goto (-85), 3) := by decide +kernel
theorem dX3_passOnce_92 : decode cX3_passOnce 92 = .ok (.iload_n 1, 1) := by decide +kernel
theorem dX3_passOnce_93 : decode cX3_passOnce 93 = .ok (.ireturn, 1) := by decide +kernel
theorem dX3_take_0 : decode cX3_take 0 = .ok (.ldc 33, 2) := by decide +kernel
theorem dX3_take_2 : decode cX3_take 2 = .ok (.istore_n 3, 1) := by decide +kernel
theorem dX3_take_3 : decode cX3_take 3 = .ok (.iconst 0, 1) := by decide +kernel
theorem dX3_take_4 : decode cX3_take 4 = .ok (.istore 4, 2) := by decide +kernel
theorem dX3_take_6 : decode cX3_take 6 = .ok (.iload 4, 2) := by decide +kernel
theorem dX3_take_8 : decode cX3_take 8 = .ok (.aload_n 0, 1) := by decide +kernel
theorem dX3_take_9 : decode cX3_take 9 = .ok (.getfield 21, 3) := by decide +kernel
theorem dX3_take_12 : decode cX3_take 12 = .ok (.getfield 58, 3) := by decide +kernel
theorem dX3_take_15 : decode cX3_take 15 = .ok (.if_icmp .gt 52, 3) := by decide +kernel
theorem dX3_take_18 : decode cX3_take 18 = .ok (.iload_n 3, 1) := by decide +kernel
theorem dX3_take_19 : decode cX3_take 19 = .ok (.aload_n 0, 1) := by decide +kernel
theorem dX3_take_20 : decode cX3_take 20 = .ok (.getfield 18, 3) := by decide +kernel
theorem dX3_take_23 : decode cX3_take 23 = .ok (.iload 4, 2) := by decide +kernel
theorem dX3_take_25 : decode cX3_take 25 = .ok (.iaload, 1) := by decide +kernel
theorem dX3_take_26 : decode cX3_take 26 = .ok (.invokestatic 82, 3) := by decide +kernel
theorem dX3_take_29 : decode cX3_take 29 = .ok (.istore_n 3, 1) := by decide +kernel
theorem dX3_take_30 : decode cX3_take 30 = .ok (.aload_n 0, 1) := by decide +kernel
theorem dX3_take_31 : decode cX3_take 31 = .ok (.getfield 9, 3) := by decide +kernel
theorem dX3_take_34 : decode cX3_take 34 = .ok (.iload_n 1, 1) := by decide +kernel
theorem dX3_take_35 : decode cX3_take 35 = .ok (.iload 4, 2) := by decide +kernel
theorem dX3_take_37 : decode cX3_take 37 = .ok (.iadd, 1) := by decide +kernel
theorem dX3_take_38 : decode cX3_take 38 = .ok (.ldc 33, 2) := by decide +kernel
theorem dX3_take_40 : decode cX3_take 40 = .ok (.aload_n 0, 1) := by decide +kernel
theorem dX3_take_41 : decode cX3_take 41 = .ok (.getfield 18, 3) := by decide +kernel
theorem dX3_take_44 : decode cX3_take 44 = .ok (.iload 4, 2) := by decide +kernel
theorem dX3_take_46 : decode cX3_take 46 = .ok (.iaload, 1) := by decide +kernel
theorem dX3_take_47 : decode cX3_take 47 = .ok (.aload_n 0, 1) := by decide +kernel
theorem dX3_take_48 : decode cX3_take 48 = .ok (.getfield 21, 3) := by decide +kernel
theorem dX3_take_51 : decode cX3_take 51 = .ok (.getfield 76, 3) := by decide +kernel
theorem dX3_take_54 : decode cX3_take 54 = .ok (.iconst 1, 1) := by decide +kernel
theorem dX3_take_55 : decode cX3_take 55 = .ok (.iaload, 1) := by decide +kernel
theorem dX3_take_56 : decode cX3_take 56 = .ok (.iadd, 1) := by decide +kernel
theorem dX3_take_57 : decode cX3_take 57 = .ok (.invokestatic 82, 3) := by decide +kernel
theorem dX3_take_60 : decode cX3_take 60 = .ok (.iastore, 1) := by decide +kernel
theorem dX3_take_61 : decode cX3_take 61 = .ok (.iinc 4 1, 3) := by decide +kernel
theorem dX3_take_64 : decode cX3_take 64 = .ok (.goto (-58), 3) := by decide +kernel
theorem dX3_take_67 : decode cX3_take 67 = .ok (.aload_n 0, 1) := by decide +kernel
theorem dX3_take_68 : decode cX3_take 68 = .ok (.getfield 21, 3) := by decide +kernel
theorem dX3_take_71 : decode cX3_take 71 = .ok (.invokevirtual 87, 3) := by decide +kernel
theorem dX3_take_74 : decode cX3_take 74 = .ok (.istore 4, 2) := by decide +kernel
theorem dX3_take_76 : decode cX3_take 76 = .ok (.iload 4, 2) := by decide +kernel
theorem dX3_take_78 : decode cX3_take 78 = .ok (.aload_n 0, 1) := by decide +kernel
theorem dX3_take_79 : decode cX3_take 79 = .ok (.getfield 21, 3) := by decide +kernel
theorem dX3_take_82 : decode cX3_take 82 = .ok (.invokevirtual 91, 3) := by decide +kernel
theorem dX3_take_85 : decode cX3_take 85 = .ok (.if_icmp .gt 38, 3) := by decide +kernel
theorem dX3_take_88 : decode cX3_take 88 = .ok (.aload_n 0, 1) := by decide +kernel
theorem dX3_take_89 : decode cX3_take 89 = .ok (.iload_n 1, 1) := by decide +kernel
theorem dX3_take_90 : decode cX3_take 90 = .ok (.iload 4, 2) := by decide +kernel
theorem dX3_take_92 : decode cX3_take 92 = .ok (.iload_n 3, 1) := by decide +kernel
theorem dX3_take_93 : decode cX3_take 93 = .ok (.aload_n 0, 1) := by decide +kernel
theorem dX3_take_94 : decode cX3_take 94 = .ok (.getfield 21, 3) := by decide +kernel
theorem dX3_take_97 : decode cX3_take 97 = .ok (.getfield 76, 3) := by decide +kernel
theorem dX3_take_100 : decode cX3_take 100 = .ok (.iconst 4, 1) := by decide +kernel
theorem dX3_take_101 : decode cX3_take 101 = .ok (.iaload, 1) := by decide +kernel
theorem dX3_take_102 : decode cX3_take 102 = .ok (.iadd, 1) := by decide +kernel
theorem dX3_take_103 : decode cX3_take 103 = .ok (.aload_n 0, 1) := by decide +kernel
theorem dX3_take_104 : decode cX3_take 104 = .ok (.getfield 21, 3) := by decide +kernel
theorem dX3_take_107 : decode cX3_take 107 = .ok (.iload 4, 2) := by decide +kernel
theorem dX3_take_109 : decode cX3_take 109 = .ok (.iload_n 2, 1) := by decide +kernel
theorem dX3_take_110 : decode cX3_take 110 = .ok (.invokevirtual 94, 3) := by decide +kernel
theorem dX3_take_113 : decode cX3_take 113 = .ok (.iadd, 1) := by decide +kernel
theorem dX3_take_114 : decode cX3_take 114 = .ok (.invokevirtual 97, 3) := by decide +kernel
theorem dX3_take_117 : decode cX3_take 117 = .ok (.iinc 4 1, 3) := by decide +kernel
theorem dX3_take_120 : decode cX3_take 120 = .ok (.goto (-44), 3) := by decide +kernel
theorem dX3_take_123 : decode cX3_take 123 = .ok (.iconst 0, 1) := by decide +kernel
theorem dX3_take_124 : decode cX3_take 124 = .ok (.istore 4, 2) := by decide +kernel
theorem dX3_take_126 : decode cX3_take 126 = .ok (.iload 4, 2) := by decide +kernel
theorem dX3_take_128 : decode cX3_take 128 = .ok (.aload_n 0, 1) := by decide +kernel
theorem dX3_take_129 : decode cX3_take 129 = .ok (.getfield 25, 3) := by decide +kernel
theorem dX3_take_132 : decode cX3_take 132 = .ok (.getfield 67, 3) := by decide +kernel
theorem dX3_take_135 : decode cX3_take 135 = .ok (.if_icmp .ge 71, 3) := by decide +kernel
theorem dX3_take_138 : decode cX3_take 138 = .ok (.aload_n 0, 1) := by decide +kernel
theorem dX3_take_139 : decode cX3_take 139 = .ok (.getfield 25, 3) := by decide +kernel
theorem dX3_take_142 : decode cX3_take 142 = .ok (.getfield 79, 3) := by decide +kernel
theorem dX3_take_145 : decode cX3_take 145 = .ok (.iload 4, 2) := by decide +kernel
theorem dX3_take_147 : decode cX3_take 147 = .ok (.iaload, 1) := by decide +kernel
theorem dX3_take_148 : decode cX3_take 148 = .ok (.istore 5, 2) := by decide +kernel
theorem dX3_take_150 : decode cX3_take 150 = .ok (.aload_n 0, 1) := by decide +kernel
theorem dX3_take_151 : decode cX3_take 151 = .ok (.getfield 18, 3) := by decide +kernel
theorem dX3_take_154 : decode cX3_take 154 = .ok (.aload_n 0, 1) := by decide +kernel
theorem dX3_take_155 : decode cX3_take 155 = .ok (.getfield 25, 3) := by decide +kernel
theorem dX3_take_158 : decode cX3_take 158 = .ok (.getfield 70, 3) := by decide +kernel
theorem dX3_take_161 : decode cX3_take 161 = .ok (.iload 4, 2) := by decide +kernel
theorem dX3_take_163 : decode cX3_take 163 = .ok (.iaload, 1) := by decide +kernel
theorem dX3_take_164 : decode cX3_take 164 = .ok (.iconst 1, 1) := by decide +kernel
theorem dX3_take_165 : decode cX3_take 165 = .ok (.iadd, 1) := by decide +kernel
theorem dX3_take_166 : decode cX3_take 166 = .ok (.iaload, 1) := by decide +kernel
theorem dX3_take_167 : decode cX3_take 167 = .ok (.aload_n 0, 1) := by decide +kernel
theorem dX3_take_168 : decode cX3_take 168 = .ok (.getfield 25, 3) := by decide +kernel
theorem dX3_take_171 : decode cX3_take 171 = .ok (.getfield 73, 3) := by decide +kernel
theorem dX3_take_174 : decode cX3_take 174 = .ok (.iload 4, 2) := by decide +kernel
theorem dX3_take_176 : decode cX3_take 176 = .ok (.iaload, 1) := by decide +kernel
theorem dX3_take_177 : decode cX3_take 177 = .ok (.iadd, 1) := by decide +kernel
theorem dX3_take_178 : decode cX3_take 178 = .ok (.istore 6, 2) := by decide +kernel
theorem dX3_take_180 : decode cX3_take 180 = .ok (.aload_n 0, 1) := by decide +kernel
theorem dX3_take_181 : decode cX3_take 181 = .ok (.iload_n 1, 1) := by decide +kernel
theorem dX3_take_182 : decode cX3_take 182 = .ok (.iload 5, 2) := by decide +kernel
theorem dX3_take_184 : decode cX3_take 184 = .ok (.iload 6, 2) := by decide +kernel
theorem dX3_take_186 : decode cX3_take 186 = .ok (.aload_n 0, 1) := by decide +kernel
theorem dX3_take_187 : decode cX3_take 187 = .ok (.getfield 21, 3) := by decide +kernel
theorem dX3_take_190 : decode cX3_take 190 = .ok (.iload 5, 2) := by decide +kernel
theorem dX3_take_192 : decode cX3_take 192 = .ok (.iload_n 2, 1) := by decide +kernel
theorem dX3_take_193 : decode cX3_take 193 = .ok (.invokevirtual 94, 3) := by decide +kernel
theorem dX3_take_196 : decode cX3_take 196 = .ok (.iadd, 1) := by decide +kernel
theorem dX3_take_197 : decode cX3_take 197 = .ok (.invokevirtual 97, 3) := by decide +kernel
theorem dX3_take_200 : decode cX3_take 200 = .ok (.iinc 4 1, 3) := by decide +kernel
theorem dX3_take_203 : decode cX3_take 203 = .ok (.goto (-77), 3) := by decide +kernel
theorem dX3_take_206 : decode cX3_take 206 = .ok (.return_, 1) := by decide +kernel
theorem dX3_lower_0 : decode cX3_lower 0 = .ok (.iload_n 1, 1) := by decide +kernel
theorem dX3_lower_1 : decode cX3_lower 1 = .ok (.iload_n 2, 1) := by decide +kernel
theorem dX3_lower_2 : decode cX3_lower 2 = .ok (.iadd, 1) := by decide +kernel
theorem dX3_lower_3 : decode cX3_lower 3 = .ok (.iconst 1, 1) := by decide +kernel
theorem dX3_lower_4 : decode cX3_lower 4 = .ok (.iadd, 1) := by decide +kernel
theorem dX3_lower_5 : decode cX3_lower 5 = .ok (.istore 4, 2) := by decide +kernel
theorem dX3_lower_7 : decode cX3_lower 7 = .ok (.aload_n 0, 1) := by decide +kernel
theorem dX3_lower_8 : decode cX3_lower 8 = .ok (.getfield 9, 3) := by decide +kernel
theorem dX3_lower_11 : decode cX3_lower 11 = .ok (.iload 4, 2) := by decide +kernel
theorem dX3_lower_13 : decode cX3_lower 13 = .ok (.aload_n 0, 1) := by decide +kernel
theorem dX3_lower_14 : decode cX3_lower 14 = .ok (.getfield 9, 3) := by decide +kernel
theorem dX3_lower_17 : decode cX3_lower 17 = .ok (.iload 4, 2) := by decide +kernel
theorem dX3_lower_19 : decode cX3_lower 19 = .ok (.iaload, 1) := by decide +kernel
theorem dX3_lower_20 : decode cX3_lower 20 = .ok (.iload_n 3, 1) := by decide +kernel
theorem dX3_lower_21 : decode cX3_lower 21 = .ok (.invokestatic 82, 3) := by decide +kernel
theorem dX3_lower_24 : decode cX3_lower 24 = .ok (.iastore, 1) := by decide +kernel
theorem dX3_lower_25 : decode cX3_lower 25 = .ok (.return_, 1) := by decide +kernel
theorem dX3_nearestOfLeast_0 : decode cX3_nearestOfLeast 0 = .ok (.iconst (-1), 1) := by decide +kernel
theorem dX3_nearestOfLeast_1 : decode cX3_nearestOfLeast 1 = .ok (.istore_n 3, 1) := by decide +kernel
theorem dX3_nearestOfLeast_2 : decode cX3_nearestOfLeast 2 = .ok (.iconst 0, 1) := by decide +kernel
theorem dX3_nearestOfLeast_3 : decode cX3_nearestOfLeast 3 = .ok (.istore 4, 2) := by decide +kernel
theorem dX3_nearestOfLeast_5 : decode cX3_nearestOfLeast 5 = .ok (.iload 4, 2) := by decide +kernel
theorem dX3_nearestOfLeast_7 : decode cX3_nearestOfLeast 7 = .ok (.aload_n 0, 1) := by decide +kernel
theorem dX3_nearestOfLeast_8 : decode cX3_nearestOfLeast 8 = .ok (.getfield 21, 3) := by decide +kernel
theorem dX3_nearestOfLeast_11 : decode cX3_nearestOfLeast 11 = .ok (.getfield 58, 3) := by decide +kernel
theorem dX3_nearestOfLeast_14 : decode cX3_nearestOfLeast 14 = .ok (.if_icmp .ge 74, 3) := by decide +kernel
theorem dX3_nearestOfLeast_17 : decode cX3_nearestOfLeast 17 = .ok (.aload_n 0, 1) := by decide +kernel
theorem dX3_nearestOfLeast_18 : decode cX3_nearestOfLeast 18 = .ok (.getfield 9, 3) := by decide +kernel
theorem dX3_nearestOfLeast_21 : decode cX3_nearestOfLeast 21 = .ok (.iload_n 1, 1) := by decide +kernel
theorem dX3_nearestOfLeast_22 : decode cX3_nearestOfLeast 22 = .ok (.iload 4, 2) := by decide +kernel
theorem dX3_nearestOfLeast_24 : decode cX3_nearestOfLeast 24 = .ok (.iadd, 1) := by decide +kernel
theorem dX3_nearestOfLeast_25 : decode cX3_nearestOfLeast 25 = .ok (.iconst 1, 1) := by decide +kernel
theorem dX3_nearestOfLeast_26 : decode cX3_nearestOfLeast 26 = .ok (.iadd, 1) := by decide +kernel
theorem dX3_nearestOfLeast_27 : decode cX3_nearestOfLeast 27 = .ok (.iaload, 1) := by decide +kernel
theorem dX3_nearestOfLeast_28 : decode cX3_nearestOfLeast 28 = .ok (.aload_n 0, 1) := by decide +kernel
theorem dX3_nearestOfLeast_29 : decode cX3_nearestOfLeast 29 = .ok (.getfield 9, 3) := by decide +kernel
theorem dX3_nearestOfLeast_32 : decode cX3_nearestOfLeast 32 = .ok (.iload_n 1, 1) := by decide +kernel
theorem dX3_nearestOfLeast_33 : decode cX3_nearestOfLeast 33 = .ok (.iload_n 3, 1) := by decide +kernel
theorem dX3_nearestOfLeast_34 : decode cX3_nearestOfLeast 34 = .ok (.iadd, 1) := by decide +kernel
theorem dX3_nearestOfLeast_35 : decode cX3_nearestOfLeast 35 = .ok (.iconst 1, 1) := by decide +kernel
theorem dX3_nearestOfLeast_36 : decode cX3_nearestOfLeast 36 = .ok (.iadd, 1) := by decide +kernel
theorem dX3_nearestOfLeast_37 : decode cX3_nearestOfLeast 37 = .ok (.iaload, 1) := by decide +kernel
theorem dX3_nearestOfLeast_38 : decode cX3_nearestOfLeast 38 = .ok (.isub, 1) := by decide +kernel
theorem dX3_nearestOfLeast_39 : decode cX3_nearestOfLeast 39 = .ok (.istore 5, 2) := by decide +kernel
theorem dX3_nearestOfLeast_41 : decode cX3_nearestOfLeast 41 = .ok (.iload 4, 2) := by decide +kernel
theorem dX3_nearestOfLeast_43 : decode cX3_nearestOfLeast 43 = .ok (.iload_n 2, 1) := by decide +kernel
theorem dX3_nearestOfLeast_44 : decode cX3_nearestOfLeast 44 = .ok (.isub, 1) := by decide +kernel
theorem dX3_nearestOfLeast_45 : decode cX3_nearestOfLeast 45 = .ok (.invokestatic 101, 3) := by decide +kernel
theorem dX3_nearestOfLeast_48 : decode cX3_nearestOfLeast 48 = .ok (.iload_n 3, 1) := by decide +kernel
theorem dX3_nearestOfLeast_49 : decode cX3_nearestOfLeast 49 = .ok (.iload_n 2, 1) := by decide +kernel
theorem dX3_nearestOfLeast_50 : decode cX3_nearestOfLeast 50 = .ok (.isub, 1) := by decide +kernel
theorem dX3_nearestOfLeast_51 : decode cX3_nearestOfLeast 51 = .ok (.invokestatic 101, 3) := by decide +kernel
theorem dX3_nearestOfLeast_54 : decode cX3_nearestOfLeast 54 = .ok (.if_icmp .ge 7, 3) := by decide +kernel
theorem dX3_nearestOfLeast_57 : decode cX3_nearestOfLeast 57 = .ok (.iconst 1, 1) := by decide +kernel
theorem dX3_nearestOfLeast_58 : decode cX3_nearestOfLeast 58 = .ok (.goto 4, 3) := by decide +kernel
theorem dX3_nearestOfLeast_61 : decode cX3_nearestOfLeast 61 = .ok (.iconst 0, 1) := by decide +kernel
theorem dX3_nearestOfLeast_62 : decode cX3_nearestOfLeast 62 = .ok (.istore 6, 2) := by decide +kernel
theorem dX3_nearestOfLeast_64 : decode cX3_nearestOfLeast 64 = .ok (.iload 5, 2) := by decide +kernel
theorem dX3_nearestOfLeast_66 : decode cX3_nearestOfLeast 66 = .ok (.ifCond .lt 13, 3) := by decide +kernel
theorem dX3_nearestOfLeast_69 : decode cX3_nearestOfLeast 69 = .ok (.iload 5, 2) := by decide +kernel
theorem dX3_nearestOfLeast_71 : decode cX3_nearestOfLeast 71 = .ok (.ifCond .ne 11, 3) := by decide +kernel
theorem dX3_nearestOfLeast_74 : decode cX3_nearestOfLeast 74 = .ok (.iload 6, 2) := by decide +kernel
theorem dX3_nearestOfLeast_76 : decode cX3_nearestOfLeast 76 = .ok (.ifCond .eq 6, 3) := by decide +kernel
theorem dX3_nearestOfLeast_79 : decode cX3_nearestOfLeast 79 = .ok (.iload 4, 2) := by decide +kernel
theorem dX3_nearestOfLeast_81 : decode cX3_nearestOfLeast 81 = .ok (.istore_n 3, 1) := by decide +kernel
theorem dX3_nearestOfLeast_82 : decode cX3_nearestOfLeast 82 = .ok (.iinc 4 1, 3) := by decide +kernel
theorem dX3_nearestOfLeast_85 : decode cX3_nearestOfLeast 85 = .ok (.goto (-80), 3) := by decide +kernel
theorem dX3_nearestOfLeast_88 : decode cX3_nearestOfLeast 88 = .ok (.iload_n 3, 1) := by decide +kernel
theorem dX3_nearestOfLeast_89 : decode cX3_nearestOfLeast 89 = .ok (.ireturn, 1) := by decide +kernel
theorem dX3_forgetFar_0 : decode cX3_forgetFar 0 = .ok (.iconst (-1), 1) := by decide +kernel
theorem dX3_forgetFar_1 : decode cX3_forgetFar 1 = .ok (.istore_n 3, 1) := by decide +kernel
theorem dX3_forgetFar_2 : decode cX3_forgetFar 2 = .ok (.iload_n 3, 1) := by decide +kernel
theorem dX3_forgetFar_3 : decode cX3_forgetFar 3 = .ok (.aload_n 0, 1) := by decide +kernel
theorem dX3_forgetFar_4 : decode cX3_forgetFar 4 = .ok (.getfield 21, 3) := by decide +kernel
theorem dX3_forgetFar_7 : decode cX3_forgetFar 7 = .ok (.getfield 58, 3) := by decide +kernel
theorem dX3_forgetFar_10 : decode cX3_forgetFar 10 = .ok (.if_icmp .ge 37, 3) := by decide +kernel
theorem dX3_forgetFar_13 : decode cX3_forgetFar 13 = .ok (.iload_n 3, 1) := by decide +kernel
theorem dX3_forgetFar_14 : decode cX3_forgetFar 14 = .ok (.iload_n 2, 1) := by decide +kernel
theorem dX3_forgetFar_15 : decode cX3_forgetFar 15 = .ok (.isub, 1) := by decide +kernel
theorem dX3_forgetFar_16 : decode cX3_forgetFar 16 = .ok (.invokestatic 101, 3) := by decide +kernel
theorem dX3_forgetFar_19 : decode cX3_forgetFar 19 = .ok (.aload_n 0, 1) := by decide +kernel
theorem dX3_forgetFar_20 : decode cX3_forgetFar 20 = .ok (.getfield 21, 3) := by decide +kernel
theorem dX3_forgetFar_23 : decode cX3_forgetFar 23 = .ok (.getfield 105, 3) := by decide +kernel
theorem dX3_forgetFar_26 : decode cX3_forgetFar 26 = .ok (.if_icmp .le 15, 3) := by decide +kernel
theorem dX3_forgetFar_29 : decode cX3_forgetFar 29 = .ok (.aload_n 0, 1) := by decide +kernel
theorem dX3_forgetFar_30 : decode cX3_forgetFar 30 = .ok (.getfield 9, 3) := by decide +kernel
theorem dX3_forgetFar_33 : decode cX3_forgetFar 33 = .ok (.iload_n 1, 1) := by decide +kernel
theorem dX3_forgetFar_34 : decode cX3_forgetFar 34 = .ok (.iload_n 3, 1) := by decide +kernel
theorem dX3_forgetFar_35 : decode cX3_forgetFar 35 = .ok (.iadd, 1) := by decide +kernel
theorem dX3_forgetFar_36 : decode cX3_forgetFar 36 = .ok (.iconst 1, 1) := by decide +kernel
theorem dX3_forgetFar_37 : decode cX3_forgetFar 37 = .ok (.iadd, 1) := by decide +kernel
theorem dX3_forgetFar_38 : decode cX3_forgetFar 38 = .ok (.ldc 33, 2) := by decide +kernel
theorem dX3_forgetFar_40 : decode cX3_forgetFar 40 = .ok (.iastore, 1) := by decide +kernel
theorem dX3_forgetFar_41 : decode cX3_forgetFar 41 = .ok (.iinc 3 1, 3) := by decide +kernel
theorem dX3_forgetFar_44 : decode cX3_forgetFar 44 = .ok (.goto (-42), 3) := by decide +kernel
theorem dX3_forgetFar_47 : decode cX3_forgetFar 47 = .ok (.return_, 1) := by decide +kernel
theorem dX4_init_0 : decode cX4_init 0 = .ok (.aload_n 0, 1) := by decide +kernel
theorem dX4_init_1 : decode cX4_init 1 = .ok (.invokespecial 3, 3) := by decide +kernel
theorem dX4_init_4 : decode cX4_init 4 = .ok (.aload_n 0, 1) := by decide +kernel
theorem dX4_init_5 : decode cX4_init 5 = .ok (.bipush 120, 2) := by decide +kernel
theorem dX4_init_7 : decode cX4_init 7 = .ok (.newarray .int, 2) := by decide +kernel
theorem dX4_init_9 : decode cX4_init 9 = .ok (.putfield 9, 3) := by decide +kernel
theorem dX4_init_12 : decode cX4_init 12 = .ok (.aload_n 0, 1) := by decide +kernel
theorem dX4_init_13 : decode cX4_init 13 = .ok (.bipush 120, 2) := by decide +kernel
theorem dX4_init_15 : decode cX4_init 15 = .ok (.newarray .int, 2) := by decide +kernel
theorem dX4_init_17 : decode cX4_init 17 = .ok (.putfield 15, 3) := by decide +kernel
theorem dX4_init_20 : decode cX4_init 20 = .ok (.return_, 1) := by decide +kernel
theorem dX4_add_0 : decode cX4_add 0 = .ok (.aload_n 0, 1) := by decide +kernel
theorem dX4_add_1 : decode cX4_add 1 = .ok (.getfield 9, 3) := by decide +kernel
theorem dX4_add_4 : decode cX4_add 4 = .ok (.aload_n 0, 1) := by decide +kernel
theorem dX4_add_5 : decode cX4_add 5 = .ok (.getfield 18, 3) := by decide +kernel
theorem dX4_add_8 : decode cX4_add 8 = .ok (.iload_n 1, 1) := by decide +kernel
theorem dX4_add_9 : decode cX4_add 9 = .ok (.iastore, 1) := by decide +kernel
theorem dX4_add_10 : decode cX4_add 10 = .ok (.aload_n 0, 1) := by decide +kernel
theorem dX4_add_11 : decode cX4_add 11 = .ok (.getfield 15, 3) := by decide +kernel
theorem dX4_add_14 : decode cX4_add 14 = .ok (.aload_n 0, 1) := by decide +kernel
theorem dX4_add_15 : decode cX4_add 15 = .ok (.getfield 18, 3) := by decide +kernel
theorem dX4_add_18 : decode cX4_add 18 = .ok (.iload_n 2, 1) := by decide +kernel
theorem dX4_add_19 : decode cX4_add 19 = .ok (.iastore, 1) := by decide +kernel
theorem dX4_add_20 : decode cX4_add 20 = .ok (.aload_n 0, 1) := by decide +kernel
theorem dX4_add_21 : decode cX4_add 21 = .ok (.dup, 1) := by decide +kernel
theorem dX4_add_22 : decode cX4_add 22 = .ok (.getfield 18, 3) := by decide +kernel
theorem dX4_add_25 : decode cX4_add 25 = .ok (.iconst 1, 1) := by decide +kernel
theorem dX4_add_26 : decode cX4_add 26 = .ok (.iadd, 1) := by decide +kernel
theorem dX4_add_27 : decode cX4_add 27 = .ok (.putfield 18, 3) := by decide +kernel
theorem dX4_add_30 : decode cX4_add 30 = .ok (.aload_n 0, 1) := by decide +kernel
theorem dX4_add_31 : decode cX4_add 31 = .ok (.getfield 18, 3) := by decide +kernel
theorem dX4_add_34 : decode cX4_add 34 = .ok (.iconst 1, 1) := by decide +kernel
theorem dX4_add_35 : decode cX4_add 35 = .ok (.isub, 1) := by decide +kernel
theorem dX4_add_36 : decode cX4_add 36 = .ok (.ireturn, 1) := by decide +kernel
theorem dX4_lastTime_0 : decode cX4_lastTime 0 = .ok (.aload_n 0, 1) := by decide +kernel
theorem dX4_lastTime_1 : decode cX4_lastTime 1 = .ok (.getfield 18, 3) := by decide +kernel
theorem dX4_lastTime_4 : decode cX4_lastTime 4 = .ok (.ifCond .ne 7, 3) := by decide +kernel
theorem dX4_lastTime_7 : decode cX4_lastTime 7 = .ok (.iconst 0, 1) := by decide +kernel
theorem dX4_lastTime_8 : decode cX4_lastTime 8 = .ok (.goto 14, 3) := by decide +kernel
theorem dX4_lastTime_11 : decode cX4_lastTime 11 = .ok (.aload_n 0, 1) := by decide +kernel
theorem dX4_lastTime_12 : decode cX4_lastTime 12 = .ok (.getfield 15, 3) := by decide +kernel
theorem dX4_lastTime_15 : decode cX4_lastTime 15 = .ok (.aload_n 0, 1) := by decide +kernel
theorem dX4_lastTime_16 : decode cX4_lastTime 16 = .ok (.getfield 18, 3) := by decide +kernel
theorem dX4_lastTime_19 : decode cX4_lastTime 19 = .ok (.iconst 1, 1) := by decide +kernel
theorem dX4_lastTime_20 : decode cX4_lastTime 20 = .ok (.isub, 1) := by decide +kernel
theorem dX4_lastTime_21 : decode cX4_lastTime 21 = .ok (.iaload, 1) := by decide +kernel
theorem dX4_lastTime_22 : decode cX4_lastTime 22 = .ok (.ireturn, 1) := by decide +kernel
theorem dX5_init_0 : decode cX5_init 0 = .ok (.aload_n 0, 1) := by decide +kernel
theorem dX5_init_1 : decode cX5_init 1 = .ok (.invokespecial 3, 3) := by decide +kernel
theorem dX5_init_4 : decode cX5_init 4 = .ok (.aload_n 0, 1) := by decide +kernel
theorem dX5_init_5 : decode cX5_init 5 = .ok (.bipush 74, 2) := by decide +kernel
theorem dX5_init_7 : decode cX5_init 7 = .ok (.newarray .int, 2) := by decide +kernel
theorem dX5_init_9 : decode cX5_init 9 = .ok (.putfield 9, 3) := by decide +kernel
theorem dX5_init_12 : decode cX5_init 12 = .ok (.aload_n 0, 1) := by decide +kernel
theorem dX5_init_13 : decode cX5_init 13 = .ok (.bipush 74, 2) := by decide +kernel
theorem dX5_init_15 : decode cX5_init 15 = .ok (.newarray .int, 2) := by decide +kernel
theorem dX5_init_17 : decode cX5_init 17 = .ok (.putfield 15, 3) := by decide +kernel
theorem dX5_init_20 : decode cX5_init 20 = .ok (.aload_n 0, 1) := by decide +kernel
theorem dX5_init_21 : decode cX5_init 21 = .ok (.bipush 74, 2) := by decide +kernel
theorem dX5_init_23 : decode cX5_init 23 = .ok (.newarray .int, 2) := by decide +kernel
theorem dX5_init_25 : decode cX5_init 25 = .ok (.putfield 18, 3) := by decide +kernel
theorem dX5_init_28 : decode cX5_init 28 = .ok (.aload_n 0, 1) := by decide +kernel
theorem dX5_init_29 : decode cX5_init 29 = .ok (.bipush 62, 2) := by decide +kernel
theorem dX5_init_31 : decode cX5_init 31 = .ok (.newarray .int, 2) := by decide +kernel
theorem dX5_init_33 : decode cX5_init 33 = .ok (.putfield 21, 3) := by decide +kernel
theorem dX5_init_36 : decode cX5_init 36 = .ok (.aload_n 0, 1) := by decide +kernel
theorem dX5_init_37 : decode cX5_init 37 = .ok (.aload_n 1, 1) := by decide +kernel
theorem dX5_init_38 : decode cX5_init 38 = .ok (.putfield 24, 3) := by decide +kernel
theorem dX5_init_41 : decode cX5_init 41 = .ok (.return_, 1) := by decide +kernel
theorem dX5_lay_0 : decode cX5_lay 0 = .ok (.aload_n 0, 1) := by decide +kernel
theorem dX5_lay_1 : decode cX5_lay 1 = .ok (.iconst 0, 1) := by decide +kernel
theorem dX5_lay_2 : decode cX5_lay 2 = .ok (.putfield 28, 3) := by decide +kernel
theorem dX5_lay_5 : decode cX5_lay 5 = .ok (.iconst (-1), 1) := by decide +kernel
theorem dX5_lay_6 : decode cX5_lay 6 = .ok (.istore_n 1, 1) := by decide +kernel
theorem dX5_lay_7 : decode cX5_lay 7 = .ok (.iload_n 1, 1) := by decide +kernel
theorem dX5_lay_8 : decode cX5_lay 8 = .ok (.aload_n 0, 1) := by decide +kernel
theorem dX5_lay_9 : decode cX5_lay 9 = .ok (.getfield 24, 3) := by decide +kernel
theorem dX5_lay_12 : decode cX5_lay 12 = .ok (.getfield 32, 3) := by decide +kernel
theorem dX5_lay_15 : decode cX5_lay 15 = .ok (.if_icmp .ge 42, 3) := by decide +kernel
theorem dX5_lay_18 : decode cX5_lay 18 = .ok (.aload_n 0, 1) := by decide +kernel
theorem dX5_lay_19 : decode cX5_lay 19 = .ok (.getfield 21, 3) := by decide +kernel
theorem dX5_lay_22 : decode cX5_lay 22 = .ok (.iload_n 1, 1) := by decide +kernel
theorem dX5_lay_23 : decode cX5_lay 23 = .ok (.iconst 1, 1) := by decide +kernel
theorem dX5_lay_24 : decode cX5_lay 24 = .ok (.iadd, 1) := by decide +kernel
theorem dX5_lay_25 : decode cX5_lay 25 = .ok (.aload_n 0, 1) := by decide +kernel
theorem dX5_lay_26 : decode cX5_lay 26 = .ok (.getfield 28, 3) := by decide +kernel
theorem dX5_lay_29 : decode cX5_lay 29 = .ok (.iastore, 1) := by decide +kernel
theorem dX5_lay_30 : decode cX5_lay 30 = .ok (.iload_n 1, 1) := by decide +kernel
theorem dX5_lay_31 : decode cX5_lay 31 = .ok (.iconst (-1), 1) := by decide +kernel
theorem dX5_lay_32 : decode cX5_lay 32 = .ok (.if_icmp .eq 14, 3) := by decide +kernel
theorem dX5_lay_35 : decode cX5_lay 35 = .ok (.aload_n 0, 1) := by decide +kernel
theorem dX5_lay_36 : decode cX5_lay 36 = .ok (.getfield 24, 3) := by decide +kernel
theorem dX5_lay_39 : decode cX5_lay 39 = .ok (.iload_n 1, 1) := by decide +kernel
theorem dX5_lay_40 : decode cX5_lay 40 = .ok (.invokevirtual 37, 3) := by decide +kernel
theorem dX5_lay_43 : decode cX5_lay 43 = .ok (.ifCond .eq 8, 3) := by decide +kernel
theorem dX5_lay_46 : decode cX5_lay 46 = .ok (.aload_n 0, 1) := by decide +kernel
theorem dX5_lay_47 : decode cX5_lay 47 = .ok (.iload_n 1, 1) := by decide +kernel
theorem dX5_lay_48 : decode cX5_lay 48 = .ok (.invokevirtual 41, 3) := by decide +kernel
theorem dX5_lay_51 : decode cX5_lay 51 = .ok (.iinc 1 1, 3) := by decide +kernel
theorem dX5_lay_54 : decode cX5_lay 54 = .ok (.goto (-47), 3) := by decide +kernel
theorem dX5_lay_57 : decode cX5_lay 57 = .ok (.aload_n 0, 1) := by decide +kernel
theorem dX5_lay_58 : decode cX5_lay 58 = .ok (.getfield 21, 3) := by decide +kernel
theorem dX5_lay_61 : decode cX5_lay 61 = .ok (.aload_n 0, 1) := by decide +kernel
theorem dX5_lay_62 : decode cX5_lay 62 = .ok (.getfield 24, 3) := by decide +kernel
theorem dX5_lay_65 : decode cX5_lay 65 = .ok (.getfield 32, 3) := by decide +kernel
theorem dX5_lay_68 : decode cX5_lay 68 = .ok (.iconst 1, 1) := by decide +kernel
theorem dX5_lay_69 : decode cX5_lay 69 = .ok (.iadd, 1) := by decide +kernel
theorem dX5_lay_70 : decode cX5_lay 70 = .ok (.aload_n 0, 1) := by decide +kernel
theorem dX5_lay_71 : decode cX5_lay 71 = .ok (.getfield 28, 3) := by decide +kernel
theorem dX5_lay_74 : decode cX5_lay 74 = .ok (.iastore, 1) := by decide +kernel
theorem dX5_lay_75 : decode cX5_lay 75 = .ok (.return_, 1) := by decide +kernel
theorem dX5_layFrom_0 : decode cX5_layFrom 0 = .ok (.iload_n 1, 1) := by decide +kernel
theorem dX5_layFrom_1 : decode cX5_layFrom 1 = .ok (.iconst (-1), 1) := by decide +kernel
theorem dX5_layFrom_2 : decode cX5_layFrom 2 = .ok (.if_icmp .ne 13, 3) := by decide +kernel
theorem dX5_layFrom_5 : decode cX5_layFrom 5 = .ok (.aload_n 0, 1) := by decide +kernel
theorem dX5_layFrom_6 : decode cX5_layFrom 6 = .ok (.getfield 24, 3) := by decide +kernel
theorem dX5_layFrom_9 : decode cX5_layFrom 9 = .ok (.invokevirtual 45, 3) := by decide +kernel
theorem dX5_layFrom_12 : decode cX5_layFrom 12 = .ok (.goto 6, 3) := by decide +kernel
theorem dX5_layFrom_15 : decode cX5_layFrom 15 = .ok (.iload_n 1, 1) := by decide +kernel
theorem dX5_layFrom_16 : decode cX5_layFrom 16 = .ok (.iconst 1, 1) := by decide +kernel
theorem dX5_layFrom_17 : decode cX5_layFrom 17 = .ok (.iadd, 1) := by decide +kernel
theorem dX5_layFrom_18 : decode cX5_layFrom 18 = .ok (.istore_n 2, 1) := by decide +kernel
theorem dX5_layFrom_19 : decode cX5_layFrom 19 = .ok (.aload_n 0, 1) := by decide +kernel
theorem dX5_layFrom_20 : decode cX5_layFrom 20 = .ok (.getfield 24, 3) := by decide +kernel
theorem dX5_layFrom_23 : decode cX5_layFrom 23 = .ok (.iload_n 2, 1) := by decide +kernel
theorem dX5_layFrom_24 : decode cX5_layFrom 24 = .ok (.invokevirtual 37, 3) := by decide +kernel
theorem dX5_layFrom_27 : decode cX5_layFrom 27 = .ok (.ifCond .eq 10, 3) := by decide +kernel
theorem dX5_layFrom_30 : decode cX5_layFrom 30 = .ok (.aload_n 0, 1) := by decide +kernel
theorem dX5_layFrom_31 : decode cX5_layFrom 31 = .ok (.iload_n 1, 1) := by decide +kernel
theorem dX5_layFrom_32 : decode cX5_layFrom 32 = .ok (.iload_n 2, 1) := by decide +kernel
theorem dX5_layFrom_33 : decode cX5_layFrom 33 = .ok (.iconst 0, 1) := by decide +kernel
theorem dX5_layFrom_34 : decode cX5_layFrom 34 = .ok (.invokevirtual 49, 3) := by decide +kernel
theorem dX5_layFrom_37 : decode cX5_layFrom 37 = .ok (.aload_n 0, 1) := by decide +kernel
theorem dX5_layFrom_38 : decode cX5_layFrom 38 = .ok (.getfield 24, 3) := by decide +kernel
theorem dX5_layFrom_41 : decode cX5_layFrom 41 = .ok (.invokevirtual 53, 3) := by decide +kernel
theorem dX5_layFrom_44 : decode cX5_layFrom 44 = .ok (.ifCond .eq 27, 3) := by decide +kernel
theorem dX5_layFrom_47 : decode cX5_layFrom 47 = .ok (.iload_n 1, 1) := by decide +kernel
theorem dX5_layFrom_48 : decode cX5_layFrom 48 = .ok (.aload_n 0, 1) := by decide +kernel
theorem dX5_layFrom_49 : decode cX5_layFrom 49 = .ok (.getfield 24, 3) := by decide +kernel
theorem dX5_layFrom_52 : decode cX5_layFrom 52 = .ok (.getfield 57, 3) := by decide +kernel
theorem dX5_layFrom_55 : decode cX5_layFrom 55 = .ok (.if_icmp .ne 16, 3) := by decide +kernel
theorem dX5_layFrom_58 : decode cX5_layFrom 58 = .ok (.aload_n 0, 1) := by decide +kernel
theorem dX5_layFrom_59 : decode cX5_layFrom 59 = .ok (.iload_n 1, 1) := by decide +kernel
theorem dX5_layFrom_60 : decode cX5_layFrom 60 = .ok (.aload_n 0, 1) := by decide +kernel
theorem dX5_layFrom_61 : decode cX5_layFrom 61 = .ok (.getfield 24, 3) := by decide +kernel
theorem dX5_layFrom_64 : decode cX5_layFrom 64 = .ok (.getfield 60, 3) := by decide +kernel
theorem dX5_layFrom_67 : decode cX5_layFrom 67 = .ok (.iconst 0, 1) := by decide +kernel
theorem dX5_layFrom_68 : decode cX5_layFrom 68 = .ok (.invokevirtual 49, 3) := by decide +kernel
theorem dX5_layFrom_71 : decode cX5_layFrom 71 = .ok (.iconst 0, 1) := by decide +kernel
theorem dX5_layFrom_72 : decode cX5_layFrom 72 = .ok (.istore_n 3, 1) := by decide +kernel
theorem dX5_layFrom_73 : decode cX5_layFrom 73 = .ok (.iload_n 3, 1) := by decide +kernel
theorem dX5_layFrom_74 : decode cX5_layFrom 74 = .ok (.aload_n 0, 1) := by decide +kernel
theorem dX5_layFrom_75 : decode cX5_layFrom 75 = .ok (.getfield 24, 3) := by decide +kernel
theorem dX5_layFrom_78 : decode cX5_layFrom 78 = .ok (.getfield 63, 3) := by decide +kernel
theorem dX5_layFrom_81 : decode cX5_layFrom 81 = .ok (.if_icmp .ge 64, 3) := by decide +kernel
theorem dX5_layFrom_84 : decode cX5_layFrom 84 = .ok (.aload_n 0, 1) := by decide +kernel
theorem dX5_layFrom_85 : decode cX5_layFrom 85 = .ok (.getfield 24, 3) := by decide +kernel
theorem dX5_layFrom_88 : decode cX5_layFrom 88 = .ok (.getfield 66, 3) := by decide +kernel
theorem dX5_layFrom_91 : decode cX5_layFrom 91 = .ok (.iload_n 3, 1) := by decide +kernel
theorem dX5_layFrom_92 : decode cX5_layFrom 92 = .ok (.iaload, 1) := by decide +kernel
theorem dX5_layFrom_93 : decode cX5_layFrom 93 = .ok (.iload_n 1, 1) := by decide +kernel
theorem dX5_layFrom_94 : decode cX5_layFrom 94 = .ok (.if_icmp .ne 45, 3) := by decide +kernel
theorem dX5_layFrom_97 : decode cX5_layFrom 97 = .ok (.aload_n 0, 1) := by decide +kernel
theorem dX5_layFrom_98 : decode cX5_layFrom 98 = .ok (.getfield 24, 3) := by decide +kernel
theorem dX5_layFrom_101 : decode cX5_layFrom 101 = .ok (.aload_n 0, 1) := by decide +kernel
theorem dX5_layFrom_102 : decode cX5_layFrom 102 = .ok (.getfield 24, 3) := by decide +kernel
theorem dX5_layFrom_105 : decode cX5_layFrom 105 = .ok (.getfield 69, 3) := by decide +kernel
theorem dX5_layFrom_108 : decode cX5_layFrom 108 = .ok (.iload_n 3, 1) := by decide +kernel
theorem dX5_layFrom_109 : decode cX5_layFrom 109 = .ok (.iaload, 1) := by decide +kernel
theorem dX5_layFrom_110 : decode cX5_layFrom 110 = .ok (.invokevirtual 37, 3) := by decide +kernel
theorem dX5_layFrom_113 : decode cX5_layFrom 113 = .ok (.ifCond .eq 26, 3) := by decide +kernel
theorem dX5_layFrom_116 : decode cX5_layFrom 116 = .ok (.aload_n 0, 1) := by decide +kernel
theorem dX5_layFrom_117 : decode cX5_layFrom 117 = .ok (.iload_n 1, 1) := by decide +kernel
theorem dX5_layFrom_118 : decode cX5_layFrom 118 = .ok (.aload_n 0, 1) := by decide +kernel
theorem dX5_layFrom_119 : decode cX5_layFrom 119 = .ok (.getfield 24, 3) := by decide +kernel
theorem dX5_layFrom_122 : decode cX5_layFrom 122 = .ok (.getfield 69, 3) := by decide +kernel
theorem dX5_layFrom_125 : decode cX5_layFrom 125 = .ok (.iload_n 3, 1) := by decide +kernel
theorem dX5_layFrom_126 : decode cX5_layFrom 126 = .ok (.iaload, 1) := by decide +kernel
theorem dX5_layFrom_127 : decode cX5_layFrom 127 = .ok (.aload_n 0, 1) := by decide +kernel
theorem dX5_layFrom_128 : decode cX5_layFrom 128 = .ok (.getfield 24, 3) := by decide +kernel
theorem dX5_layFrom_131 : decode cX5_layFrom 131 = .ok (.getfield 72, 3) := by decide +kernel
theorem dX5_layFrom_134 : decode cX5_layFrom 134 = .ok (.iconst 3, 1) := by decide +kernel
theorem dX5_layFrom_135 : decode cX5_layFrom 135 = .ok (.iaload, 1) := by decide +kernel
theorem dX5_layFrom_136 : decode cX5_layFrom 136 = .ok (.invokevirtual 49, 3) := by decide +kernel
theorem dX5_layFrom_139 : decode cX5_layFrom 139 = .ok (.iinc 3 1, 3) := by decide +kernel
theorem dX5_layFrom_142 : decode cX5_layFrom 142 = .ok (.goto (-69), 3) := by decide +kernel
theorem dX5_layFrom_145 : decode cX5_layFrom 145 = .ok (.return_, 1) := by decide +kernel
theorem dX5_add_0 : decode cX5_add 0 = .ok (.aload_n 0, 1) := by decide +kernel
theorem dX5_add_1 : decode cX5_add 1 = .ok (.getfield 28, 3) := by decide +kernel
theorem dX5_add_4 : decode cX5_add 4 = .ok (.bipush 74, 2) := by decide +kernel
theorem dX5_add_6 : decode cX5_add 6 = .ok (.if_icmp .lt 4, 3) := by decide +kernel
theorem dX5_add_9 : decode cX5_add 9 = .ok (.return_, 1) := by decide +kernel
theorem dX5_add_10 : decode cX5_add 10 = .ok (.aload_n 0, 1) := by decide +kernel
theorem dX5_add_11 : decode cX5_add 11 = .ok (.getfield 9, 3) := by decide +kernel
theorem dX5_add_14 : decode cX5_add 14 = .ok (.aload_n 0, 1) := by decide +kernel
theorem dX5_add_15 : decode cX5_add 15 = .ok (.getfield 28, 3) := by decide +kernel
theorem dX5_add_18 : decode cX5_add 18 = .ok (.iload_n 1, 1) := by decide +kernel
theorem dX5_add_19 : decode cX5_add 19 = .ok (.iastore, 1) := by decide +kernel
theorem dX5_add_20 : decode cX5_add 20 = .ok (.aload_n 0, 1) := by decide +kernel
theorem dX5_add_21 : decode cX5_add 21 = .ok (.getfield 15, 3) := by decide +kernel
theorem dX5_add_24 : decode cX5_add 24 = .ok (.aload_n 0, 1) := by decide +kernel
theorem dX5_add_25 : decode cX5_add 25 = .ok (.getfield 28, 3) := by decide +kernel
theorem dX5_add_28 : decode cX5_add 28 = .ok (.iload_n 2, 1) := by decide +kernel
theorem dX5_add_29 : decode cX5_add 29 = .ok (.iastore, 1) := by decide +kernel
theorem dX5_add_30 : decode cX5_add 30 = .ok (.aload_n 0, 1) := by decide +kernel
theorem dX5_add_31 : decode cX5_add 31 = .ok (.getfield 18, 3) := by decide +kernel
theorem dX5_add_34 : decode cX5_add 34 = .ok (.aload_n 0, 1) := by decide +kernel
theorem dX5_add_35 : decode cX5_add 35 = .ok (.getfield 28, 3) := by decide +kernel
theorem dX5_add_38 : decode cX5_add 38 = .ok (.iload_n 3, 1) := by decide +kernel
theorem dX5_add_39 : decode cX5_add 39 = .ok (.iastore, 1) := by decide +kernel
theorem dX5_add_40 : decode cX5_add 40 = .ok (.aload_n 0, 1) := by decide +kernel
theorem dX5_add_41 : decode cX5_add 41 = .ok (.dup, 1) := by decide +kernel
theorem dX5_add_42 : decode cX5_add 42 = .ok (.getfield 28, 3) := by decide +kernel
theorem dX5_add_45 : decode cX5_add 45 = .ok (.iconst 1, 1) := by decide +kernel
theorem dX5_add_46 : decode cX5_add 46 = .ok (.iadd, 1) := by decide +kernel
theorem dX5_add_47 : decode cX5_add 47 = .ok (.putfield 28, 3) := by decide +kernel
theorem dX5_add_50 : decode cX5_add 50 = .ok (.return_, 1) := by decide +kernel
theorem dX5_beginOf_0 : decode cX5_beginOf 0 = .ok (.aload_n 0, 1) := by decide +kernel
theorem dX5_beginOf_1 : decode cX5_beginOf 1 = .ok (.getfield 21, 3) := by decide +kernel
theorem dX5_beginOf_4 : decode cX5_beginOf 4 = .ok (.iload_n 1, 1) := by decide +kernel
theorem dX5_beginOf_5 : decode cX5_beginOf 5 = .ok (.iconst 1, 1) := by decide +kernel
theorem dX5_beginOf_6 : decode cX5_beginOf 6 = .ok (.iadd, 1) := by decide +kernel
theorem dX5_beginOf_7 : decode cX5_beginOf 7 = .ok (.iaload, 1) := by decide +kernel
theorem dX5_beginOf_8 : decode cX5_beginOf 8 = .ok (.ireturn, 1) := by decide +kernel
theorem dX5_endOf_0 : decode cX5_endOf 0 = .ok (.aload_n 0, 1) := by decide +kernel
theorem dX5_endOf_1 : decode cX5_endOf 1 = .ok (.getfield 21, 3) := by decide +kernel
theorem dX5_endOf_4 : decode cX5_endOf 4 = .ok (.iload_n 1, 1) := by decide +kernel
theorem dX5_endOf_5 : decode cX5_endOf 5 = .ok (.iconst 2, 1) := by decide +kernel
theorem dX5_endOf_6 : decode cX5_endOf 6 = .ok (.iadd, 1) := by decide +kernel
theorem dX5_endOf_7 : decode cX5_endOf 7 = .ok (.iaload, 1) := by decide +kernel
theorem dX5_endOf_8 : decode cX5_endOf 8 = .ok (.ireturn, 1) := by decide +kernel
theorem dX6_init_0 : decode cX6_init 0 = .ok (.aload_n 0, 1) := by decide +kernel
theorem dX6_init_1 : decode cX6_init 1 = .ok (.invokespecial 3, 3) := by decide +kernel
theorem dX6_init_4 : decode cX6_init 4 = .ok (.aload_n 0, 1) := by decide +kernel
theorem dX6_init_5 : decode cX6_init 5 = .ok (.bipush 60, 2) := by decide +kernel
theorem dX6_init_7 : decode cX6_init 7 = .ok (.newarray .int, 2) := by decide +kernel
theorem dX6_init_9 : decode cX6_init 9 = .ok (.putfield 9, 3) := by decide +kernel
theorem dX6_init_12 : decode cX6_init 12 = .ok (.aload_n 0, 1) := by decide +kernel
theorem dX6_init_13 : decode cX6_init 13 = .ok (.bipush 60, 2) := by decide +kernel
theorem dX6_init_15 : decode cX6_init 15 = .ok (.newarray .int, 2) := by decide +kernel
theorem dX6_init_17 : decode cX6_init 17 = .ok (.putfield 15, 3) := by decide +kernel
theorem dX6_init_20 : decode cX6_init 20 = .ok (.aload_n 0, 1) := by decide +kernel
theorem dX6_init_21 : decode cX6_init 21 = .ok (.bipush 12, 2) := by decide +kernel
theorem dX6_init_23 : decode cX6_init 23 = .ok (.newarray .int, 2) := by decide +kernel
theorem dX6_init_25 : decode cX6_init 25 = .ok (.putfield 18, 3) := by decide +kernel
theorem dX6_init_28 : decode cX6_init 28 = .ok (.aload_n 0, 1) := by decide +kernel
theorem dX6_init_29 : decode cX6_init 29 = .ok (.bipush 12, 2) := by decide +kernel
theorem dX6_init_31 : decode cX6_init 31 = .ok (.newarray .int, 2) := by decide +kernel
theorem dX6_init_33 : decode cX6_init 33 = .ok (.putfield 21, 3) := by decide +kernel
theorem dX6_init_36 : decode cX6_init 36 = .ok (.aload_n 0, 1) := by decide +kernel
theorem dX6_init_37 : decode cX6_init 37 = .ok (.getstatic 24, 3) := by decide +kernel
theorem dX6_init_40 : decode cX6_init 40 = .ok (.arraylength, 1) := by decide +kernel
theorem dX6_init_41 : decode cX6_init 41 = .ok (.newarray .int, 2) := by decide +kernel
theorem dX6_init_43 : decode cX6_init 43 = .ok (.putfield 27, 3) := by decide +kernel
theorem dX6_init_46 : decode cX6_init 46 = .ok (.aload_n 0, 1) := by decide +kernel
theorem dX6_init_47 : decode cX6_init 47 = .ok (.invokevirtual 30, 3) := by decide +kernel
theorem dX6_init_50 : decode cX6_init 50 = .ok (.return_, 1) := by decide +kernel
theorem dX6_empty_0 : decode cX6_empty 0 = .ok (.aload_n 0, 1) := by decide +kernel
theorem dX6_empty_1 : decode cX6_empty 1 = .ok (.iconst 0, 1) := by decide +kernel
theorem dX6_empty_2 : decode cX6_empty 2 = .ok (.putfield 33, 3) := by decide +kernel
theorem dX6_empty_5 : decode cX6_empty 5 = .ok (.aload_n 0, 1) := by decide +kernel
theorem dX6_empty_6 : decode cX6_empty 6 = .ok (.iconst 0, 1) := by decide +kernel
theorem dX6_empty_7 : decode cX6_empty 7 = .ok (.putfield 37, 3) := by decide +kernel
theorem dX6_empty_10 : decode cX6_empty 10 = .ok (.aload_n 0, 1) := by decide +kernel
theorem dX6_empty_11 : decode cX6_empty 11 = .ok (.iconst (-1), 1) := by decide +kernel
theorem dX6_empty_12 : decode cX6_empty 12 = .ok (.putfield 40, 3) := by decide +kernel
theorem dX6_empty_15 : decode cX6_empty 15 = .ok (.aload_n 0, 1) := by decide +kernel
theorem dX6_empty_16 : decode cX6_empty 16 = .ok (.iconst (-1), 1) := by decide +kernel
theorem dX6_empty_17 : decode cX6_empty 17 = .ok (.putfield 43, 3) := by decide +kernel
theorem dX6_empty_20 : decode cX6_empty 20 = .ok (.aload_n 0, 1) := by decide +kernel
theorem dX6_empty_21 : decode cX6_empty 21 = .ok (.bipush 8, 2) := by decide +kernel
theorem dX6_empty_23 : decode cX6_empty 23 = .ok (.putfield 46, 3) := by decide +kernel
theorem dX6_empty_26 : decode cX6_empty 26 = .ok (.iconst 0, 1) := by decide +kernel
theorem dX6_empty_27 : decode cX6_empty 27 = .ok (.istore_n 1, 1) := by decide +kernel
theorem dX6_empty_28 : decode cX6_empty 28 = .ok (.iload_n 1, 1) := by decide +kernel
theorem dX6_empty_29 : decode cX6_empty 29 = .ok (.getstatic 24, 3) := by decide +kernel
theorem dX6_empty_32 : decode cX6_empty 32 = .ok (.arraylength, 1) := by decide +kernel
theorem dX6_empty_33 : decode cX6_empty 33 = .ok (.if_icmp .ge 20, 3) := by decide +kernel
theorem dX6_empty_36 : decode cX6_empty 36 = .ok (.aload_n 0, 1) := by decide +kernel
theorem dX6_empty_37 : decode cX6_empty 37 = .ok (.getfield 27, 3) := by decide +kernel
theorem dX6_empty_40 : decode cX6_empty 40 = .ok (.iload_n 1, 1) := by decide +kernel
theorem dX6_empty_41 : decode cX6_empty 41 = .ok (.getstatic 24, 3) := by decide +kernel
theorem dX6_empty_44 : decode cX6_empty 44 = .ok (.iload_n 1, 1) := by decide +kernel
theorem dX6_empty_45 : decode cX6_empty 45 = .ok (.iaload, 1) := by decide +kernel
theorem dX6_empty_46 : decode cX6_empty 46 = .ok (.iastore, 1) := by decide +kernel
theorem dX6_empty_47 : decode cX6_empty 47 = .ok (.iinc 1 1, 3) := by decide +kernel
theorem dX6_empty_50 : decode cX6_empty 50 = .ok (.goto (-22), 3) := by decide +kernel
theorem dX6_empty_53 : decode cX6_empty 53 = .ok (.return_, 1) := by decide +kernel
theorem dX6_addNote_0 : decode cX6_addNote 0 = .ok (.aload_n 0, 1) := by decide +kernel
theorem dX6_addNote_1 : decode cX6_addNote 1 = .ok (.getfield 9, 3) := by decide +kernel
theorem dX6_addNote_4 : decode cX6_addNote 4 = .ok (.aload_n 0, 1) := by decide +kernel
theorem dX6_addNote_5 : decode cX6_addNote 5 = .ok (.getfield 33, 3) := by decide +kernel
theorem dX6_addNote_8 : decode cX6_addNote 8 = .ok (.iload_n 1, 1) := by decide +kernel
theorem dX6_addNote_9 : decode cX6_addNote 9 = .ok (.iastore, 1) := by decide +kernel
theorem dX6_addNote_10 : decode cX6_addNote 10 = .ok (.aload_n 0, 1) := by decide +kernel
theorem dX6_addNote_11 : decode cX6_addNote 11 = .ok (.getfield 15, 3) := by decide +kernel
theorem dX6_addNote_14 : decode cX6_addNote 14 = .ok (.aload_n 0, 1) := by decide +kernel
theorem dX6_addNote_15 : decode cX6_addNote 15 = .ok (.getfield 33, 3) := by decide +kernel
theorem dX6_addNote_18 : decode cX6_addNote 18 = .ok (.iload_n 2, 1) := by decide +kernel
theorem dX6_addNote_19 : decode cX6_addNote 19 = .ok (.iastore, 1) := by decide +kernel
theorem dX6_addNote_20 : decode cX6_addNote 20 = .ok (.aload_n 0, 1) := by decide +kernel
theorem dX6_addNote_21 : decode cX6_addNote 21 = .ok (.dup, 1) := by decide +kernel
theorem dX6_addNote_22 : decode cX6_addNote 22 = .ok (.getfield 33, 3) := by decide +kernel
theorem dX6_addNote_25 : decode cX6_addNote 25 = .ok (.iconst 1, 1) := by decide +kernel
theorem dX6_addNote_26 : decode cX6_addNote 26 = .ok (.iadd, 1) := by decide +kernel
theorem dX6_addNote_27 : decode cX6_addNote 27 = .ok (.putfield 33, 3) := by decide +kernel
theorem dX6_addNote_30 : decode cX6_addNote 30 = .ok (.aload_n 0, 1) := by decide +kernel
theorem dX6_addNote_31 : decode cX6_addNote 31 = .ok (.getfield 33, 3) := by decide +kernel
theorem dX6_addNote_34 : decode cX6_addNote 34 = .ok (.iconst 1, 1) := by decide +kernel
theorem dX6_addNote_35 : decode cX6_addNote 35 = .ok (.isub, 1) := by decide +kernel
theorem dX6_addNote_36 : decode cX6_addNote 36 = .ok (.ireturn, 1) := by decide +kernel
theorem dX6_addWay_0 : decode cX6_addWay 0 = .ok (.aload_n 0, 1) := by decide +kernel
theorem dX6_addWay_1 : decode cX6_addWay 1 = .ok (.getfield 18, 3) := by decide +kernel
theorem dX6_addWay_4 : decode cX6_addWay 4 = .ok (.aload_n 0, 1) := by decide +kernel
theorem dX6_addWay_5 : decode cX6_addWay 5 = .ok (.getfield 37, 3) := by decide +kernel
theorem dX6_addWay_8 : decode cX6_addWay 8 = .ok (.iload_n 1, 1) := by decide +kernel
theorem dX6_addWay_9 : decode cX6_addWay 9 = .ok (.iastore, 1) := by decide +kernel
theorem dX6_addWay_10 : decode cX6_addWay 10 = .ok (.aload_n 0, 1) := by decide +kernel
theorem dX6_addWay_11 : decode cX6_addWay 11 = .ok (.getfield 21, 3) := by decide +kernel
theorem dX6_addWay_14 : decode cX6_addWay 14 = .ok (.aload_n 0, 1) := by decide +kernel
theorem dX6_addWay_15 : decode cX6_addWay 15 = .ok (.getfield 37, 3) := by decide +kernel
theorem dX6_addWay_18 : decode cX6_addWay 18 = .ok (.iload_n 2, 1) := by decide +kernel
theorem dX6_addWay_19 : decode cX6_addWay 19 = .ok (.iastore, 1) := by decide +kernel
theorem dX6_addWay_20 : decode cX6_addWay 20 = .ok (.aload_n 0, 1) := by decide +kernel
theorem dX6_addWay_21 : decode cX6_addWay 21 = .ok (.dup, 1) := by decide +kernel
theorem dX6_addWay_22 : decode cX6_addWay 22 = .ok (.getfield 37, 3) := by decide +kernel
theorem dX6_addWay_25 : decode cX6_addWay 25 = .ok (.iconst 1, 1) := by decide +kernel
theorem dX6_addWay_26 : decode cX6_addWay 26 = .ok (.iadd, 1) := by decide +kernel
theorem dX6_addWay_27 : decode cX6_addWay 27 = .ok (.putfield 37, 3) := by decide +kernel
theorem dX6_addWay_30 : decode cX6_addWay 30 = .ok (.aload_n 0, 1) := by decide +kernel
theorem dX6_addWay_31 : decode cX6_addWay 31 = .ok (.getfield 37, 3) := by decide +kernel
theorem dX6_addWay_34 : decode cX6_addWay 34 = .ok (.iconst 1, 1) := by decide +kernel
theorem dX6_addWay_35 : decode cX6_addWay 35 = .ok (.isub, 1) := by decide +kernel
theorem dX6_addWay_36 : decode cX6_addWay 36 = .ok (.ireturn, 1) := by decide +kernel
theorem dX6_isNote_0 : decode cX6_isNote 0 = .ok (.iload_n 1, 1) := by decide +kernel
theorem dX6_isNote_1 : decode cX6_isNote 1 = .ok (.ifCond .lt 15, 3) := by decide +kernel
theorem dX6_isNote_4 : decode cX6_isNote 4 = .ok (.iload_n 1, 1) := by decide +kernel
theorem dX6_isNote_5 : decode cX6_isNote 5 = .ok (.aload_n 0, 1) := by decide +kernel
theorem dX6_isNote_6 : decode cX6_isNote 6 = .ok (.getfield 33, 3) := by decide +kernel
theorem dX6_isNote_9 : decode cX6_isNote 9 = .ok (.if_icmp .ge 7, 3) := by decide +kernel
theorem dX6_isNote_12 : decode cX6_isNote 12 = .ok (.iconst 1, 1) := by decide +kernel
theorem dX6_isNote_13 : decode cX6_isNote 13 = .ok (.goto 4, 3) := by decide +kernel
theorem dX6_isNote_16 : decode cX6_isNote 16 = .ok (.iconst 0, 1) := by decide +kernel
theorem dX6_isNote_17 : decode cX6_isNote 17 = .ok (.ireturn, 1) := by decide +kernel
theorem dX6_hasWay_0 : decode cX6_hasWay 0 = .ok (.iconst 0, 1) := by decide +kernel
theorem dX6_hasWay_1 : decode cX6_hasWay 1 = .ok (.istore_n 3, 1) := by decide +kernel
theorem dX6_hasWay_2 : decode cX6_hasWay 2 = .ok (.iload_n 3, 1) := by decide +kernel
theorem dX6_hasWay_3 : decode cX6_hasWay 3 = .ok (.aload_n 0, 1) := by decide +kernel
theorem dX6_hasWay_4 : decode cX6_hasWay 4 = .ok (.getfield 37, 3) := by decide +kernel
theorem dX6_hasWay_7 : decode cX6_hasWay 7 = .ok (.if_icmp .ge 31, 3) := by decide +kernel
theorem dX6_hasWay_10 : decode cX6_hasWay 10 = .ok (.aload_n 0, 1) := by decide +kernel
theorem dX6_hasWay_11 : decode cX6_hasWay 11 = .ok (.getfield 18, 3) := by decide +kernel
theorem dX6_hasWay_14 : decode cX6_hasWay 14 = .ok (.iload_n 3, 1) := by decide +kernel
theorem dX6_hasWay_15 : decode cX6_hasWay 15 = .ok (.iaload, 1) := by decide +kernel
theorem dX6_hasWay_16 : decode cX6_hasWay 16 = .ok (.iload_n 1, 1) := by decide +kernel
theorem dX6_hasWay_17 : decode cX6_hasWay 17 = .ok (.if_icmp .ne 15, 3) := by decide +kernel
theorem dX6_hasWay_20 : decode cX6_hasWay 20 = .ok (.aload_n 0, 1) := by decide +kernel
theorem dX6_hasWay_21 : decode cX6_hasWay 21 = .ok (.getfield 21, 3) := by decide +kernel
theorem dX6_hasWay_24 : decode cX6_hasWay 24 = .ok (.iload_n 3, 1) := by decide +kernel
theorem dX6_hasWay_25 : decode cX6_hasWay 25 = .ok (.iaload, 1) := by decide +kernel
theorem dX6_hasWay_26 : decode cX6_hasWay 26 = .ok (.iload_n 2, 1) := by decide +kernel
theorem dX6_hasWay_27 : decode cX6_hasWay 27 = .ok (.if_icmp .ne 5, 3) := by decide +kernel
theorem dX6_hasWay_30 : decode cX6_hasWay 30 = .ok (.iconst 1, 1) := by decide +kernel
theorem dX6_hasWay_31 : decode cX6_hasWay 31 = .ok (.ireturn, 1) := by decide +kernel
theorem dX6_hasWay_32 : decode cX6_hasWay 32 = .ok (.iinc 3 1, 3) := by decide +kernel
theorem dX6_hasWay_35 : decode cX6_hasWay 35 = .ok (.goto (-33), 3) := by decide +kernel
theorem dX6_hasWay_38 : decode cX6_hasWay 38 = .ok (.iconst 0, 1) := by decide +kernel
theorem dX6_hasWay_39 : decode cX6_hasWay 39 = .ok (.ireturn, 1) := by decide +kernel
theorem dX6_hasLoop_0 : decode cX6_hasLoop 0 = .ok (.aload_n 0, 1) := by decide +kernel
theorem dX6_hasLoop_1 : decode cX6_hasLoop 1 = .ok (.getfield 40, 3) := by decide +kernel
theorem dX6_hasLoop_4 : decode cX6_hasLoop 4 = .ok (.iconst (-1), 1) := by decide +kernel
theorem dX6_hasLoop_5 : decode cX6_hasLoop 5 = .ok (.if_icmp .eq 7, 3) := by decide +kernel
theorem dX6_hasLoop_8 : decode cX6_hasLoop 8 = .ok (.iconst 1, 1) := by decide +kernel
theorem dX6_hasLoop_9 : decode cX6_hasLoop 9 = .ok (.goto 4, 3) := by decide +kernel
theorem dX6_hasLoop_12 : decode cX6_hasLoop 12 = .ok (.iconst 0, 1) := by decide +kernel
theorem dX6_hasLoop_13 : decode cX6_hasLoop 13 = .ok (.ireturn, 1) := by decide +kernel
theorem dX6_lastStart_0 : decode cX6_lastStart 0 = .ok (.aload_n 0, 1) := by decide +kernel
theorem dX6_lastStart_1 : decode cX6_lastStart 1 = .ok (.getfield 33, 3) := by decide +kernel
theorem dX6_lastStart_4 : decode cX6_lastStart 4 = .ok (.ifCond .ne 7, 3) := by decide +kernel
theorem dX6_lastStart_7 : decode cX6_lastStart 7 = .ok (.iconst (-1), 1) := by decide +kernel
theorem dX6_lastStart_8 : decode cX6_lastStart 8 = .ok (.goto 14, 3) := by decide +kernel
theorem dX6_lastStart_11 : decode cX6_lastStart 11 = .ok (.aload_n 0, 1) := by decide +kernel
theorem dX6_lastStart_12 : decode cX6_lastStart 12 = .ok (.getfield 15, 3) := by decide +kernel
theorem dX6_lastStart_15 : decode cX6_lastStart 15 = .ok (.aload_n 0, 1) := by decide +kernel
theorem dX6_lastStart_16 : decode cX6_lastStart 16 = .ok (.getfield 33, 3) := by decide +kernel
theorem dX6_lastStart_19 : decode cX6_lastStart 19 = .ok (.iconst 1, 1) := by decide +kernel
theorem dX6_lastStart_20 : decode cX6_lastStart 20 = .ok (.isub, 1) := by decide +kernel
theorem dX6_lastStart_21 : decode cX6_lastStart 21 = .ok (.iaload, 1) := by decide +kernel
theorem dX6_lastStart_22 : decode cX6_lastStart 22 = .ok (.ireturn, 1) := by decide +kernel
theorem dX6_firstThere_0 : decode cX6_firstThere 0 = .ok (.aload_n 0, 1) := by decide +kernel
theorem dX6_firstThere_1 : decode cX6_firstThere 1 = .ok (.invokevirtual 49, 3) := by decide +kernel
theorem dX6_firstThere_4 : decode cX6_firstThere 4 = .ok (.ifCond .eq 10, 3) := by decide +kernel
theorem dX6_firstThere_7 : decode cX6_firstThere 7 = .ok (.aload_n 0, 1) := by decide +kernel
theorem dX6_firstThere_8 : decode cX6_firstThere 8 = .ok (.getfield 40, 3) := by decide +kernel
theorem dX6_firstThere_11 : decode cX6_firstThere 11 = .ok (.goto 4, 3) := by decide +kernel
theorem dX6_firstThere_14 : decode cX6_firstThere 14 = .ok (.iconst 0, 1) := by decide +kernel
theorem dX6_firstThere_15 : decode cX6_firstThere 15 = .ok (.ireturn, 1) := by decide +kernel
theorem dX6_lastThere_0 : decode cX6_lastThere 0 = .ok (.aload_n 0, 1) := by decide +kernel
theorem dX6_lastThere_1 : decode cX6_lastThere 1 = .ok (.invokevirtual 49, 3) := by decide +kernel
theorem dX6_lastThere_4 : decode cX6_lastThere 4 = .ok (.ifCond .eq 10, 3) := by decide +kernel
theorem dX6_lastThere_7 : decode cX6_lastThere 7 = .ok (.aload_n 0, 1) := by decide +kernel
theorem dX6_lastThere_8 : decode cX6_lastThere 8 = .ok (.getfield 43, 3) := by decide +kernel
theorem dX6_lastThere_11 : decode cX6_lastThere 11 = .ok (.goto 9, 3) := by decide +kernel
theorem dX6_lastThere_14 : decode cX6_lastThere 14 = .ok (.aload_n 0, 1) := by decide +kernel
theorem dX6_lastThere_15 : decode cX6_lastThere 15 = .ok (.getfield 33, 3) := by decide +kernel
theorem dX6_lastThere_18 : decode cX6_lastThere 18 = .ok (.iconst 1, 1) := by decide +kernel
theorem dX6_lastThere_19 : decode cX6_lastThere 19 = .ok (.isub, 1) := by decide +kernel
theorem dX6_lastThere_20 : decode cX6_lastThere 20 = .ok (.ireturn, 1) := by decide +kernel
theorem dX6_isThere_0 : decode cX6_isThere 0 = .ok (.iload_n 1, 1) := by decide +kernel
theorem dX6_isThere_1 : decode cX6_isThere 1 = .ok (.aload_n 0, 1) := by decide +kernel
theorem dX6_isThere_2 : decode cX6_isThere 2 = .ok (.invokevirtual 53, 3) := by decide +kernel
theorem dX6_isThere_5 : decode cX6_isThere 5 = .ok (.if_icmp .lt 15, 3) := by decide +kernel
theorem dX6_isThere_8 : decode cX6_isThere 8 = .ok (.iload_n 1, 1) := by decide +kernel
theorem dX6_isThere_9 : decode cX6_isThere 9 = .ok (.aload_n 0, 1) := by decide +kernel
theorem dX6_isThere_10 : decode cX6_isThere 10 = .ok (.invokevirtual 57, 3) := by decide +kernel
theorem dX6_isThere_13 : decode cX6_isThere 13 = .ok (.if_icmp .gt 7, 3) := by decide +kernel
theorem dX6_isThere_16 : decode cX6_isThere 16 = .ok (.iconst 1, 1) := by decide +kernel
theorem dX6_isThere_17 : decode cX6_isThere 17 = .ok (.goto 4, 3) := by decide +kernel
theorem dX6_isThere_20 : decode cX6_isThere 20 = .ok (.iconst 0, 1) := by decide +kernel
theorem dX6_isThere_21 : decode cX6_isThere 21 = .ok (.ireturn, 1) := by decide +kernel
theorem dX6_mistake_0 : decode cX6_mistake 0 = .ok (.aload_n 0, 1) := by decide +kernel
theorem dX6_mistake_1 : decode cX6_mistake 1 = .ok (.getfield 9, 3) := by decide +kernel
theorem dX6_mistake_4 : decode cX6_mistake 4 = .ok (.iload_n 1, 1) := by decide +kernel
theorem dX6_mistake_5 : decode cX6_mistake 5 = .ok (.iaload, 1) := by decide +kernel
theorem dX6_mistake_6 : decode cX6_mistake 6 = .ok (.iload_n 2, 1) := by decide +kernel
theorem dX6_mistake_7 : decode cX6_mistake 7 = .ok (.if_icmp .ne 7, 3) := by decide +kernel
theorem dX6_mistake_10 : decode cX6_mistake 10 = .ok (.iconst 0, 1) := by decide +kernel
theorem dX6_mistake_11 : decode cX6_mistake 11 = .ok (.goto 9, 3) := by decide +kernel
theorem dX6_mistake_14 : decode cX6_mistake 14 = .ok (.aload_n 0, 1) := by decide +kernel
theorem dX6_mistake_15 : decode cX6_mistake 15 = .ok (.getfield 27, 3) := by decide +kernel
theorem dX6_mistake_18 : decode cX6_mistake 18 = .ok (.iconst 0, 1) := by decide +kernel
theorem dX6_mistake_19 : decode cX6_mistake 19 = .ok (.iaload, 1) := by decide +kernel
theorem dX6_mistake_20 : decode cX6_mistake 20 = .ok (.ireturn, 1) := by decide +kernel
theorem dJ9_floorDiv_f86c9_0 : decode cJ9_floorDiv_f86c9 0 = .ok (.lload_n 0, 1) := by decide +kernel
theorem dJ9_floorDiv_f86c9_1 : decode cJ9_floorDiv_f86c9 1 = .ok (.lload_n 2, 1) := by decide +kernel
theorem dJ9_floorDiv_f86c9_2 : decode cJ9_floorDiv_f86c9 2 = .ok (.ldiv, 1) := by decide +kernel
theorem dJ9_floorDiv_f86c9_3 : decode cJ9_floorDiv_f86c9 3 = .ok (.lstore 4, 2) := by decide +kernel
theorem dJ9_floorDiv_f86c9_5 : decode cJ9_floorDiv_f86c9 5 = .ok (.lload_n 0, 1) := by decide +kernel
theorem dJ9_floorDiv_f86c9_6 : decode cJ9_floorDiv_f86c9 6 = .ok (.lload_n 2, 1) := by decide +kernel
theorem dJ9_floorDiv_f86c9_7 : decode cJ9_floorDiv_f86c9 7 = .ok (.lxor, 1) := by decide +kernel
theorem dJ9_floorDiv_f86c9_8 : decode cJ9_floorDiv_f86c9 8 = .ok (.lconst 0, 1) := by decide +kernel
theorem dJ9_floorDiv_f86c9_9 : decode cJ9_floorDiv_f86c9 9 = .ok (.lcmp, 1) := by decide +kernel
theorem dJ9_floorDiv_f86c9_10 : decode cJ9_floorDiv_f86c9 10 = .ok (.ifCond .ge 17, 3) := by decide +kernel
theorem dJ9_floorDiv_f86c9_13 : decode cJ9_floorDiv_f86c9 13 = .ok (.lload 4, 2) := by decide +kernel
theorem dJ9_floorDiv_f86c9_15 : decode cJ9_floorDiv_f86c9 15 = .ok (.lload_n 2, 1) := by decide +kernel
theorem dJ9_floorDiv_f86c9_16 : decode cJ9_floorDiv_f86c9 16 = .ok (.lmul, 1) := by decide +kernel
theorem dJ9_floorDiv_f86c9_17 : decode cJ9_floorDiv_f86c9 17 = .ok (.lload_n 0, 1) := by decide +kernel
theorem dJ9_floorDiv_f86c9_18 : decode cJ9_floorDiv_f86c9 18 = .ok (.lcmp, 1) := by decide +kernel
theorem dJ9_floorDiv_f86c9_19 : decode cJ9_floorDiv_f86c9 19 = .ok (.ifCond .eq 8, 3) := by decide +kernel
theorem dJ9_floorDiv_f86c9_22 : decode cJ9_floorDiv_f86c9 22 = .ok (.lload 4, 2) := by decide +kernel
theorem dJ9_floorDiv_f86c9_24 : decode cJ9_floorDiv_f86c9 24 = .ok (.lconst 1, 1) := by decide +kernel
theorem dJ9_floorDiv_f86c9_25 : decode cJ9_floorDiv_f86c9 25 = .ok (.lsub, 1) := by decide +kernel
theorem dJ9_floorDiv_f86c9_26 : decode cJ9_floorDiv_f86c9 26 = .ok (.lreturn, 1) := by decide +kernel
theorem dJ9_floorDiv_f86c9_27 : decode cJ9_floorDiv_f86c9 27 = .ok (.lload 4, 2) := by decide +kernel
theorem dJ9_floorDiv_f86c9_29 : decode cJ9_floorDiv_f86c9 29 = .ok (.lreturn, 1) := by decide +kernel
theorem dJ9_abs_0f7a4_0 : decode cJ9_abs_0f7a4 0 = .ok (.iload_n 0, 1) := by decide +kernel
theorem dJ9_abs_0f7a4_1 : decode cJ9_abs_0f7a4 1 = .ok (.ifCond .ge 8, 3) := by decide +kernel
theorem dJ9_abs_0f7a4_4 : decode cJ9_abs_0f7a4 4 = .ok (.iload_n 0, 1) := by decide +kernel
theorem dJ9_abs_0f7a4_5 : decode cJ9_abs_0f7a4 5 = .ok (.ineg, 1) := by decide +kernel
theorem dJ9_abs_0f7a4_6 : decode cJ9_abs_0f7a4 6 = .ok (.goto 4, 3) := by decide +kernel
theorem dJ9_abs_0f7a4_9 : decode cJ9_abs_0f7a4 9 = .ok (.iload_n 0, 1) := by decide +kernel
theorem dJ9_abs_0f7a4_10 : decode cJ9_abs_0f7a4 10 = .ok (.ireturn, 1) := by decide +kernel
theorem dJ9_max_7cf53_0 : decode cJ9_max_7cf53 0 = .ok (.iload_n 0, 1) := by decide +kernel
theorem dJ9_max_7cf53_1 : decode cJ9_max_7cf53 1 = .ok (.iload_n 1, 1) := by decide +kernel
theorem dJ9_max_7cf53_2 : decode cJ9_max_7cf53 2 = .ok (.if_icmp .lt 7, 3) := by decide +kernel
theorem dJ9_max_7cf53_5 : decode cJ9_max_7cf53 5 = .ok (.iload_n 0, 1) := by decide +kernel
theorem dJ9_max_7cf53_6 : decode cJ9_max_7cf53 6 = .ok (.goto 4, 3) := by decide +kernel
theorem dJ9_max_7cf53_9 : decode cJ9_max_7cf53 9 = .ok (.iload_n 1, 1) := by decide +kernel
theorem dJ9_max_7cf53_10 : decode cJ9_max_7cf53 10 = .ok (.ireturn, 1) := by decide +kernel
theorem dJ9_min_7cf53_0 : decode cJ9_min_7cf53 0 = .ok (.iload_n 0, 1) := by decide +kernel
theorem dJ9_min_7cf53_1 : decode cJ9_min_7cf53 1 = .ok (.iload_n 1, 1) := by decide +kernel
theorem dJ9_min_7cf53_2 : decode cJ9_min_7cf53 2 = .ok (.if_icmp .gt 7, 3) := by decide +kernel
theorem dJ9_min_7cf53_5 : decode cJ9_min_7cf53 5 = .ok (.iload_n 0, 1) := by decide +kernel
theorem dJ9_min_7cf53_6 : decode cJ9_min_7cf53 6 = .ok (.goto 4, 3) := by decide +kernel
theorem dJ9_min_7cf53_9 : decode cJ9_min_7cf53 9 = .ok (.iload_n 1, 1) := by decide +kernel
theorem dJ9_min_7cf53_10 : decode cJ9_min_7cf53 10 = .ok (.ireturn, 1) := by decide +kernel
end
section
theorem dX7_init_0 : decode cX7_init 0 = .ok (.aload_n 0, 1) := by decide +kernel
theorem dX7_init_1 : decode cX7_init 1 = .ok (.invokespecial 3, 3) := by decide +kernel
theorem dX7_init_4 : decode cX7_init 4 = .ok (.aload_n 0, 1) := by decide +kernel
theorem dX7_init_5 : decode cX7_init 5 = .ok (.new 9, 3) := by decide +kernel
theorem dX7_init_8 : decode cX7_init 8 = .ok (.dup, 1) := by decide +kernel
theorem dX7_init_9 : decode cX7_init 9 = .ok (.invokespecial 11, 3) := by decide +kernel
theorem dX7_init_12 : decode cX7_init 12 = .ok (.putfield 12, 3) := by decide +kernel
theorem dX7_init_15 : decode cX7_init 15 = .ok (.aload_n 0, 1) := by decide +kernel
theorem dX7_init_16 : decode cX7_init 16 = .ok (.new 16, 3) := by decide +kernel
theorem dX7_init_19 : decode cX7_init 19 = .ok (.dup, 1) := by decide +kernel
theorem dX7_init_20 : decode cX7_init 20 = .ok (.invokespecial 18, 3) := by decide +kernel
theorem dX7_init_23 : decode cX7_init 23 = .ok (.putfield 19, 3) := by decide +kernel
theorem dX7_init_26 : decode cX7_init 26 = .ok (.aload_n 0, 1) := by decide +kernel
theorem dX7_init_27 : decode cX7_init 27 = .ok (.new 23, 3) := by decide +kernel
theorem dX7_init_30 : decode cX7_init 30 = .ok (.dup, 1) := by decide +kernel
theorem dX7_init_31 : decode cX7_init 31 = .ok (.aload_n 0, 1) := by decide +kernel
theorem dX7_init_32 : decode cX7_init 32 = .ok (.getfield 12, 3) := by decide +kernel
theorem dX7_init_35 : decode cX7_init 35 = .ok (.invokespecial 25, 3) := by decide +kernel
theorem dX7_init_38 : decode cX7_init 38 = .ok (.putfield 28, 3) := by decide +kernel
theorem dX7_init_41 : decode cX7_init 41 = .ok (.aload_n 0, 1) := by decide +kernel
theorem dX7_init_42 : decode cX7_init 42 = .ok (.new 32, 3) := by decide +kernel
theorem dX7_init_45 : decode cX7_init 45 = .ok (.dup, 1) := by decide +kernel
theorem dX7_init_46 : decode cX7_init 46 = .ok (.aload_n 0, 1) := by decide +kernel
theorem dX7_init_47 : decode cX7_init 47 = .ok (.getfield 12, 3) := by decide +kernel
theorem dX7_init_50 : decode cX7_init 50 = .ok (.aload_n 0, 1) := by decide +kernel
theorem dX7_init_51 : decode cX7_init 51 = .ok (.getfield 28, 3) := by decide +kernel
theorem dX7_init_54 : decode cX7_init 54 = .ok (.aload_n 0, 1) := by decide +kernel
theorem dX7_init_55 : decode cX7_init 55 = .ok (.getfield 19, 3) := by decide +kernel
theorem dX7_init_58 : decode cX7_init 58 = .ok (.invokespecial 34, 3) := by decide +kernel
theorem dX7_init_61 : decode cX7_init 61 = .ok (.putfield 37, 3) := by decide +kernel
theorem dX7_init_64 : decode cX7_init 64 = .ok (.aload_n 0, 1) := by decide +kernel
theorem dX7_init_65 : decode cX7_init 65 = .ok (.new 41, 3) := by decide +kernel
theorem dX7_init_68 : decode cX7_init 68 = .ok (.dup, 1) := by decide +kernel
theorem dX7_init_69 : decode cX7_init 69 = .ok (.aload_n 0, 1) := by decide +kernel
theorem dX7_init_70 : decode cX7_init 70 = .ok (.getfield 12, 3) := by decide +kernel
theorem dX7_init_73 : decode cX7_init 73 = .ok (.aload_n 0, 1) := by decide +kernel
theorem dX7_init_74 : decode cX7_init 74 = .ok (.getfield 19, 3) := by decide +kernel
theorem dX7_init_77 : decode cX7_init 77 = .ok (.invokespecial 43, 3) := by decide +kernel
theorem dX7_init_80 : decode cX7_init 80 = .ok (.putfield 46, 3) := by decide +kernel
theorem dX7_init_83 : decode cX7_init 83 = .ok (.aload_n 0, 1) := by decide +kernel
theorem dX7_init_84 : decode cX7_init 84 = .ok (.new 50, 3) := by decide +kernel
theorem dX7_init_87 : decode cX7_init 87 = .ok (.dup, 1) := by decide +kernel
theorem dX7_init_88 : decode cX7_init 88 = .ok (.aload_n 0, 1) := by decide +kernel
theorem dX7_init_89 : decode cX7_init 89 = .ok (.getfield 12, 3) := by decide +kernel
theorem dX7_init_92 : decode cX7_init 92 = .ok (.aload_n 0, 1) := by decide +kernel
theorem dX7_init_93 : decode cX7_init 93 = .ok (.getfield 28, 3) := by decide +kernel
theorem dX7_init_96 : decode cX7_init 96 = .ok (.aload_n 0, 1) := by decide +kernel
theorem dX7_init_97 : decode cX7_init 97 = .ok (.getfield 19, 3) := by decide +kernel
theorem dX7_init_100 : decode cX7_init 100 = .ok (.invokespecial 52, 3) := by decide +kernel
theorem dX7_init_103 : decode cX7_init 103 = .ok (.putfield 53, 3) := by decide +kernel
theorem dX7_init_106 : decode cX7_init 106 = .ok (.aload_n 0, 1) := by decide +kernel
theorem dX7_init_107 : decode cX7_init 107 = .ok (.new 57, 3) := by decide +kernel
theorem dX7_init_110 : decode cX7_init 110 = .ok (.dup, 1) := by decide +kernel
theorem dX7_init_111 : decode cX7_init 111 = .ok (.invokespecial 59, 3) := by decide +kernel
theorem dX7_init_114 : decode cX7_init 114 = .ok (.putfield 60, 3) := by decide +kernel
theorem dX7_init_117 : decode cX7_init 117 = .ok (.return_, 1) := by decide +kernel
theorem dX7_clear_0 : decode cX7_clear 0 = .ok (.aload_n 0, 1) := by decide +kernel
theorem dX7_clear_1 : decode cX7_clear 1 = .ok (.getfield 12, 3) := by decide +kernel
theorem dX7_clear_4 : decode cX7_clear 4 = .ok (.invokevirtual 64, 3) := by decide +kernel
theorem dX7_clear_7 : decode cX7_clear 7 = .ok (.aload_n 0, 1) := by decide +kernel
theorem dX7_clear_8 : decode cX7_clear 8 = .ok (.getfield 60, 3) := by decide +kernel
theorem dX7_clear_11 : decode cX7_clear 11 = .ok (.iconst 0, 1) := by decide +kernel
theorem dX7_clear_12 : decode cX7_clear 12 = .ok (.putfield 67, 3) := by decide +kernel
theorem dX7_clear_15 : decode cX7_clear 15 = .ok (.aload_n 0, 1) := by decide +kernel
theorem dX7_clear_16 : decode cX7_clear 16 = .ok (.invokevirtual 71, 3) := by decide +kernel
theorem dX7_clear_19 : decode cX7_clear 19 = .ok (.return_, 1) := by decide +kernel
theorem dX7_note_0 : decode cX7_note 0 = .ok (.iload_n 1, 1) := by decide +kernel
theorem dX7_note_1 : decode cX7_note 1 = .ok (.iconst 0, 1) := by decide +kernel
theorem dX7_note_2 : decode cX7_note 2 = .ok (.bipush 127, 2) := by decide +kernel
theorem dX7_note_4 : decode cX7_note 4 = .ok (.invokestatic 74, 3) := by decide +kernel
theorem dX7_note_7 : decode cX7_note 7 = .ok (.ifCond .eq 13, 3) := by decide +kernel
theorem dX7_note_10 : decode cX7_note 10 = .ok (.iload_n 2, 1) := by decide +kernel
theorem dX7_note_11 : decode cX7_note 11 = .ok (.iconst 0, 1) := by decide +kernel
theorem dX7_note_12 : decode cX7_note 12 = .ok (.ldc 78, 2) := by decide +kernel
theorem dX7_note_14 : decode cX7_note 14 = .ok (.invokestatic 74, 3) := by decide +kernel
theorem dX7_note_17 : decode cX7_note 17 = .ok (.ifCond .ne 6, 3) := by decide +kernel
theorem dX7_note_20 : decode cX7_note 20 = .ok (.bipush (-2), 2) := by decide +kernel
theorem dX7_note_22 : decode cX7_note 22 = .ok (.ireturn, 1) := by decide +kernel
theorem dX7_note_23 : decode cX7_note 23 = .ok (.iload_n 2, 1) := by decide +kernel
theorem dX7_note_24 : decode cX7_note 24 = .ok (.aload_n 0, 1) := by decide +kernel
theorem dX7_note_25 : decode cX7_note 25 = .ok (.getfield 12, 3) := by decide +kernel
theorem dX7_note_28 : decode cX7_note 28 = .ok (.invokevirtual 79, 3) := by decide +kernel
theorem dX7_note_31 : decode cX7_note 31 = .ok (.if_icmp .gt 6, 3) := by decide +kernel
theorem dX7_note_34 : decode cX7_note 34 = .ok (.bipush (-2), 2) := by decide +kernel
theorem dX7_note_36 : decode cX7_note 36 = .ok (.ireturn, 1) := by decide +kernel
theorem dX7_note_37 : decode cX7_note 37 = .ok (.aload_n 0, 1) := by decide +kernel
theorem dX7_note_38 : decode cX7_note 38 = .ok (.getfield 19, 3) := by decide +kernel
theorem dX7_note_41 : decode cX7_note 41 = .ok (.getfield 83, 3) := by decide +kernel
theorem dX7_note_44 : decode cX7_note 44 = .ok (.ifCond .gt 13, 3) := by decide +kernel
theorem dX7_note_47 : decode cX7_note 47 = .ok (.aload_n 0, 1) := by decide +kernel
theorem dX7_note_48 : decode cX7_note 48 = .ok (.getfield 12, 3) := by decide +kernel
theorem dX7_note_51 : decode cX7_note 51 = .ok (.invokevirtual 86, 3) := by decide +kernel
theorem dX7_note_54 : decode cX7_note 54 = .ok (.ifCond .eq 6, 3) := by decide +kernel
theorem dX7_note_57 : decode cX7_note 57 = .ok (.bipush (-3), 2) := by decide +kernel
theorem dX7_note_59 : decode cX7_note 59 = .ok (.ireturn, 1) := by decide +kernel
theorem dX7_note_60 : decode cX7_note 60 = .ok (.aload_n 0, 1) := by decide +kernel
theorem dX7_note_61 : decode cX7_note 61 = .ok (.getfield 12, 3) := by decide +kernel
theorem dX7_note_64 : decode cX7_note 64 = .ok (.getfield 90, 3) := by decide +kernel
theorem dX7_note_67 : decode cX7_note 67 = .ok (.bipush 60, 2) := by decide +kernel
theorem dX7_note_69 : decode cX7_note 69 = .ok (.if_icmp .lt 6, 3) := by decide +kernel
theorem dX7_note_72 : decode cX7_note 72 = .ok (.bipush (-4), 2) := by decide +kernel
theorem dX7_note_74 : decode cX7_note 74 = .ok (.ireturn, 1) := by decide +kernel
theorem dX7_note_75 : decode cX7_note 75 = .ok (.aload_n 0, 1) := by decide +kernel
theorem dX7_note_76 : decode cX7_note 76 = .ok (.getfield 12, 3) := by decide +kernel
theorem dX7_note_79 : decode cX7_note 79 = .ok (.iload_n 1, 1) := by decide +kernel
theorem dX7_note_80 : decode cX7_note 80 = .ok (.iload_n 2, 1) := by decide +kernel
theorem dX7_note_81 : decode cX7_note 81 = .ok (.invokevirtual 93, 3) := by decide +kernel
theorem dX7_note_84 : decode cX7_note 84 = .ok (.istore_n 3, 1) := by decide +kernel
theorem dX7_note_85 : decode cX7_note 85 = .ok (.aload_n 0, 1) := by decide +kernel
theorem dX7_note_86 : decode cX7_note 86 = .ok (.getfield 60, 3) := by decide +kernel
theorem dX7_note_89 : decode cX7_note 89 = .ok (.iload_n 3, 1) := by decide +kernel
theorem dX7_note_90 : decode cX7_note 90 = .ok (.invokevirtual 97, 3) := by decide +kernel
theorem dX7_note_93 : decode cX7_note 93 = .ok (.iload_n 3, 1) := by decide +kernel
theorem dX7_note_94 : decode cX7_note 94 = .ok (.ireturn, 1) := by decide +kernel
theorem dX7_way_0 : decode cX7_way 0 = .ok (.aload_n 0, 1) := by decide +kernel
theorem dX7_way_1 : decode cX7_way 1 = .ok (.getfield 12, 3) := by decide +kernel
theorem dX7_way_4 : decode cX7_way 4 = .ok (.iload_n 1, 1) := by decide +kernel
theorem dX7_way_5 : decode cX7_way 5 = .ok (.invokevirtual 101, 3) := by decide +kernel
theorem dX7_way_8 : decode cX7_way 8 = .ok (.ifCond .eq 14, 3) := by decide +kernel
theorem dX7_way_11 : decode cX7_way 11 = .ok (.aload_n 0, 1) := by decide +kernel
theorem dX7_way_12 : decode cX7_way 12 = .ok (.getfield 12, 3) := by decide +kernel
theorem dX7_way_15 : decode cX7_way 15 = .ok (.iload_n 2, 1) := by decide +kernel
theorem dX7_way_16 : decode cX7_way 16 = .ok (.invokevirtual 101, 3) := by decide +kernel
theorem dX7_way_19 : decode cX7_way 19 = .ok (.ifCond .ne 6, 3) := by decide +kernel
theorem dX7_way_22 : decode cX7_way 22 = .ok (.bipush (-2), 2) := by decide +kernel
theorem dX7_way_24 : decode cX7_way 24 = .ok (.ireturn, 1) := by decide +kernel
theorem dX7_way_25 : decode cX7_way 25 = .ok (.iload_n 2, 1) := by decide +kernel
theorem dX7_way_26 : decode cX7_way 26 = .ok (.iload_n 1, 1) := by decide +kernel
theorem dX7_way_27 : decode cX7_way 27 = .ok (.iconst 1, 1) := by decide +kernel
theorem dX7_way_28 : decode cX7_way 28 = .ok (.iadd, 1) := by decide +kernel
theorem dX7_way_29 : decode cX7_way 29 = .ok (.if_icmp .eq 15, 3) := by decide +kernel
theorem dX7_way_32 : decode cX7_way 32 = .ok (.aload_n 0, 1) := by decide +kernel
theorem dX7_way_33 : decode cX7_way 33 = .ok (.getfield 12, 3) := by decide +kernel
theorem dX7_way_36 : decode cX7_way 36 = .ok (.iload_n 1, 1) := by decide +kernel
theorem dX7_way_37 : decode cX7_way 37 = .ok (.iload_n 2, 1) := by decide +kernel
theorem dX7_way_38 : decode cX7_way 38 = .ok (.invokevirtual 105, 3) := by decide +kernel
theorem dX7_way_41 : decode cX7_way 41 = .ok (.ifCond .eq 6, 3) := by decide +kernel
theorem dX7_way_44 : decode cX7_way 44 = .ok (.bipush (-2), 2) := by decide +kernel
theorem dX7_way_46 : decode cX7_way 46 = .ok (.ireturn, 1) := by decide +kernel
theorem dX7_way_47 : decode cX7_way 47 = .ok (.aload_n 0, 1) := by decide +kernel
theorem dX7_way_48 : decode cX7_way 48 = .ok (.getfield 19, 3) := by decide +kernel
theorem dX7_way_51 : decode cX7_way 51 = .ok (.getfield 83, 3) := by decide +kernel
theorem dX7_way_54 : decode cX7_way 54 = .ok (.ifCond .le 6, 3) := by decide +kernel
theorem dX7_way_57 : decode cX7_way 57 = .ok (.bipush (-3), 2) := by decide +kernel
theorem dX7_way_59 : decode cX7_way 59 = .ok (.ireturn, 1) := by decide +kernel
theorem dX7_way_60 : decode cX7_way 60 = .ok (.aload_n 0, 1) := by decide +kernel
theorem dX7_way_61 : decode cX7_way 61 = .ok (.getfield 12, 3) := by decide +kernel
theorem dX7_way_64 : decode cX7_way 64 = .ok (.getfield 109, 3) := by decide +kernel
theorem dX7_way_67 : decode cX7_way 67 = .ok (.bipush 12, 2) := by decide +kernel
theorem dX7_way_69 : decode cX7_way 69 = .ok (.if_icmp .lt 6, 3) := by decide +kernel
theorem dX7_way_72 : decode cX7_way 72 = .ok (.bipush (-4), 2) := by decide +kernel
theorem dX7_way_74 : decode cX7_way 74 = .ok (.ireturn, 1) := by decide +kernel
theorem dX7_way_75 : decode cX7_way 75 = .ok (.aload_n 0, 1) := by decide +kernel
theorem dX7_way_76 : decode cX7_way 76 = .ok (.getfield 12, 3) := by decide +kernel
theorem dX7_way_79 : decode cX7_way 79 = .ok (.iload_n 1, 1) := by decide +kernel
theorem dX7_way_80 : decode cX7_way 80 = .ok (.iload_n 2, 1) := by decide +kernel
theorem dX7_way_81 : decode cX7_way 81 = .ok (.invokevirtual 112, 3) := by decide +kernel
theorem dX7_way_84 : decode cX7_way 84 = .ok (.ireturn, 1) := by decide +kernel
theorem dX7_loop_0 : decode cX7_loop 0 = .ok (.iload_n 1, 1) := by decide +kernel
theorem dX7_loop_1 : decode cX7_loop 1 = .ok (.iconst (-1), 1) := by decide +kernel
theorem dX7_loop_2 : decode cX7_loop 2 = .ok (.if_icmp .ne 7, 3) := by decide +kernel
theorem dX7_loop_5 : decode cX7_loop 5 = .ok (.iconst 1, 1) := by decide +kernel
theorem dX7_loop_6 : decode cX7_loop 6 = .ok (.goto 4, 3) := by decide +kernel
theorem dX7_loop_9 : decode cX7_loop 9 = .ok (.iconst 0, 1) := by decide +kernel
theorem dX7_loop_10 : decode cX7_loop 10 = .ok (.istore_n 3, 1) := by decide +kernel
theorem dX7_loop_11 : decode cX7_loop 11 = .ok (.iload_n 3, 1) := by decide +kernel
theorem dX7_loop_12 : decode cX7_loop 12 = .ok (.ifCond .ne 33, 3) := by decide +kernel
theorem dX7_loop_15 : decode cX7_loop 15 = .ok (.aload_n 0, 1) := by decide +kernel
theorem dX7_loop_16 : decode cX7_loop 16 = .ok (.getfield 12, 3) := by decide +kernel
theorem dX7_loop_19 : decode cX7_loop 19 = .ok (.iload_n 1, 1) := by decide +kernel
theorem dX7_loop_20 : decode cX7_loop 20 = .ok (.invokevirtual 101, 3) := by decide +kernel
theorem dX7_loop_23 : decode cX7_loop 23 = .ok (.ifCond .eq 19, 3) := by decide +kernel
theorem dX7_loop_26 : decode cX7_loop 26 = .ok (.aload_n 0, 1) := by decide +kernel
theorem dX7_loop_27 : decode cX7_loop 27 = .ok (.getfield 12, 3) := by decide +kernel
theorem dX7_loop_30 : decode cX7_loop 30 = .ok (.iload_n 2, 1) := by decide +kernel
theorem dX7_loop_31 : decode cX7_loop 31 = .ok (.invokevirtual 101, 3) := by decide +kernel
theorem dX7_loop_34 : decode cX7_loop 34 = .ok (.ifCond .eq 8, 3) := by decide +kernel
theorem dX7_loop_37 : decode cX7_loop 37 = .ok (.iload_n 2, 1) := by decide +kernel
theorem dX7_loop_38 : decode cX7_loop 38 = .ok (.iload_n 1, 1) := by decide +kernel
theorem dX7_loop_39 : decode cX7_loop 39 = .ok (.if_icmp .ge 6, 3) := by decide +kernel
theorem dX7_loop_42 : decode cX7_loop 42 = .ok (.bipush (-2), 2) := by decide +kernel
theorem dX7_loop_44 : decode cX7_loop 44 = .ok (.ireturn, 1) := by decide +kernel
theorem dX7_loop_45 : decode cX7_loop 45 = .ok (.aload_n 0, 1) := by decide +kernel
theorem dX7_loop_46 : decode cX7_loop 46 = .ok (.getfield 19, 3) := by decide +kernel
theorem dX7_loop_49 : decode cX7_loop 49 = .ok (.getfield 83, 3) := by decide +kernel
theorem dX7_loop_52 : decode cX7_loop 52 = .ok (.ifCond .le 6, 3) := by decide +kernel
theorem dX7_loop_55 : decode cX7_loop 55 = .ok (.bipush (-3), 2) := by decide +kernel
theorem dX7_loop_57 : decode cX7_loop 57 = .ok (.ireturn, 1) := by decide +kernel
theorem dX7_loop_58 : decode cX7_loop 58 = .ok (.aload_n 0, 1) := by decide +kernel
theorem dX7_loop_59 : decode cX7_loop 59 = .ok (.getfield 12, 3) := by decide +kernel
theorem dX7_loop_62 : decode cX7_loop 62 = .ok (.invokevirtual 86, 3) := by decide +kernel
theorem dX7_loop_65 : decode cX7_loop 65 = .ok (.ifCond .eq 7, 3) := by decide +kernel
theorem dX7_loop_68 : decode cX7_loop 68 = .ok (.iconst 1, 1) := by decide +kernel
theorem dX7_loop_69 : decode cX7_loop 69 = .ok (.goto 4, 3) := by decide +kernel
theorem dX7_loop_72 : decode cX7_loop 72 = .ok (.iconst 0, 1) := by decide +kernel
theorem dX7_loop_73 : decode cX7_loop 73 = .ok (.istore 4, 2) := by decide +kernel
theorem dX7_loop_75 : decode cX7_loop 75 = .ok (.aload_n 0, 1) := by decide +kernel
theorem dX7_loop_76 : decode cX7_loop 76 = .ok (.getfield 12, 3) := by decide +kernel
theorem dX7_loop_79 : decode cX7_loop 79 = .ok (.iload_n 1, 1) := by decide +kernel
theorem dX7_loop_80 : decode cX7_loop 80 = .ok (.putfield 115, 3) := by decide +kernel
theorem dX7_loop_83 : decode cX7_loop 83 = .ok (.aload_n 0, 1) := by decide +kernel
theorem dX7_loop_84 : decode cX7_loop 84 = .ok (.getfield 12, 3) := by decide +kernel
theorem dX7_loop_87 : decode cX7_loop 87 = .ok (.iload_n 3, 1) := by decide +kernel
theorem dX7_loop_88 : decode cX7_loop 88 = .ok (.ifCond .eq 7, 3) := by decide +kernel
theorem dX7_loop_91 : decode cX7_loop 91 = .ok (.iconst (-1), 1) := by decide +kernel
theorem dX7_loop_92 : decode cX7_loop 92 = .ok (.goto 4, 3) := by decide +kernel
theorem dX7_loop_95 : decode cX7_loop 95 = .ok (.iload_n 2, 1) := by decide +kernel
theorem dX7_loop_96 : decode cX7_loop 96 = .ok (.putfield 118, 3) := by decide +kernel
theorem dX7_loop_99 : decode cX7_loop 99 = .ok (.iload 4, 2) := by decide +kernel
theorem dX7_loop_101 : decode cX7_loop 101 = .ok (.ireturn, 1) := by decide +kernel
theorem dX7_cost_0 : decode cX7_cost 0 = .ok (.iload_n 1, 1) := by decide +kernel
theorem dX7_cost_1 : decode cX7_cost 1 = .ok (.iconst 0, 1) := by decide +kernel
theorem dX7_cost_2 : decode cX7_cost 2 = .ok (.iconst 4, 1) := by decide +kernel
theorem dX7_cost_3 : decode cX7_cost 3 = .ok (.invokestatic 74, 3) := by decide +kernel
theorem dX7_cost_6 : decode cX7_cost 6 = .ok (.ifCond .ne 6, 3) := by decide +kernel
theorem dX7_cost_9 : decode cX7_cost 9 = .ok (.bipush (-2), 2) := by decide +kernel
theorem dX7_cost_11 : decode cX7_cost 11 = .ok (.ireturn, 1) := by decide +kernel
theorem dX7_cost_12 : decode cX7_cost 12 = .ok (.iload_n 1, 1) := by decide +kernel
theorem dX7_cost_13 : decode cX7_cost 13 = .ok (.iconst 1, 1) := by decide +kernel
theorem dX7_cost_14 : decode cX7_cost 14 = .ok (.if_icmp .eq 8, 3) := by decide +kernel
theorem dX7_cost_17 : decode cX7_cost 17 = .ok (.iload_n 1, 1) := by decide +kernel
theorem dX7_cost_18 : decode cX7_cost 18 = .ok (.iconst 2, 1) := by decide +kernel
theorem dX7_cost_19 : decode cX7_cost 19 = .ok (.if_icmp .ne 7, 3) := by decide +kernel
theorem dX7_cost_22 : decode cX7_cost 22 = .ok (.iconst 1, 1) := by decide +kernel
theorem dX7_cost_23 : decode cX7_cost 23 = .ok (.goto 4, 3) := by decide +kernel
theorem dX7_cost_26 : decode cX7_cost 26 = .ok (.iconst 0, 1) := by decide +kernel
theorem dX7_cost_27 : decode cX7_cost 27 = .ok (.istore_n 3, 1) := by decide +kernel
theorem dX7_cost_28 : decode cX7_cost 28 = .ok (.iload_n 2, 1) := by decide +kernel
theorem dX7_cost_29 : decode cX7_cost 29 = .ok (.iload_n 3, 1) := by decide +kernel
theorem dX7_cost_30 : decode cX7_cost 30 = .ok (.sipush 1000, 3) := by decide +kernel
theorem dX7_cost_33 : decode cX7_cost 33 = .ok (.invokestatic 74, 3) := by decide +kernel
theorem dX7_cost_36 : decode cX7_cost 36 = .ok (.ifCond .ne 6, 3) := by decide +kernel
theorem dX7_cost_39 : decode cX7_cost 39 = .ok (.bipush (-2), 2) := by decide +kernel
theorem dX7_cost_41 : decode cX7_cost 41 = .ok (.ireturn, 1) := by decide +kernel
theorem dX7_cost_42 : decode cX7_cost 42 = .ok (.aload_n 0, 1) := by decide +kernel
theorem dX7_cost_43 : decode cX7_cost 43 = .ok (.getfield 19, 3) := by decide +kernel
theorem dX7_cost_46 : decode cX7_cost 46 = .ok (.getfield 83, 3) := by decide +kernel
theorem dX7_cost_49 : decode cX7_cost 49 = .ok (.ifCond .le 6, 3) := by decide +kernel
theorem dX7_cost_52 : decode cX7_cost 52 = .ok (.bipush (-3), 2) := by decide +kernel
theorem dX7_cost_54 : decode cX7_cost 54 = .ok (.ireturn, 1) := by decide +kernel
theorem dX7_cost_55 : decode cX7_cost 55 = .ok (.aload_n 0, 1) := by decide +kernel
theorem dX7_cost_56 : decode cX7_cost 56 = .ok (.getfield 12, 3) := by decide +kernel
theorem dX7_cost_59 : decode cX7_cost 59 = .ok (.getfield 121, 3) := by decide +kernel
theorem dX7_cost_62 : decode cX7_cost 62 = .ok (.iload_n 1, 1) := by decide +kernel
theorem dX7_cost_63 : decode cX7_cost 63 = .ok (.iaload, 1) := by decide +kernel
theorem dX7_cost_64 : decode cX7_cost 64 = .ok (.istore 4, 2) := by decide +kernel
theorem dX7_cost_66 : decode cX7_cost 66 = .ok (.aload_n 0, 1) := by decide +kernel
theorem dX7_cost_67 : decode cX7_cost 67 = .ok (.getfield 12, 3) := by decide +kernel
theorem dX7_cost_70 : decode cX7_cost 70 = .ok (.getfield 121, 3) := by decide +kernel
theorem dX7_cost_73 : decode cX7_cost 73 = .ok (.iload_n 1, 1) := by decide +kernel
theorem dX7_cost_74 : decode cX7_cost 74 = .ok (.iload_n 2, 1) := by decide +kernel
theorem dX7_cost_75 : decode cX7_cost 75 = .ok (.iastore, 1) := by decide +kernel
theorem dX7_cost_76 : decode cX7_cost 76 = .ok (.iload 4, 2) := by decide +kernel
theorem dX7_cost_78 : decode cX7_cost 78 = .ok (.ireturn, 1) := by decide +kernel
theorem dX7_span_0 : decode cX7_span 0 = .ok (.iload_n 1, 1) := by decide +kernel
theorem dX7_span_1 : decode cX7_span 1 = .ok (.iconst 0, 1) := by decide +kernel
theorem dX7_span_2 : decode cX7_span 2 = .ok (.bipush 100, 2) := by decide +kernel
theorem dX7_span_4 : decode cX7_span 4 = .ok (.invokestatic 74, 3) := by decide +kernel
theorem dX7_span_7 : decode cX7_span 7 = .ok (.ifCond .ne 6, 3) := by decide +kernel
theorem dX7_span_10 : decode cX7_span 10 = .ok (.bipush (-2), 2) := by decide +kernel
theorem dX7_span_12 : decode cX7_span 12 = .ok (.ireturn, 1) := by decide +kernel
theorem dX7_span_13 : decode cX7_span 13 = .ok (.aload_n 0, 1) := by decide +kernel
theorem dX7_span_14 : decode cX7_span 14 = .ok (.getfield 19, 3) := by decide +kernel
theorem dX7_span_17 : decode cX7_span 17 = .ok (.getfield 83, 3) := by decide +kernel
theorem dX7_span_20 : decode cX7_span 20 = .ok (.ifCond .le 6, 3) := by decide +kernel
theorem dX7_span_23 : decode cX7_span 23 = .ok (.bipush (-3), 2) := by decide +kernel
theorem dX7_span_25 : decode cX7_span 25 = .ok (.ireturn, 1) := by decide +kernel
theorem dX7_span_26 : decode cX7_span 26 = .ok (.aload_n 0, 1) := by decide +kernel
theorem dX7_span_27 : decode cX7_span 27 = .ok (.getfield 12, 3) := by decide +kernel
theorem dX7_span_30 : decode cX7_span 30 = .ok (.getfield 125, 3) := by decide +kernel
theorem dX7_span_33 : decode cX7_span 33 = .ok (.istore_n 2, 1) := by decide +kernel
theorem dX7_span_34 : decode cX7_span 34 = .ok (.aload_n 0, 1) := by decide +kernel
theorem dX7_span_35 : decode cX7_span 35 = .ok (.getfield 12, 3) := by decide +kernel
theorem dX7_span_38 : decode cX7_span 38 = .ok (.iload_n 1, 1) := by decide +kernel
theorem dX7_span_39 : decode cX7_span 39 = .ok (.putfield 125, 3) := by decide +kernel
theorem dX7_span_42 : decode cX7_span 42 = .ok (.iload_n 2, 1) := by decide +kernel
theorem dX7_span_43 : decode cX7_span 43 = .ok (.ireturn, 1) := by decide +kernel
theorem dX7_hear_0 : decode cX7_hear 0 = .ok (.iload_n 1, 1) := by decide +kernel
theorem dX7_hear_1 : decode cX7_hear 1 = .ok (.iconst 0, 1) := by decide +kernel
theorem dX7_hear_2 : decode cX7_hear 2 = .ok (.bipush 127, 2) := by decide +kernel
theorem dX7_hear_4 : decode cX7_hear 4 = .ok (.invokestatic 74, 3) := by decide +kernel
theorem dX7_hear_7 : decode cX7_hear 7 = .ok (.ifCond .eq 13, 3) := by decide +kernel
theorem dX7_hear_10 : decode cX7_hear 10 = .ok (.iload_n 2, 1) := by decide +kernel
theorem dX7_hear_11 : decode cX7_hear 11 = .ok (.iconst 0, 1) := by decide +kernel
theorem dX7_hear_12 : decode cX7_hear 12 = .ok (.ldc 128, 2) := by decide +kernel
theorem dX7_hear_14 : decode cX7_hear 14 = .ok (.invokestatic 74, 3) := by decide +kernel
theorem dX7_hear_17 : decode cX7_hear 17 = .ok (.ifCond .ne 6, 3) := by decide +kernel
theorem dX7_hear_20 : decode cX7_hear 20 = .ok (.bipush (-2), 2) := by decide +kernel
theorem dX7_hear_22 : decode cX7_hear 22 = .ok (.ireturn, 1) := by decide +kernel
theorem dX7_hear_23 : decode cX7_hear 23 = .ok (.iload_n 2, 1) := by decide +kernel
theorem dX7_hear_24 : decode cX7_hear 24 = .ok (.aload_n 0, 1) := by decide +kernel
theorem dX7_hear_25 : decode cX7_hear 25 = .ok (.getfield 19, 3) := by decide +kernel
theorem dX7_hear_28 : decode cX7_hear 28 = .ok (.invokevirtual 129, 3) := by decide +kernel
theorem dX7_hear_31 : decode cX7_hear 31 = .ok (.if_icmp .ge 6, 3) := by decide +kernel
theorem dX7_hear_34 : decode cX7_hear 34 = .ok (.bipush (-2), 2) := by decide +kernel
theorem dX7_hear_36 : decode cX7_hear 36 = .ok (.ireturn, 1) := by decide +kernel
theorem dX7_hear_37 : decode cX7_hear 37 = .ok (.aload_n 0, 1) := by decide +kernel
theorem dX7_hear_38 : decode cX7_hear 38 = .ok (.getfield 12, 3) := by decide +kernel
theorem dX7_hear_41 : decode cX7_hear 41 = .ok (.getfield 90, 3) := by decide +kernel
theorem dX7_hear_44 : decode cX7_hear 44 = .ok (.ifCond .ne 6, 3) := by decide +kernel
theorem dX7_hear_47 : decode cX7_hear 47 = .ok (.bipush (-3), 2) := by decide +kernel
theorem dX7_hear_49 : decode cX7_hear 49 = .ok (.ireturn, 1) := by decide +kernel
theorem dX7_hear_50 : decode cX7_hear 50 = .ok (.aload_n 0, 1) := by decide +kernel
theorem dX7_hear_51 : decode cX7_hear 51 = .ok (.getfield 19, 3) := by decide +kernel
theorem dX7_hear_54 : decode cX7_hear 54 = .ok (.getfield 83, 3) := by decide +kernel
theorem dX7_hear_57 : decode cX7_hear 57 = .ok (.bipush 120, 2) := by decide +kernel
theorem dX7_hear_59 : decode cX7_hear 59 = .ok (.if_icmp .lt 6, 3) := by decide +kernel
theorem dX7_hear_62 : decode cX7_hear 62 = .ok (.bipush (-4), 2) := by decide +kernel
theorem dX7_hear_64 : decode cX7_hear 64 = .ok (.ireturn, 1) := by decide +kernel
theorem dX7_hear_65 : decode cX7_hear 65 = .ok (.aload_n 0, 1) := by decide +kernel
theorem dX7_hear_66 : decode cX7_hear 66 = .ok (.getfield 19, 3) := by decide +kernel
theorem dX7_hear_69 : decode cX7_hear 69 = .ok (.getfield 83, 3) := by decide +kernel
theorem dX7_hear_72 : decode cX7_hear 72 = .ok (.ifCond .ne 10, 3) := by decide +kernel
theorem dX7_hear_75 : decode cX7_hear 75 = .ok (.aload_n 0, 1) := by decide +kernel
theorem dX7_hear_76 : decode cX7_hear 76 = .ok (.getfield 28, 3) := by decide +kernel
theorem dX7_hear_79 : decode cX7_hear 79 = .ok (.invokevirtual 132, 3) := by decide +kernel
theorem dX7_hear_82 : decode cX7_hear 82 = .ok (.aload_n 0, 1) := by decide +kernel
theorem dX7_hear_83 : decode cX7_hear 83 = .ok (.getfield 19, 3) := by decide +kernel
theorem dX7_hear_86 : decode cX7_hear 86 = .ok (.iload_n 1, 1) := by decide +kernel
theorem dX7_hear_87 : decode cX7_hear 87 = .ok (.iload_n 2, 1) := by decide +kernel
theorem dX7_hear_88 : decode cX7_hear 88 = .ok (.invokevirtual 135, 3) := by decide +kernel
theorem dX7_hear_91 : decode cX7_hear 91 = .ok (.istore_n 3, 1) := by decide +kernel
theorem dX7_hear_92 : decode cX7_hear 92 = .ok (.aload_n 0, 1) := by decide +kernel
theorem dX7_hear_93 : decode cX7_hear 93 = .ok (.getfield 37, 3) := by decide +kernel
theorem dX7_hear_96 : decode cX7_hear 96 = .ok (.iload_n 3, 1) := by decide +kernel
theorem dX7_hear_97 : decode cX7_hear 97 = .ok (.invokevirtual 138, 3) := by decide +kernel
theorem dX7_hear_100 : decode cX7_hear 100 = .ok (.aload_n 0, 1) := by decide +kernel
theorem dX7_hear_101 : decode cX7_hear 101 = .ok (.getfield 46, 3) := by decide +kernel
theorem dX7_hear_104 : decode cX7_hear 104 = .ok (.iload_n 3, 1) := by decide +kernel
theorem dX7_hear_105 : decode cX7_hear 105 = .ok (.aload_n 0, 1) := by decide +kernel
theorem dX7_hear_106 : decode cX7_hear 106 = .ok (.getfield 37, 3) := by decide +kernel
theorem dX7_hear_109 : decode cX7_hear 109 = .ok (.invokevirtual 141, 3) := by decide +kernel
theorem dX7_hear_112 : decode cX7_hear 112 = .ok (.invokevirtual 144, 3) := by decide +kernel
theorem dX7_hear_115 : decode cX7_hear 115 = .ok (.aload_n 0, 1) := by decide +kernel
theorem dX7_hear_116 : decode cX7_hear 116 = .ok (.getfield 53, 3) := by decide +kernel
theorem dX7_hear_119 : decode cX7_hear 119 = .ok (.iconst 0, 1) := by decide +kernel
theorem dX7_hear_120 : decode cX7_hear 120 = .ok (.putfield 148, 3) := by decide +kernel
theorem dX7_hear_123 : decode cX7_hear 123 = .ok (.aload_n 0, 1) := by decide +kernel
theorem dX7_hear_124 : decode cX7_hear 124 = .ok (.getfield 37, 3) := by decide +kernel
theorem dX7_hear_127 : decode cX7_hear 127 = .ok (.invokevirtual 141, 3) := by decide +kernel
theorem dX7_hear_130 : decode cX7_hear 130 = .ok (.ireturn, 1) := by decide +kernel
theorem dX7_cut_0 : decode cX7_cut 0 = .ok (.iload_n 1, 1) := by decide +kernel
theorem dX7_cut_1 : decode cX7_cut 1 = .ok (.iconst 0, 1) := by decide +kernel
theorem dX7_cut_2 : decode cX7_cut 2 = .ok (.aload_n 0, 1) := by decide +kernel
theorem dX7_cut_3 : decode cX7_cut 3 = .ok (.getfield 19, 3) := by decide +kernel
theorem dX7_cut_6 : decode cX7_cut 6 = .ok (.getfield 83, 3) := by decide +kernel
theorem dX7_cut_9 : decode cX7_cut 9 = .ok (.invokestatic 74, 3) := by decide +kernel
theorem dX7_cut_12 : decode cX7_cut 12 = .ok (.ifCond .ne 6, 3) := by decide +kernel
theorem dX7_cut_15 : decode cX7_cut 15 = .ok (.bipush (-2), 2) := by decide +kernel
theorem dX7_cut_17 : decode cX7_cut 17 = .ok (.ireturn, 1) := by decide +kernel
theorem dX7_cut_18 : decode cX7_cut 18 = .ok (.aload_n 0, 1) := by decide +kernel
theorem dX7_cut_19 : decode cX7_cut 19 = .ok (.getfield 19, 3) := by decide +kernel
theorem dX7_cut_22 : decode cX7_cut 22 = .ok (.iload_n 1, 1) := by decide +kernel
theorem dX7_cut_23 : decode cX7_cut 23 = .ok (.putfield 83, 3) := by decide +kernel
theorem dX7_cut_26 : decode cX7_cut 26 = .ok (.aload_n 0, 1) := by decide +kernel
theorem dX7_cut_27 : decode cX7_cut 27 = .ok (.getfield 46, 3) := by decide +kernel
theorem dX7_cut_30 : decode cX7_cut 30 = .ok (.iconst 0, 1) := by decide +kernel
theorem dX7_cut_31 : decode cX7_cut 31 = .ok (.putfield 152, 3) := by decide +kernel
theorem dX7_cut_34 : decode cX7_cut 34 = .ok (.iconst 0, 1) := by decide +kernel
theorem dX7_cut_35 : decode cX7_cut 35 = .ok (.istore_n 2, 1) := by decide +kernel
theorem dX7_cut_36 : decode cX7_cut 36 = .ok (.iload_n 2, 1) := by decide +kernel
theorem dX7_cut_37 : decode cX7_cut 37 = .ok (.iload_n 1, 1) := by decide +kernel
theorem dX7_cut_38 : decode cX7_cut 38 = .ok (.if_icmp .ge 25, 3) := by decide +kernel
theorem dX7_cut_41 : decode cX7_cut 41 = .ok (.aload_n 0, 1) := by decide +kernel
theorem dX7_cut_42 : decode cX7_cut 42 = .ok (.getfield 46, 3) := by decide +kernel
theorem dX7_cut_45 : decode cX7_cut 45 = .ok (.iload_n 2, 1) := by decide +kernel
theorem dX7_cut_46 : decode cX7_cut 46 = .ok (.aload_n 0, 1) := by decide +kernel
theorem dX7_cut_47 : decode cX7_cut 47 = .ok (.getfield 37, 3) := by decide +kernel
theorem dX7_cut_50 : decode cX7_cut 50 = .ok (.iload_n 2, 1) := by decide +kernel
theorem dX7_cut_51 : decode cX7_cut 51 = .ok (.invokevirtual 153, 3) := by decide +kernel
theorem dX7_cut_54 : decode cX7_cut 54 = .ok (.invokevirtual 144, 3) := by decide +kernel
theorem dX7_cut_57 : decode cX7_cut 57 = .ok (.iinc 2 1, 3) := by decide +kernel
theorem dX7_cut_60 : decode cX7_cut 60 = .ok (.goto (-24), 3) := by decide +kernel
theorem dX7_cut_63 : decode cX7_cut 63 = .ok (.aload_n 0, 1) := by decide +kernel
theorem dX7_cut_64 : decode cX7_cut 64 = .ok (.getfield 53, 3) := by decide +kernel
theorem dX7_cut_67 : decode cX7_cut 67 = .ok (.iconst 0, 1) := by decide +kernel
theorem dX7_cut_68 : decode cX7_cut 68 = .ok (.putfield 148, 3) := by decide +kernel
theorem dX7_cut_71 : decode cX7_cut 71 = .ok (.aload_n 0, 1) := by decide +kernel
theorem dX7_cut_72 : decode cX7_cut 72 = .ok (.getfield 37, 3) := by decide +kernel
theorem dX7_cut_75 : decode cX7_cut 75 = .ok (.invokevirtual 141, 3) := by decide +kernel
theorem dX7_cut_78 : decode cX7_cut 78 = .ok (.ireturn, 1) := by decide +kernel
theorem dX7_valueOf_0 : decode cX7_valueOf 0 = .ok (.iload_n 1, 1) := by decide +kernel
theorem dX7_valueOf_1 : decode cX7_valueOf 1 = .ok (.iconst (-1), 1) := by decide +kernel
theorem dX7_valueOf_2 : decode cX7_valueOf 2 = .ok (.if_icmp .eq 17, 3) := by decide +kernel
theorem dX7_valueOf_5 : decode cX7_valueOf 5 = .ok (.aload_n 0, 1) := by decide +kernel
theorem dX7_valueOf_6 : decode cX7_valueOf 6 = .ok (.getfield 12, 3) := by decide +kernel
theorem dX7_valueOf_9 : decode cX7_valueOf 9 = .ok (.iload_n 1, 1) := by decide +kernel
theorem dX7_valueOf_10 : decode cX7_valueOf 10 = .ok (.invokevirtual 101, 3) := by decide +kernel
theorem dX7_valueOf_13 : decode cX7_valueOf 13 = .ok (.ifCond .ne 6, 3) := by decide +kernel
theorem dX7_valueOf_16 : decode cX7_valueOf 16 = .ok (.bipush (-2), 2) := by decide +kernel
theorem dX7_valueOf_18 : decode cX7_valueOf 18 = .ok (.ireturn, 1) := by decide +kernel
theorem dX7_valueOf_19 : decode cX7_valueOf 19 = .ok (.aload_n 0, 1) := by decide +kernel
theorem dX7_valueOf_20 : decode cX7_valueOf 20 = .ok (.getfield 37, 3) := by decide +kernel
theorem dX7_valueOf_23 : decode cX7_valueOf 23 = .ok (.iload_n 1, 1) := by decide +kernel
theorem dX7_valueOf_24 : decode cX7_valueOf 24 = .ok (.invokevirtual 157, 3) := by decide +kernel
theorem dX7_valueOf_27 : decode cX7_valueOf 27 = .ok (.istore_n 2, 1) := by decide +kernel
theorem dX7_valueOf_28 : decode cX7_valueOf 28 = .ok (.iload_n 2, 1) := by decide +kernel
theorem dX7_valueOf_29 : decode cX7_valueOf 29 = .ok (.ldc 160, 2) := by decide +kernel
theorem dX7_valueOf_31 : decode cX7_valueOf 31 = .ok (.if_icmp .lt 7, 3) := by decide +kernel
theorem dX7_valueOf_34 : decode cX7_valueOf 34 = .ok (.iconst (-1), 1) := by decide +kernel
theorem dX7_valueOf_35 : decode cX7_valueOf 35 = .ok (.goto 4, 3) := by decide +kernel
theorem dX7_valueOf_38 : decode cX7_valueOf 38 = .ok (.iload_n 2, 1) := by decide +kernel
theorem dX7_valueOf_39 : decode cX7_valueOf 39 = .ok (.ireturn, 1) := by decide +kernel
theorem dX7_tempo_0 : decode cX7_tempo 0 = .ok (.iload_n 1, 1) := by decide +kernel
theorem dX7_tempo_1 : decode cX7_tempo 1 = .ok (.iconst 0, 1) := by decide +kernel
theorem dX7_tempo_2 : decode cX7_tempo 2 = .ok (.iconst 1, 1) := by decide +kernel
theorem dX7_tempo_3 : decode cX7_tempo 3 = .ok (.invokestatic 74, 3) := by decide +kernel
theorem dX7_tempo_6 : decode cX7_tempo 6 = .ok (.ifCond .ne 6, 3) := by decide +kernel
theorem dX7_tempo_9 : decode cX7_tempo 9 = .ok (.bipush (-2), 2) := by decide +kernel
theorem dX7_tempo_11 : decode cX7_tempo 11 = .ok (.ireturn, 1) := by decide +kernel
theorem dX7_tempo_12 : decode cX7_tempo 12 = .ok (.aload_n 0, 1) := by decide +kernel
theorem dX7_tempo_13 : decode cX7_tempo 13 = .ok (.getfield 46, 3) := by decide +kernel
theorem dX7_tempo_16 : decode cX7_tempo 16 = .ok (.invokevirtual 161, 3) := by decide +kernel
theorem dX7_tempo_19 : decode cX7_tempo 19 = .ok (.aload_n 0, 1) := by decide +kernel
theorem dX7_tempo_20 : decode cX7_tempo 20 = .ok (.getfield 46, 3) := by decide +kernel
theorem dX7_tempo_23 : decode cX7_tempo 23 = .ok (.invokevirtual 164, 3) := by decide +kernel
theorem dX7_tempo_26 : decode cX7_tempo 26 = .ok (.iload_n 1, 1) := by decide +kernel
theorem dX7_tempo_27 : decode cX7_tempo 27 = .ok (.invokestatic 167, 3) := by decide +kernel
theorem dX7_tempo_30 : decode cX7_tempo 30 = .ok (.ireturn, 1) := by decide +kernel
theorem dX7_ahead_0 : decode cX7_ahead 0 = .ok (.aload_n 0, 1) := by decide +kernel
theorem dX7_ahead_1 : decode cX7_ahead 1 = .ok (.getfield 12, 3) := by decide +kernel
theorem dX7_ahead_4 : decode cX7_ahead 4 = .ok (.iload_n 1, 1) := by decide +kernel
theorem dX7_ahead_5 : decode cX7_ahead 5 = .ok (.invokevirtual 101, 3) := by decide +kernel
theorem dX7_ahead_8 : decode cX7_ahead 8 = .ok (.ifCond .ne 7, 3) := by decide +kernel
theorem dX7_ahead_11 : decode cX7_ahead 11 = .ok (.ldc2_w 171, 3) := by decide +kernel
theorem dX7_ahead_14 : decode cX7_ahead 14 = .ok (.lreturn, 1) := by decide +kernel
theorem dX7_ahead_15 : decode cX7_ahead 15 = .ok (.aload_n 0, 1) := by decide +kernel
theorem dX7_ahead_16 : decode cX7_ahead 16 = .ok (.getfield 46, 3) := by decide +kernel
theorem dX7_ahead_19 : decode cX7_ahead 19 = .ok (.getfield 152, 3) := by decide +kernel
theorem dX7_ahead_22 : decode cX7_ahead 22 = .ok (.ifCond .ne 7, 3) := by decide +kernel
theorem dX7_ahead_25 : decode cX7_ahead 25 = .ok (.ldc2_w 173, 3) := by decide +kernel
theorem dX7_ahead_28 : decode cX7_ahead 28 = .ok (.lreturn, 1) := by decide +kernel
theorem dX7_ahead_29 : decode cX7_ahead 29 = .ok (.aload_n 0, 1) := by decide +kernel
theorem dX7_ahead_30 : decode cX7_ahead 30 = .ok (.getfield 46, 3) := by decide +kernel
theorem dX7_ahead_33 : decode cX7_ahead 33 = .ok (.iload_n 1, 1) := by decide +kernel
theorem dX7_ahead_34 : decode cX7_ahead 34 = .ok (.invokevirtual 175, 3) := by decide +kernel
theorem dX7_ahead_37 : decode cX7_ahead 37 = .ok (.lreturn, 1) := by decide +kernel
theorem dX7_align_0 : decode cX7_align 0 = .ok (.aload_n 0, 1) := by decide +kernel
theorem dX7_align_1 : decode cX7_align 1 = .ok (.getfield 12, 3) := by decide +kernel
theorem dX7_align_4 : decode cX7_align 4 = .ok (.getfield 90, 3) := by decide +kernel
theorem dX7_align_7 : decode cX7_align 7 = .ok (.ifCond .ne 6, 3) := by decide +kernel
theorem dX7_align_10 : decode cX7_align 10 = .ok (.bipush (-3), 2) := by decide +kernel
theorem dX7_align_12 : decode cX7_align 12 = .ok (.ireturn, 1) := by decide +kernel
theorem dX7_align_13 : decode cX7_align 13 = .ok (.aload_n 0, 1) := by decide +kernel
theorem dX7_align_14 : decode cX7_align 14 = .ok (.getfield 53, 3) := by decide +kernel
theorem dX7_align_17 : decode cX7_align 17 = .ok (.getfield 148, 3) := by decide +kernel
theorem dX7_align_20 : decode cX7_align 20 = .ok (.ifCond .ne 10, 3) := by decide +kernel
theorem dX7_align_23 : decode cX7_align 23 = .ok (.aload_n 0, 1) := by decide +kernel
theorem dX7_align_24 : decode cX7_align 24 = .ok (.getfield 53, 3) := by decide +kernel
theorem dX7_align_27 : decode cX7_align 27 = .ok (.invokevirtual 179, 3) := by decide +kernel
theorem dX7_align_30 : decode cX7_align 30 = .ok (.aload_n 0, 1) := by decide +kernel
theorem dX7_align_31 : decode cX7_align 31 = .ok (.getfield 53, 3) := by decide +kernel
theorem dX7_align_34 : decode cX7_align 34 = .ok (.getfield 182, 3) := by decide +kernel
theorem dX7_align_37 : decode cX7_align 37 = .ok (.ireturn, 1) := by decide +kernel
theorem dX7_step_0 : decode cX7_step 0 = .ok (.iload_n 2, 1) := by decide +kernel
theorem dX7_step_1 : decode cX7_step 1 = .ok (.iconst 0, 1) := by decide +kernel
theorem dX7_step_2 : decode cX7_step 2 = .ok (.iconst 3, 1) := by decide +kernel
theorem dX7_step_3 : decode cX7_step 3 = .ok (.invokestatic 74, 3) := by decide +kernel
theorem dX7_step_6 : decode cX7_step 6 = .ok (.ifCond .eq 7, 3) := by decide +kernel
theorem dX7_step_9 : decode cX7_step 9 = .ok (.iload_n 1, 1) := by decide +kernel
theorem dX7_step_10 : decode cX7_step 10 = .ok (.ifCond .ge 6, 3) := by decide +kernel
theorem dX7_step_13 : decode cX7_step 13 = .ok (.bipush (-2), 2) := by decide +kernel
theorem dX7_step_15 : decode cX7_step 15 = .ok (.ireturn, 1) := by decide +kernel
theorem dX7_step_16 : decode cX7_step 16 = .ok (.aload_n 0, 1) := by decide +kernel
theorem dX7_step_17 : decode cX7_step 17 = .ok (.getfield 53, 3) := by decide +kernel
theorem dX7_step_20 : decode cX7_step 20 = .ok (.getfield 148, 3) := by decide +kernel
theorem dX7_step_23 : decode cX7_step 23 = .ok (.ifCond .ne 6, 3) := by decide +kernel
theorem dX7_step_26 : decode cX7_step 26 = .ok (.bipush (-3), 2) := by decide +kernel
theorem dX7_step_28 : decode cX7_step 28 = .ok (.ireturn, 1) := by decide +kernel
theorem dX7_step_29 : decode cX7_step 29 = .ok (.iload_n 1, 1) := by decide +kernel
theorem dX7_step_30 : decode cX7_step 30 = .ok (.aload_n 0, 1) := by decide +kernel
theorem dX7_step_31 : decode cX7_step 31 = .ok (.getfield 53, 3) := by decide +kernel
theorem dX7_step_34 : decode cX7_step 34 = .ok (.getfield 185, 3) := by decide +kernel
theorem dX7_step_37 : decode cX7_step 37 = .ok (.if_icmp .lt 6, 3) := by decide +kernel
theorem dX7_step_40 : decode cX7_step 40 = .ok (.bipush (-2), 2) := by decide +kernel
theorem dX7_step_42 : decode cX7_step 42 = .ok (.ireturn, 1) := by decide +kernel
theorem dX7_step_43 : decode cX7_step 43 = .ok (.aload_n 0, 1) := by decide +kernel
theorem dX7_step_44 : decode cX7_step 44 = .ok (.getfield 53, 3) := by decide +kernel
theorem dX7_step_47 : decode cX7_step 47 = .ok (.iload_n 1, 1) := by decide +kernel
theorem dX7_step_48 : decode cX7_step 48 = .ok (.iload_n 2, 1) := by decide +kernel
theorem dX7_step_49 : decode cX7_step 49 = .ok (.invokevirtual 186, 3) := by decide +kernel
theorem dX7_step_52 : decode cX7_step 52 = .ok (.ireturn, 1) := by decide +kernel
theorem dX7_steps_0 : decode cX7_steps 0 = .ok (.aload_n 0, 1) := by decide +kernel
theorem dX7_steps_1 : decode cX7_steps 1 = .ok (.getfield 53, 3) := by decide +kernel
theorem dX7_steps_4 : decode cX7_steps 4 = .ok (.getfield 148, 3) := by decide +kernel
theorem dX7_steps_7 : decode cX7_steps 7 = .ok (.ifCond .eq 13, 3) := by decide +kernel
theorem dX7_steps_10 : decode cX7_steps 10 = .ok (.aload_n 0, 1) := by decide +kernel
theorem dX7_steps_11 : decode cX7_steps 11 = .ok (.getfield 53, 3) := by decide +kernel
theorem dX7_steps_14 : decode cX7_steps 14 = .ok (.getfield 185, 3) := by decide +kernel
theorem dX7_steps_17 : decode cX7_steps 17 = .ok (.goto 5, 3) := by decide +kernel
theorem dX7_steps_20 : decode cX7_steps 20 = .ok (.bipush (-3), 2) := by decide +kernel
theorem dX7_steps_22 : decode cX7_steps 22 = .ok (.ireturn, 1) := by decide +kernel
theorem dX7_matched_0 : decode cX7_matched 0 = .ok (.iload_n 1, 1) := by decide +kernel
theorem dX7_matched_1 : decode cX7_matched 1 = .ok (.iconst 0, 1) := by decide +kernel
theorem dX7_matched_2 : decode cX7_matched 2 = .ok (.aload_n 0, 1) := by decide +kernel
theorem dX7_matched_3 : decode cX7_matched 3 = .ok (.getfield 19, 3) := by decide +kernel
theorem dX7_matched_6 : decode cX7_matched 6 = .ok (.getfield 83, 3) := by decide +kernel
theorem dX7_matched_9 : decode cX7_matched 9 = .ok (.iconst 1, 1) := by decide +kernel
theorem dX7_matched_10 : decode cX7_matched 10 = .ok (.isub, 1) := by decide +kernel
theorem dX7_matched_11 : decode cX7_matched 11 = .ok (.invokestatic 74, 3) := by decide +kernel
theorem dX7_matched_14 : decode cX7_matched 14 = .ok (.ifCond .ne 6, 3) := by decide +kernel
theorem dX7_matched_17 : decode cX7_matched 17 = .ok (.bipush (-2), 2) := by decide +kernel
theorem dX7_matched_19 : decode cX7_matched 19 = .ok (.ireturn, 1) := by decide +kernel
theorem dX7_matched_20 : decode cX7_matched 20 = .ok (.aload_n 0, 1) := by decide +kernel
theorem dX7_matched_21 : decode cX7_matched 21 = .ok (.getfield 53, 3) := by decide +kernel
theorem dX7_matched_24 : decode cX7_matched 24 = .ok (.getfield 148, 3) := by decide +kernel
theorem dX7_matched_27 : decode cX7_matched 27 = .ok (.ifCond .eq 15, 3) := by decide +kernel
theorem dX7_matched_30 : decode cX7_matched 30 = .ok (.aload_n 0, 1) := by decide +kernel
theorem dX7_matched_31 : decode cX7_matched 31 = .ok (.getfield 53, 3) := by decide +kernel
theorem dX7_matched_34 : decode cX7_matched 34 = .ok (.getfield 189, 3) := by decide +kernel
theorem dX7_matched_37 : decode cX7_matched 37 = .ok (.iload_n 1, 1) := by decide +kernel
theorem dX7_matched_38 : decode cX7_matched 38 = .ok (.iaload, 1) := by decide +kernel
theorem dX7_matched_39 : decode cX7_matched 39 = .ok (.goto 5, 3) := by decide +kernel
theorem dX7_matched_42 : decode cX7_matched 42 = .ok (.bipush (-3), 2) := by decide +kernel
theorem dX7_matched_44 : decode cX7_matched 44 = .ok (.ireturn, 1) := by decide +kernel
theorem dX7_grade_0 : decode cX7_grade 0 = .ok (.aload_n 0, 1) := by decide +kernel
theorem dX7_grade_1 : decode cX7_grade 1 = .ok (.getfield 12, 3) := by decide +kernel
theorem dX7_grade_4 : decode cX7_grade 4 = .ok (.iload_n 1, 1) := by decide +kernel
theorem dX7_grade_5 : decode cX7_grade 5 = .ok (.invokevirtual 101, 3) := by decide +kernel
theorem dX7_grade_8 : decode cX7_grade 8 = .ok (.ifCond .eq 12, 3) := by decide +kernel
theorem dX7_grade_11 : decode cX7_grade 11 = .ok (.iload_n 2, 1) := by decide +kernel
theorem dX7_grade_12 : decode cX7_grade 12 = .ok (.iconst 0, 1) := by decide +kernel
theorem dX7_grade_13 : decode cX7_grade 13 = .ok (.iconst 2, 1) := by decide +kernel
theorem dX7_grade_14 : decode cX7_grade 14 = .ok (.invokestatic 74, 3) := by decide +kernel
theorem dX7_grade_17 : decode cX7_grade 17 = .ok (.ifCond .ne 6, 3) := by decide +kernel
theorem dX7_grade_20 : decode cX7_grade 20 = .ok (.bipush (-2), 2) := by decide +kernel
theorem dX7_grade_22 : decode cX7_grade 22 = .ok (.ireturn, 1) := by decide +kernel
theorem dX7_grade_23 : decode cX7_grade 23 = .ok (.aload_n 0, 1) := by decide +kernel
theorem dX7_grade_24 : decode cX7_grade 24 = .ok (.getfield 53, 3) := by decide +kernel
theorem dX7_grade_27 : decode cX7_grade 27 = .ok (.getfield 148, 3) := by decide +kernel
theorem dX7_grade_30 : decode cX7_grade 30 = .ok (.ifCond .ne 6, 3) := by decide +kernel
theorem dX7_grade_33 : decode cX7_grade 33 = .ok (.bipush (-3), 2) := by decide +kernel
theorem dX7_grade_35 : decode cX7_grade 35 = .ok (.ireturn, 1) := by decide +kernel
theorem dX7_grade_36 : decode cX7_grade 36 = .ok (.iload_n 2, 1) := by decide +kernel
theorem dX7_grade_37 : decode cX7_grade 37 = .ok (.ifCond .ne 13, 3) := by decide +kernel
theorem dX7_grade_40 : decode cX7_grade 40 = .ok (.aload_n 0, 1) := by decide +kernel
theorem dX7_grade_41 : decode cX7_grade 41 = .ok (.getfield 53, 3) := by decide +kernel
theorem dX7_grade_44 : decode cX7_grade 44 = .ok (.getfield 192, 3) := by decide +kernel
theorem dX7_grade_47 : decode cX7_grade 47 = .ok (.iload_n 1, 1) := by decide +kernel
theorem dX7_grade_48 : decode cX7_grade 48 = .ok (.iaload, 1) := by decide +kernel
theorem dX7_grade_49 : decode cX7_grade 49 = .ok (.ireturn, 1) := by decide +kernel
theorem dX7_grade_50 : decode cX7_grade 50 = .ok (.iload_n 2, 1) := by decide +kernel
theorem dX7_grade_51 : decode cX7_grade 51 = .ok (.iconst 1, 1) := by decide +kernel
theorem dX7_grade_52 : decode cX7_grade 52 = .ok (.if_icmp .ne 15, 3) := by decide +kernel
theorem dX7_grade_55 : decode cX7_grade 55 = .ok (.aload_n 0, 1) := by decide +kernel
theorem dX7_grade_56 : decode cX7_grade 56 = .ok (.getfield 53, 3) := by decide +kernel
theorem dX7_grade_59 : decode cX7_grade 59 = .ok (.getfield 195, 3) := by decide +kernel
theorem dX7_grade_62 : decode cX7_grade 62 = .ok (.iload_n 1, 1) := by decide +kernel
theorem dX7_grade_63 : decode cX7_grade 63 = .ok (.iaload, 1) := by decide +kernel
theorem dX7_grade_64 : decode cX7_grade 64 = .ok (.goto 12, 3) := by decide +kernel
theorem dX7_grade_67 : decode cX7_grade 67 = .ok (.aload_n 0, 1) := by decide +kernel
theorem dX7_grade_68 : decode cX7_grade 68 = .ok (.getfield 53, 3) := by decide +kernel
theorem dX7_grade_71 : decode cX7_grade 71 = .ok (.getfield 198, 3) := by decide +kernel
theorem dX7_grade_74 : decode cX7_grade 74 = .ok (.iload_n 1, 1) := by decide +kernel
theorem dX7_grade_75 : decode cX7_grade 75 = .ok (.iaload, 1) := by decide +kernel
theorem dX7_grade_76 : decode cX7_grade 76 = .ok (.ireturn, 1) := by decide +kernel
theorem dX7_mean_0 : decode cX7_mean 0 = .ok (.iload_n 1, 1) := by decide +kernel
theorem dX7_mean_1 : decode cX7_mean 1 = .ok (.iconst 0, 1) := by decide +kernel
theorem dX7_mean_2 : decode cX7_mean 2 = .ok (.iconst 1, 1) := by decide +kernel
theorem dX7_mean_3 : decode cX7_mean 3 = .ok (.invokestatic 74, 3) := by decide +kernel
theorem dX7_mean_6 : decode cX7_mean 6 = .ok (.ifCond .ne 6, 3) := by decide +kernel
theorem dX7_mean_9 : decode cX7_mean 9 = .ok (.bipush (-2), 2) := by decide +kernel
theorem dX7_mean_11 : decode cX7_mean 11 = .ok (.ireturn, 1) := by decide +kernel
theorem dX7_mean_12 : decode cX7_mean 12 = .ok (.aload_n 0, 1) := by decide +kernel
theorem dX7_mean_13 : decode cX7_mean 13 = .ok (.getfield 53, 3) := by decide +kernel
theorem dX7_mean_16 : decode cX7_mean 16 = .ok (.getfield 148, 3) := by decide +kernel
theorem dX7_mean_19 : decode cX7_mean 19 = .ok (.ifCond .ne 6, 3) := by decide +kernel
theorem dX7_mean_22 : decode cX7_mean 22 = .ok (.bipush (-3), 2) := by decide +kernel
theorem dX7_mean_24 : decode cX7_mean 24 = .ok (.ireturn, 1) := by decide +kernel
theorem dX7_mean_25 : decode cX7_mean 25 = .ok (.aload_n 0, 1) := by decide +kernel
theorem dX7_mean_26 : decode cX7_mean 26 = .ok (.getfield 53, 3) := by decide +kernel
theorem dX7_mean_29 : decode cX7_mean 29 = .ok (.getfield 192, 3) := by decide +kernel
theorem dX7_mean_32 : decode cX7_mean 32 = .ok (.aload_n 0, 1) := by decide +kernel
theorem dX7_mean_33 : decode cX7_mean 33 = .ok (.getfield 12, 3) := by decide +kernel
theorem dX7_mean_36 : decode cX7_mean 36 = .ok (.getfield 90, 3) := by decide +kernel
theorem dX7_mean_39 : decode cX7_mean 39 = .ok (.invokestatic 201, 3) := by decide +kernel
theorem dX7_mean_42 : decode cX7_mean 42 = .ok (.istore_n 2, 1) := by decide +kernel
theorem dX7_mean_43 : decode cX7_mean 43 = .ok (.iload_n 2, 1) := by decide +kernel
theorem dX7_mean_44 : decode cX7_mean 44 = .ok (.ifCond .ne 13, 3) := by decide +kernel
theorem dX7_mean_47 : decode cX7_mean 47 = .ok (.new 205, 3) := by decide +kernel
theorem dX7_mean_50 : decode cX7_mean 50 = .ok (.dup, 1) := by decide +kernel
theorem dX7_mean_51 : decode cX7_mean 51 = .ok (.ldc 207, 2) := by decide +kernel
theorem dX7_mean_53 : decode cX7_mean 53 = .ok (.invokespecial 209, 3) := by decide +kernel
theorem dX7_mean_56 : decode cX7_mean 56 = .ok (.athrow, 1) := by decide +kernel
theorem dX7_mean_57 : decode cX7_mean 57 = .ok (.aload_n 0, 1) := by decide +kernel
theorem dX7_mean_58 : decode cX7_mean 58 = .ok (.getfield 53, 3) := by decide +kernel
theorem dX7_mean_61 : decode cX7_mean 61 = .ok (.getfield 195, 3) := by decide +kernel
theorem dX7_mean_64 : decode cX7_mean 64 = .ok (.aload_n 0, 1) := by decide +kernel
theorem dX7_mean_65 : decode cX7_mean 65 = .ok (.getfield 12, 3) := by decide +kernel
theorem dX7_mean_68 : decode cX7_mean 68 = .ok (.getfield 90, 3) := by decide +kernel
theorem dX7_mean_71 : decode cX7_mean 71 = .ok (.invokestatic 201, 3) := by decide +kernel
theorem dX7_mean_74 : decode cX7_mean 74 = .ok (.iload_n 2, 1) := by decide +kernel
theorem dX7_mean_75 : decode cX7_mean 75 = .ok (.iload_n 1, 1) := by decide +kernel
theorem dX7_mean_76 : decode cX7_mean 76 = .ok (.invokestatic 167, 3) := by decide +kernel
theorem dX7_mean_79 : decode cX7_mean 79 = .ok (.ireturn, 1) := by decide +kernel
theorem dX7_end_0 : decode cX7_end 0 = .ok (.aload_n 0, 1) := by decide +kernel
theorem dX7_end_1 : decode cX7_end 1 = .ok (.getfield 53, 3) := by decide +kernel
theorem dX7_end_4 : decode cX7_end 4 = .ok (.getfield 148, 3) := by decide +kernel
theorem dX7_end_7 : decode cX7_end 7 = .ok (.ifCond .eq 13, 3) := by decide +kernel
theorem dX7_end_10 : decode cX7_end 10 = .ok (.aload_n 0, 1) := by decide +kernel
theorem dX7_end_11 : decode cX7_end 11 = .ok (.getfield 19, 3) := by decide +kernel
theorem dX7_end_14 : decode cX7_end 14 = .ok (.getfield 83, 3) := by decide +kernel
theorem dX7_end_17 : decode cX7_end 17 = .ok (.ifCond .ne 6, 3) := by decide +kernel
theorem dX7_end_20 : decode cX7_end 20 = .ok (.bipush (-3), 2) := by decide +kernel
theorem dX7_end_22 : decode cX7_end 22 = .ok (.ireturn, 1) := by decide +kernel
theorem dX7_end_23 : decode cX7_end 23 = .ok (.iconst 0, 1) := by decide +kernel
theorem dX7_end_24 : decode cX7_end 24 = .ok (.istore_n 1, 1) := by decide +kernel
theorem dX7_end_25 : decode cX7_end 25 = .ok (.iload_n 1, 1) := by decide +kernel
theorem dX7_end_26 : decode cX7_end 26 = .ok (.aload_n 0, 1) := by decide +kernel
theorem dX7_end_27 : decode cX7_end 27 = .ok (.getfield 12, 3) := by decide +kernel
theorem dX7_end_30 : decode cX7_end 30 = .ok (.getfield 90, 3) := by decide +kernel
theorem dX7_end_33 : decode cX7_end 33 = .ok (.if_icmp .ge 50, 3) := by decide +kernel
theorem dX7_end_36 : decode cX7_end 36 = .ok (.aload_n 0, 1) := by decide +kernel
theorem dX7_end_37 : decode cX7_end 37 = .ok (.getfield 53, 3) := by decide +kernel
theorem dX7_end_40 : decode cX7_end 40 = .ok (.iload_n 1, 1) := by decide +kernel
theorem dX7_end_41 : decode cX7_end 41 = .ok (.invokevirtual 212, 3) := by decide +kernel
theorem dX7_end_44 : decode cX7_end 44 = .ok (.ifCond .eq 14, 3) := by decide +kernel
theorem dX7_end_47 : decode cX7_end 47 = .ok (.aload_n 0, 1) := by decide +kernel
theorem dX7_end_48 : decode cX7_end 48 = .ok (.getfield 60, 3) := by decide +kernel
theorem dX7_end_51 : decode cX7_end 51 = .ok (.iload_n 1, 1) := by decide +kernel
theorem dX7_end_52 : decode cX7_end 52 = .ok (.invokevirtual 215, 3) := by decide +kernel
theorem dX7_end_55 : decode cX7_end 55 = .ok (.goto 22, 3) := by decide +kernel
theorem dX7_end_58 : decode cX7_end 58 = .ok (.aload_n 0, 1) := by decide +kernel
theorem dX7_end_59 : decode cX7_end 59 = .ok (.getfield 53, 3) := by decide +kernel
theorem dX7_end_62 : decode cX7_end 62 = .ok (.iload_n 1, 1) := by decide +kernel
theorem dX7_end_63 : decode cX7_end 63 = .ok (.invokevirtual 218, 3) := by decide +kernel
theorem dX7_end_66 : decode cX7_end 66 = .ok (.ifCond .eq 11, 3) := by decide +kernel
theorem dX7_end_69 : decode cX7_end 69 = .ok (.aload_n 0, 1) := by decide +kernel
theorem dX7_end_70 : decode cX7_end 70 = .ok (.getfield 60, 3) := by decide +kernel
theorem dX7_end_73 : decode cX7_end 73 = .ok (.iload_n 1, 1) := by decide +kernel
theorem dX7_end_74 : decode cX7_end 74 = .ok (.invokevirtual 221, 3) := by decide +kernel
theorem dX7_end_77 : decode cX7_end 77 = .ok (.iinc 1 1, 3) := by decide +kernel
theorem dX7_end_80 : decode cX7_end 80 = .ok (.goto (-55), 3) := by decide +kernel
theorem dX7_end_83 : decode cX7_end 83 = .ok (.aload_n 0, 1) := by decide +kernel
theorem dX7_end_84 : decode cX7_end 84 = .ok (.getfield 60, 3) := by decide +kernel
theorem dX7_end_87 : decode cX7_end 87 = .ok (.dup, 1) := by decide +kernel
theorem dX7_end_88 : decode cX7_end 88 = .ok (.getfield 67, 3) := by decide +kernel
theorem dX7_end_91 : decode cX7_end 91 = .ok (.iconst 1, 1) := by decide +kernel
theorem dX7_end_92 : decode cX7_end 92 = .ok (.iadd, 1) := by decide +kernel
theorem dX7_end_93 : decode cX7_end 93 = .ok (.putfield 67, 3) := by decide +kernel
theorem dX7_end_96 : decode cX7_end 96 = .ok (.aload_n 0, 1) := by decide +kernel
theorem dX7_end_97 : decode cX7_end 97 = .ok (.invokevirtual 71, 3) := by decide +kernel
theorem dX7_end_100 : decode cX7_end 100 = .ok (.aload_n 0, 1) := by decide +kernel
theorem dX7_end_101 : decode cX7_end 101 = .ok (.getfield 60, 3) := by decide +kernel
theorem dX7_end_104 : decode cX7_end 104 = .ok (.aload_n 0, 1) := by decide +kernel
theorem dX7_end_105 : decode cX7_end 105 = .ok (.getfield 12, 3) := by decide +kernel
theorem dX7_end_108 : decode cX7_end 108 = .ok (.getfield 90, 3) := by decide +kernel
theorem dX7_end_111 : decode cX7_end 111 = .ok (.invokevirtual 224, 3) := by decide +kernel
theorem dX7_end_114 : decode cX7_end 114 = .ok (.ireturn, 1) := by decide +kernel
theorem dX7_due_0 : decode cX7_due 0 = .ok (.iload_n 1, 1) := by decide +kernel
theorem dX7_due_1 : decode cX7_due 1 = .ok (.ifCond .ge 6, 3) := by decide +kernel
theorem dX7_due_4 : decode cX7_due 4 = .ok (.bipush (-2), 2) := by decide +kernel
theorem dX7_due_6 : decode cX7_due 6 = .ok (.ireturn, 1) := by decide +kernel
theorem dX7_due_7 : decode cX7_due 7 = .ok (.aload_n 0, 1) := by decide +kernel
theorem dX7_due_8 : decode cX7_due 8 = .ok (.getfield 60, 3) := by decide +kernel
theorem dX7_due_11 : decode cX7_due 11 = .ok (.iload_n 1, 1) := by decide +kernel
theorem dX7_due_12 : decode cX7_due 12 = .ok (.aload_n 0, 1) := by decide +kernel
theorem dX7_due_13 : decode cX7_due 13 = .ok (.getfield 12, 3) := by decide +kernel
theorem dX7_due_16 : decode cX7_due 16 = .ok (.getfield 90, 3) := by decide +kernel
theorem dX7_due_19 : decode cX7_due 19 = .ok (.invokevirtual 227, 3) := by decide +kernel
theorem dX7_due_22 : decode cX7_due 22 = .ok (.ireturn, 1) := by decide +kernel
theorem dX7_of_0 : decode cX7_of 0 = .ok (.aload_n 0, 1) := by decide +kernel
theorem dX7_of_1 : decode cX7_of 1 = .ok (.getfield 12, 3) := by decide +kernel
theorem dX7_of_4 : decode cX7_of 4 = .ok (.iload_n 1, 1) := by decide +kernel
theorem dX7_of_5 : decode cX7_of 5 = .ok (.invokevirtual 101, 3) := by decide +kernel
theorem dX7_of_8 : decode cX7_of 8 = .ok (.ifCond .ne 6, 3) := by decide +kernel
theorem dX7_of_11 : decode cX7_of 11 = .ok (.bipush (-2), 2) := by decide +kernel
theorem dX7_of_13 : decode cX7_of 13 = .ok (.ireturn, 1) := by decide +kernel
theorem dX7_of_14 : decode cX7_of 14 = .ok (.iload_n 2, 1) := by decide +kernel
theorem dX7_of_15 : decode cX7_of 15 = .ok (.tableswitch 69 0 3 #[29, 39, 49, 59], 29) := by decide +kernel
theorem dX7_of_44 : decode cX7_of 44 = .ok (.aload_n 0, 1) := by decide +kernel
theorem dX7_of_45 : decode cX7_of 45 = .ok (.getfield 12, 3) := by decide +kernel
theorem dX7_of_48 : decode cX7_of 48 = .ok (.getfield 230, 3) := by decide +kernel
theorem dX7_of_51 : decode cX7_of 51 = .ok (.iload_n 1, 1) := by decide +kernel
theorem dX7_of_52 : decode cX7_of 52 = .ok (.iaload, 1) := by decide +kernel
theorem dX7_of_53 : decode cX7_of 53 = .ok (.ireturn, 1) := by decide +kernel
theorem dX7_of_54 : decode cX7_of 54 = .ok (.aload_n 0, 1) := by decide +kernel
theorem dX7_of_55 : decode cX7_of 55 = .ok (.getfield 12, 3) := by decide +kernel
theorem dX7_of_58 : decode cX7_of 58 = .ok (.getfield 233, 3) := by decide +kernel
theorem dX7_of_61 : decode cX7_of 61 = .ok (.iload_n 1, 1) := by decide +kernel
theorem dX7_of_62 : decode cX7_of 62 = .ok (.iaload, 1) := by decide +kernel
theorem dX7_of_63 : decode cX7_of 63 = .ok (.ireturn, 1) := by decide +kernel
theorem dX7_of_64 : decode cX7_of 64 = .ok (.aload_n 0, 1) := by decide +kernel
theorem dX7_of_65 : decode cX7_of 65 = .ok (.getfield 60, 3) := by decide +kernel
theorem dX7_of_68 : decode cX7_of 68 = .ok (.getfield 236, 3) := by decide +kernel
theorem dX7_of_71 : decode cX7_of 71 = .ok (.iload_n 1, 1) := by decide +kernel
theorem dX7_of_72 : decode cX7_of 72 = .ok (.iaload, 1) := by decide +kernel
theorem dX7_of_73 : decode cX7_of 73 = .ok (.ireturn, 1) := by decide +kernel
theorem dX7_of_74 : decode cX7_of 74 = .ok (.aload_n 0, 1) := by decide +kernel
theorem dX7_of_75 : decode cX7_of 75 = .ok (.getfield 60, 3) := by decide +kernel
theorem dX7_of_78 : decode cX7_of 78 = .ok (.getfield 239, 3) := by decide +kernel
theorem dX7_of_81 : decode cX7_of 81 = .ok (.iload_n 1, 1) := by decide +kernel
theorem dX7_of_82 : decode cX7_of 82 = .ok (.iaload, 1) := by decide +kernel
theorem dX7_of_83 : decode cX7_of 83 = .ok (.ireturn, 1) := by decide +kernel
theorem dX7_of_84 : decode cX7_of 84 = .ok (.bipush (-2), 2) := by decide +kernel
theorem dX7_of_86 : decode cX7_of 86 = .ok (.ireturn, 1) := by decide +kernel
theorem dX7_told_0 : decode cX7_told 0 = .ok (.iload_n 1, 1) := by decide +kernel
theorem dX7_told_1 : decode cX7_told 1 = .ok (.tableswitch 123 0 8 #[51, 59, 67, 75, 83, 91, 99, 107, 115], 51) := by decide +kernel
theorem dX7_told_52 : decode cX7_told 52 = .ok (.aload_n 0, 1) := by decide +kernel
theorem dX7_told_53 : decode cX7_told 53 = .ok (.getfield 12, 3) := by decide +kernel
theorem dX7_told_56 : decode cX7_told 56 = .ok (.getfield 90, 3) := by decide +kernel
theorem dX7_told_59 : decode cX7_told 59 = .ok (.ireturn, 1) := by decide +kernel
theorem dX7_told_60 : decode cX7_told 60 = .ok (.aload_n 0, 1) := by decide +kernel
theorem dX7_told_61 : decode cX7_told 61 = .ok (.getfield 12, 3) := by decide +kernel
theorem dX7_told_64 : decode cX7_told 64 = .ok (.getfield 109, 3) := by decide +kernel
theorem dX7_told_67 : decode cX7_told 67 = .ok (.ireturn, 1) := by decide +kernel
theorem dX7_told_68 : decode cX7_told 68 = .ok (.aload_n 0, 1) := by decide +kernel
theorem dX7_told_69 : decode cX7_told 69 = .ok (.getfield 19, 3) := by decide +kernel
theorem dX7_told_72 : decode cX7_told 72 = .ok (.getfield 83, 3) := by decide +kernel
theorem dX7_told_75 : decode cX7_told 75 = .ok (.ireturn, 1) := by decide +kernel
theorem dX7_told_76 : decode cX7_told 76 = .ok (.aload_n 0, 1) := by decide +kernel
theorem dX7_told_77 : decode cX7_told 77 = .ok (.getfield 37, 3) := by decide +kernel
theorem dX7_told_80 : decode cX7_told 80 = .ok (.invokevirtual 141, 3) := by decide +kernel
theorem dX7_told_83 : decode cX7_told 83 = .ok (.ireturn, 1) := by decide +kernel
theorem dX7_told_84 : decode cX7_told 84 = .ok (.aload_n 0, 1) := by decide +kernel
theorem dX7_told_85 : decode cX7_told 85 = .ok (.getfield 60, 3) := by decide +kernel
theorem dX7_told_88 : decode cX7_told 88 = .ok (.getfield 67, 3) := by decide +kernel
theorem dX7_told_91 : decode cX7_told 91 = .ok (.ireturn, 1) := by decide +kernel
theorem dX7_told_92 : decode cX7_told 92 = .ok (.aload_n 0, 1) := by decide +kernel
theorem dX7_told_93 : decode cX7_told 93 = .ok (.getfield 46, 3) := by decide +kernel
theorem dX7_told_96 : decode cX7_told 96 = .ok (.getfield 152, 3) := by decide +kernel
theorem dX7_told_99 : decode cX7_told 99 = .ok (.ireturn, 1) := by decide +kernel
theorem dX7_told_100 : decode cX7_told 100 = .ok (.aload_n 0, 1) := by decide +kernel
theorem dX7_told_101 : decode cX7_told 101 = .ok (.getfield 12, 3) := by decide +kernel
theorem dX7_told_104 : decode cX7_told 104 = .ok (.getfield 115, 3) := by decide +kernel
theorem dX7_told_107 : decode cX7_told 107 = .ok (.ireturn, 1) := by decide +kernel
theorem dX7_told_108 : decode cX7_told 108 = .ok (.aload_n 0, 1) := by decide +kernel
theorem dX7_told_109 : decode cX7_told 109 = .ok (.getfield 12, 3) := by decide +kernel
theorem dX7_told_112 : decode cX7_told 112 = .ok (.getfield 118, 3) := by decide +kernel
theorem dX7_told_115 : decode cX7_told 115 = .ok (.ireturn, 1) := by decide +kernel
theorem dX7_told_116 : decode cX7_told 116 = .ok (.aload_n 0, 1) := by decide +kernel
theorem dX7_told_117 : decode cX7_told 117 = .ok (.getfield 12, 3) := by decide +kernel
theorem dX7_told_120 : decode cX7_told 120 = .ok (.getfield 125, 3) := by decide +kernel
theorem dX7_told_123 : decode cX7_told 123 = .ok (.ireturn, 1) := by decide +kernel
theorem dX7_told_124 : decode cX7_told 124 = .ok (.bipush (-2), 2) := by decide +kernel
theorem dX7_told_126 : decode cX7_told 126 = .ok (.ireturn, 1) := by decide +kernel
theorem dX7_hearNothing_0 : decode cX7_hearNothing 0 = .ok (.aload_n 0, 1) := by decide +kernel
theorem dX7_hearNothing_1 : decode cX7_hearNothing 1 = .ok (.getfield 19, 3) := by decide +kernel
theorem dX7_hearNothing_4 : decode cX7_hearNothing 4 = .ok (.iconst 0, 1) := by decide +kernel
theorem dX7_hearNothing_5 : decode cX7_hearNothing 5 = .ok (.putfield 83, 3) := by decide +kernel
theorem dX7_hearNothing_8 : decode cX7_hearNothing 8 = .ok (.aload_n 0, 1) := by decide +kernel
theorem dX7_hearNothing_9 : decode cX7_hearNothing 9 = .ok (.getfield 46, 3) := by decide +kernel
theorem dX7_hearNothing_12 : decode cX7_hearNothing 12 = .ok (.iconst 0, 1) := by decide +kernel
theorem dX7_hearNothing_13 : decode cX7_hearNothing 13 = .ok (.putfield 152, 3) := by decide +kernel
theorem dX7_hearNothing_16 : decode cX7_hearNothing 16 = .ok (.aload_n 0, 1) := by decide +kernel
theorem dX7_hearNothing_17 : decode cX7_hearNothing 17 = .ok (.getfield 53, 3) := by decide +kernel
theorem dX7_hearNothing_20 : decode cX7_hearNothing 20 = .ok (.iconst 0, 1) := by decide +kernel
theorem dX7_hearNothing_21 : decode cX7_hearNothing 21 = .ok (.putfield 148, 3) := by decide +kernel
theorem dX7_hearNothing_24 : decode cX7_hearNothing 24 = .ok (.return_, 1) := by decide +kernel
theorem dX7_isWithin_0 : decode cX7_isWithin 0 = .ok (.iload_n 0, 1) := by decide +kernel
theorem dX7_isWithin_1 : decode cX7_isWithin 1 = .ok (.iload_n 1, 1) := by decide +kernel
theorem dX7_isWithin_2 : decode cX7_isWithin 2 = .ok (.if_icmp .lt 12, 3) := by decide +kernel
theorem dX7_isWithin_5 : decode cX7_isWithin 5 = .ok (.iload_n 0, 1) := by decide +kernel
theorem dX7_isWithin_6 : decode cX7_isWithin 6 = .ok (.iload_n 2, 1) := by decide +kernel
theorem dX7_isWithin_7 : decode cX7_isWithin 7 = .ok (.if_icmp .gt 7, 3) := by decide +kernel
theorem dX7_isWithin_10 : decode cX7_isWithin 10 = .ok (.iconst 1, 1) := by decide +kernel
theorem dX7_isWithin_11 : decode cX7_isWithin 11 = .ok (.goto 4, 3) := by decide +kernel
theorem dX7_isWithin_14 : decode cX7_isWithin 14 = .ok (.iconst 0, 1) := by decide +kernel
theorem dX7_isWithin_15 : decode cX7_isWithin 15 = .ok (.ireturn, 1) := by decide +kernel
theorem dX7_sumOf_0 : decode cX7_sumOf 0 = .ok (.iconst 0, 1) := by decide +kernel
theorem dX7_sumOf_1 : decode cX7_sumOf 1 = .ok (.istore_n 2, 1) := by decide +kernel
theorem dX7_sumOf_2 : decode cX7_sumOf 2 = .ok (.iconst 0, 1) := by decide +kernel
theorem dX7_sumOf_3 : decode cX7_sumOf 3 = .ok (.istore_n 3, 1) := by decide +kernel
theorem dX7_sumOf_4 : decode cX7_sumOf 4 = .ok (.iload_n 3, 1) := by decide +kernel
theorem dX7_sumOf_5 : decode cX7_sumOf 5 = .ok (.iload_n 1, 1) := by decide +kernel
theorem dX7_sumOf_6 : decode cX7_sumOf 6 = .ok (.if_icmp .ge 21, 3) := by decide +kernel
theorem dX7_sumOf_9 : decode cX7_sumOf 9 = .ok (.iload_n 3, 1) := by decide +kernel
theorem dX7_sumOf_10 : decode cX7_sumOf 10 = .ok (.aload_n 0, 1) := by decide +kernel
theorem dX7_sumOf_11 : decode cX7_sumOf 11 = .ok (.arraylength, 1) := by decide +kernel
theorem dX7_sumOf_12 : decode cX7_sumOf 12 = .ok (.if_icmp .ge 15, 3) := by decide +kernel
theorem dX7_sumOf_15 : decode cX7_sumOf 15 = .ok (.iload_n 2, 1) := by decide +kernel
theorem dX7_sumOf_16 : decode cX7_sumOf 16 = .ok (.aload_n 0, 1) := by decide +kernel
theorem dX7_sumOf_17 : decode cX7_sumOf 17 = .ok (.iload_n 3, 1) := by decide +kernel
theorem dX7_sumOf_18 : decode cX7_sumOf 18 = .ok (.iaload, 1) := by decide +kernel
theorem dX7_sumOf_19 : decode cX7_sumOf 19 = .ok (.iadd, 1) := by decide +kernel
theorem dX7_sumOf_20 : decode cX7_sumOf 20 = .ok (.istore_n 2, 1) := by decide +kernel
theorem dX7_sumOf_21 : decode cX7_sumOf 21 = .ok (.iinc 3 1, 3) := by decide +kernel
theorem dX7_sumOf_24 : decode cX7_sumOf 24 = .ok (.goto (-20), 3) := by decide +kernel
theorem dX7_sumOf_27 : decode cX7_sumOf 27 = .ok (.iload_n 2, 1) := by decide +kernel
theorem dX7_sumOf_28 : decode cX7_sumOf 28 = .ok (.ireturn, 1) := by decide +kernel
theorem dX7_lowestTerms_0 : decode cX7_lowestTerms 0 = .ok (.iload_n 0, 1) := by decide +kernel
theorem dX7_lowestTerms_1 : decode cX7_lowestTerms 1 = .ok (.iload_n 1, 1) := by decide +kernel
theorem dX7_lowestTerms_2 : decode cX7_lowestTerms 2 = .ok (.invokestatic 242, 3) := by decide +kernel
theorem dX7_lowestTerms_5 : decode cX7_lowestTerms 5 = .ok (.istore_n 3, 1) := by decide +kernel
theorem dX7_lowestTerms_6 : decode cX7_lowestTerms 6 = .ok (.iload_n 2, 1) := by decide +kernel
theorem dX7_lowestTerms_7 : decode cX7_lowestTerms 7 = .ok (.ifCond .ne 7, 3) := by decide +kernel
theorem dX7_lowestTerms_10 : decode cX7_lowestTerms 10 = .ok (.iload_n 0, 1) := by decide +kernel
theorem dX7_lowestTerms_11 : decode cX7_lowestTerms 11 = .ok (.goto 4, 3) := by decide +kernel
theorem dX7_lowestTerms_14 : decode cX7_lowestTerms 14 = .ok (.iload_n 1, 1) := by decide +kernel
theorem dX7_lowestTerms_15 : decode cX7_lowestTerms 15 = .ok (.istore 4, 2) := by decide +kernel
theorem dX7_lowestTerms_17 : decode cX7_lowestTerms 17 = .ok (.iload_n 3, 1) := by decide +kernel
theorem dX7_lowestTerms_18 : decode cX7_lowestTerms 18 = .ok (.ifCond .ne 8, 3) := by decide +kernel
theorem dX7_lowestTerms_21 : decode cX7_lowestTerms 21 = .ok (.iload 4, 2) := by decide +kernel
theorem dX7_lowestTerms_23 : decode cX7_lowestTerms 23 = .ok (.goto 7, 3) := by decide +kernel
theorem dX7_lowestTerms_26 : decode cX7_lowestTerms 26 = .ok (.iload 4, 2) := by decide +kernel
theorem dX7_lowestTerms_28 : decode cX7_lowestTerms 28 = .ok (.iload_n 3, 1) := by decide +kernel
theorem dX7_lowestTerms_29 : decode cX7_lowestTerms 29 = .ok (.idiv, 1) := by decide +kernel
theorem dX7_lowestTerms_30 : decode cX7_lowestTerms 30 = .ok (.ireturn, 1) := by decide +kernel
theorem dX7_commonDivisor_0 : decode cX7_commonDivisor 0 = .ok (.iload_n 0, 1) := by decide +kernel
theorem dX7_commonDivisor_1 : decode cX7_commonDivisor 1 = .ok (.istore_n 2, 1) := by decide +kernel
theorem dX7_commonDivisor_2 : decode cX7_commonDivisor 2 = .ok (.iload_n 1, 1) := by decide +kernel
theorem dX7_commonDivisor_3 : decode cX7_commonDivisor 3 = .ok (.istore_n 3, 1) := by decide +kernel
theorem dX7_commonDivisor_4 : decode cX7_commonDivisor 4 = .ok (.iconst 0, 1) := by decide +kernel
theorem dX7_commonDivisor_5 : decode cX7_commonDivisor 5 = .ok (.istore 4, 2) := by decide +kernel
theorem dX7_commonDivisor_7 : decode cX7_commonDivisor 7 = .ok (.iload 4, 2) := by decide +kernel
theorem dX7_commonDivisor_9 : decode cX7_commonDivisor 9 = .ok (.bipush 64, 2) := by decide +kernel
theorem dX7_commonDivisor_11 : decode cX7_commonDivisor 11 = .ok (.if_icmp .ge 23, 3) := by decide +kernel
theorem dX7_commonDivisor_14 : decode cX7_commonDivisor 14 = .ok (.iload_n 3, 1) := by decide +kernel
theorem dX7_commonDivisor_15 : decode cX7_commonDivisor 15 = .ok (.ifCond .eq 19, 3) := by decide +kernel
theorem dX7_commonDivisor_18 : decode cX7_commonDivisor 18 = .ok (.iload_n 2, 1) := by decide +kernel
theorem dX7_commonDivisor_19 : decode cX7_commonDivisor 19 = .ok (.iload_n 3, 1) := by decide +kernel
theorem dX7_commonDivisor_20 : decode cX7_commonDivisor 20 = .ok (.irem, 1) := by decide +kernel
theorem dX7_commonDivisor_21 : decode cX7_commonDivisor 21 = .ok (.istore 5, 2) := by decide +kernel
theorem dX7_commonDivisor_23 : decode cX7_commonDivisor 23 = .ok (.iload_n 3, 1) := by decide +kernel
theorem dX7_commonDivisor_24 : decode cX7_commonDivisor 24 = .ok (.istore_n 2, 1) := by decide +kernel
theorem dX7_commonDivisor_25 : decode cX7_commonDivisor 25 = .ok (.iload 5, 2) := by decide +kernel
theorem dX7_commonDivisor_27 : decode cX7_commonDivisor 27 = .ok (.istore_n 3, 1) := by decide +kernel
theorem dX7_commonDivisor_28 : decode cX7_commonDivisor 28 = .ok (.iinc 4 1, 3) := by decide +kernel
theorem dX7_commonDivisor_31 : decode cX7_commonDivisor 31 = .ok (.goto (-24), 3) := by decide +kernel
theorem dX7_commonDivisor_34 : decode cX7_commonDivisor 34 = .ok (.iload_n 2, 1) := by decide +kernel
theorem dX7_commonDivisor_35 : decode cX7_commonDivisor 35 = .ok (.ireturn, 1) := by decide +kernel
end
section
theorem dX8_init_0 : decode cX8_init 0 = .ok (.aload_n 0, 1) := by decide +kernel
theorem dX8_init_1 : decode cX8_init 1 = .ok (.invokespecial 1, 3) := by decide +kernel
theorem dX8_init_4 : decode cX8_init 4 = .ok (.aload_n 0, 1) := by decide +kernel
theorem dX8_init_5 : decode cX8_init 5 = .ok (.bipush 60, 2) := by decide +kernel
theorem dX8_init_7 : decode cX8_init 7 = .ok (.newarray .int, 2) := by decide +kernel
theorem dX8_init_9 : decode cX8_init 9 = .ok (.putfield 7, 3) := by decide +kernel
theorem dX8_init_12 : decode cX8_init 12 = .ok (.aload_n 0, 1) := by decide +kernel
theorem dX8_init_13 : decode cX8_init 13 = .ok (.bipush 60, 2) := by decide +kernel
theorem dX8_init_15 : decode cX8_init 15 = .ok (.newarray .int, 2) := by decide +kernel
theorem dX8_init_17 : decode cX8_init 17 = .ok (.putfield 13, 3) := by decide +kernel
theorem dX8_init_20 : decode cX8_init 20 = .ok (.aload_n 0, 1) := by decide +kernel
theorem dX8_init_21 : decode cX8_init 21 = .ok (.bipush 60, 2) := by decide +kernel
theorem dX8_init_23 : decode cX8_init 23 = .ok (.newarray .int, 2) := by decide +kernel
theorem dX8_init_25 : decode cX8_init 25 = .ok (.putfield 16, 3) := by decide +kernel
theorem dX8_init_28 : decode cX8_init 28 = .ok (.aload_n 0, 1) := by decide +kernel
theorem dX8_init_29 : decode cX8_init 29 = .ok (.bipush 60, 2) := by decide +kernel
theorem dX8_init_31 : decode cX8_init 31 = .ok (.newarray .int, 2) := by decide +kernel
theorem dX8_init_33 : decode cX8_init 33 = .ok (.putfield 19, 3) := by decide +kernel
theorem dX8_init_36 : decode cX8_init 36 = .ok (.aload_n 0, 1) := by decide +kernel
theorem dX8_init_37 : decode cX8_init 37 = .ok (.bipush 12, 2) := by decide +kernel
theorem dX8_init_39 : decode cX8_init 39 = .ok (.newarray .int, 2) := by decide +kernel
theorem dX8_init_41 : decode cX8_init 41 = .ok (.putfield 22, 3) := by decide +kernel
theorem dX8_init_44 : decode cX8_init 44 = .ok (.aload_n 0, 1) := by decide +kernel
theorem dX8_init_45 : decode cX8_init 45 = .ok (.bipush 12, 2) := by decide +kernel
theorem dX8_init_47 : decode cX8_init 47 = .ok (.newarray .int, 2) := by decide +kernel
theorem dX8_init_49 : decode cX8_init 49 = .ok (.putfield 25, 3) := by decide +kernel
theorem dX8_init_52 : decode cX8_init 52 = .ok (.aload_n 0, 1) := by decide +kernel
theorem dX8_init_53 : decode cX8_init 53 = .ok (.iconst (-1), 1) := by decide +kernel
theorem dX8_init_54 : decode cX8_init 54 = .ok (.putfield 28, 3) := by decide +kernel
theorem dX8_init_57 : decode cX8_init 57 = .ok (.aload_n 0, 1) := by decide +kernel
theorem dX8_init_58 : decode cX8_init 58 = .ok (.iconst (-1), 1) := by decide +kernel
theorem dX8_init_59 : decode cX8_init 59 = .ok (.putfield 32, 3) := by decide +kernel
theorem dX8_init_62 : decode cX8_init 62 = .ok (.aload_n 0, 1) := by decide +kernel
theorem dX8_init_63 : decode cX8_init 63 = .ok (.iconst 5, 1) := by decide +kernel
theorem dX8_init_64 : decode cX8_init 64 = .ok (.newarray .int, 2) := by decide +kernel
theorem dX8_init_66 : decode cX8_init 66 = .ok (.putfield 35, 3) := by decide +kernel
theorem dX8_init_69 : decode cX8_init 69 = .ok (.aload_n 0, 1) := by decide +kernel
theorem dX8_init_70 : decode cX8_init 70 = .ok (.bipush 120, 2) := by decide +kernel
theorem dX8_init_72 : decode cX8_init 72 = .ok (.newarray .int, 2) := by decide +kernel
theorem dX8_init_74 : decode cX8_init 74 = .ok (.putfield 38, 3) := by decide +kernel
theorem dX8_init_77 : decode cX8_init 77 = .ok (.aload_n 0, 1) := by decide +kernel
theorem dX8_init_78 : decode cX8_init 78 = .ok (.bipush 120, 2) := by decide +kernel
theorem dX8_init_80 : decode cX8_init 80 = .ok (.newarray .int, 2) := by decide +kernel
theorem dX8_init_82 : decode cX8_init 82 = .ok (.putfield 41, 3) := by decide +kernel
theorem dX8_init_85 : decode cX8_init 85 = .ok (.aload_n 0, 1) := by decide +kernel
theorem dX8_init_86 : decode cX8_init 86 = .ok (.bipush 61, 2) := by decide +kernel
theorem dX8_init_88 : decode cX8_init 88 = .ok (.newarray .int, 2) := by decide +kernel
theorem dX8_init_90 : decode cX8_init 90 = .ok (.putfield 44, 3) := by decide +kernel
theorem dX8_init_93 : decode cX8_init 93 = .ok (.aload_n 0, 1) := by decide +kernel
theorem dX8_init_94 : decode cX8_init 94 = .ok (.bipush 61, 2) := by decide +kernel
theorem dX8_init_96 : decode cX8_init 96 = .ok (.newarray .int, 2) := by decide +kernel
theorem dX8_init_98 : decode cX8_init 98 = .ok (.putfield 47, 3) := by decide +kernel
theorem dX8_init_101 : decode cX8_init 101 = .ok (.aload_n 0, 1) := by decide +kernel
theorem dX8_init_102 : decode cX8_init 102 = .ok (.bipush 61, 2) := by decide +kernel
theorem dX8_init_104 : decode cX8_init 104 = .ok (.newarray .int, 2) := by decide +kernel
theorem dX8_init_106 : decode cX8_init 106 = .ok (.putfield 50, 3) := by decide +kernel
theorem dX8_init_109 : decode cX8_init 109 = .ok (.aload_n 0, 1) := by decide +kernel
theorem dX8_init_110 : decode cX8_init 110 = .ok (.bipush 120, 2) := by decide +kernel
theorem dX8_init_112 : decode cX8_init 112 = .ok (.newarray .int, 2) := by decide +kernel
theorem dX8_init_114 : decode cX8_init 114 = .ok (.putfield 53, 3) := by decide +kernel
theorem dX8_init_117 : decode cX8_init 117 = .ok (.aload_n 0, 1) := by decide +kernel
theorem dX8_init_118 : decode cX8_init 118 = .ok (.bipush 120, 2) := by decide +kernel
theorem dX8_init_120 : decode cX8_init 120 = .ok (.newarray .int, 2) := by decide +kernel
theorem dX8_init_122 : decode cX8_init 122 = .ok (.putfield 56, 3) := by decide +kernel
theorem dX8_init_125 : decode cX8_init 125 = .ok (.aload_n 0, 1) := by decide +kernel
theorem dX8_init_126 : decode cX8_init 126 = .ok (.bipush 14, 2) := by decide +kernel
theorem dX8_init_128 : decode cX8_init 128 = .ok (.newarray .int, 2) := by decide +kernel
theorem dX8_init_130 : decode cX8_init 130 = .ok (.putfield 59, 3) := by decide +kernel
theorem dX8_init_133 : decode cX8_init 133 = .ok (.aload_n 0, 1) := by decide +kernel
theorem dX8_init_134 : decode cX8_init 134 = .ok (.bipush 14, 2) := by decide +kernel
theorem dX8_init_136 : decode cX8_init 136 = .ok (.newarray .int, 2) := by decide +kernel
theorem dX8_init_138 : decode cX8_init 138 = .ok (.putfield 62, 3) := by decide +kernel
theorem dX8_init_141 : decode cX8_init 141 = .ok (.aload_n 0, 1) := by decide +kernel
theorem dX8_init_142 : decode cX8_init 142 = .ok (.sipush 7381, 3) := by decide +kernel
theorem dX8_init_145 : decode cX8_init 145 = .ok (.newarray .int, 2) := by decide +kernel
theorem dX8_init_147 : decode cX8_init 147 = .ok (.putfield 65, 3) := by decide +kernel
theorem dX8_init_150 : decode cX8_init 150 = .ok (.aload_n 0, 1) := by decide +kernel
theorem dX8_init_151 : decode cX8_init 151 = .ok (.sipush 7400, 3) := by decide +kernel
theorem dX8_init_154 : decode cX8_init 154 = .ok (.newarray .int, 2) := by decide +kernel
theorem dX8_init_156 : decode cX8_init 156 = .ok (.putfield 68, 3) := by decide +kernel
theorem dX8_init_159 : decode cX8_init 159 = .ok (.aload_n 0, 1) := by decide +kernel
theorem dX8_init_160 : decode cX8_init 160 = .ok (.sipush 7400, 3) := by decide +kernel
theorem dX8_init_163 : decode cX8_init 163 = .ok (.newarray .int, 2) := by decide +kernel
theorem dX8_init_165 : decode cX8_init 165 = .ok (.putfield 71, 3) := by decide +kernel
theorem dX8_init_168 : decode cX8_init 168 = .ok (.aload_n 0, 1) := by decide +kernel
theorem dX8_init_169 : decode cX8_init 169 = .ok (.sipush 7400, 3) := by decide +kernel
theorem dX8_init_172 : decode cX8_init 172 = .ok (.newarray .int, 2) := by decide +kernel
theorem dX8_init_174 : decode cX8_init 174 = .ok (.putfield 74, 3) := by decide +kernel
theorem dX8_init_177 : decode cX8_init 177 = .ok (.aload_n 0, 1) := by decide +kernel
theorem dX8_init_178 : decode cX8_init 178 = .ok (.sipush 7400, 3) := by decide +kernel
theorem dX8_init_181 : decode cX8_init 181 = .ok (.newarray .int, 2) := by decide +kernel
theorem dX8_init_183 : decode cX8_init 183 = .ok (.putfield 77, 3) := by decide +kernel
theorem dX8_init_186 : decode cX8_init 186 = .ok (.aload_n 0, 1) := by decide +kernel
theorem dX8_init_187 : decode cX8_init 187 = .ok (.invokevirtual 80, 3) := by decide +kernel
theorem dX8_init_190 : decode cX8_init 190 = .ok (.return_, 1) := by decide +kernel
theorem dX8_thrown_0 : decode cX8_thrown 0 = .ok (.aload_n 0, 1) := by decide +kernel
theorem dX8_thrown_1 : decode cX8_thrown 1 = .ok (.getfield 83, 3) := by decide +kernel
theorem dX8_thrown_4 : decode cX8_thrown 4 = .ok (.ireturn, 1) := by decide +kernel
theorem dX8_begin_0 : decode cX8_begin 0 = .ok (.aload_n 0, 1) := by decide +kernel
theorem dX8_begin_1 : decode cX8_begin 1 = .ok (.iconst 0, 1) := by decide +kernel
theorem dX8_begin_2 : decode cX8_begin 2 = .ok (.putfield 86, 3) := by decide +kernel
theorem dX8_begin_5 : decode cX8_begin 5 = .ok (.aload_n 0, 1) := by decide +kernel
theorem dX8_begin_6 : decode cX8_begin 6 = .ok (.iconst 0, 1) := by decide +kernel
theorem dX8_begin_7 : decode cX8_begin 7 = .ok (.putfield 89, 3) := by decide +kernel
theorem dX8_begin_10 : decode cX8_begin 10 = .ok (.aload_n 0, 1) := by decide +kernel
theorem dX8_begin_11 : decode cX8_begin 11 = .ok (.iconst (-1), 1) := by decide +kernel
theorem dX8_begin_12 : decode cX8_begin 12 = .ok (.putfield 28, 3) := by decide +kernel
theorem dX8_begin_15 : decode cX8_begin 15 = .ok (.aload_n 0, 1) := by decide +kernel
theorem dX8_begin_16 : decode cX8_begin 16 = .ok (.iconst (-1), 1) := by decide +kernel
theorem dX8_begin_17 : decode cX8_begin 17 = .ok (.putfield 32, 3) := by decide +kernel
theorem dX8_begin_20 : decode cX8_begin 20 = .ok (.aload_n 0, 1) := by decide +kernel
theorem dX8_begin_21 : decode cX8_begin 21 = .ok (.getfield 35, 3) := by decide +kernel
theorem dX8_begin_24 : decode cX8_begin 24 = .ok (.iconst 0, 1) := by decide +kernel
theorem dX8_begin_25 : decode cX8_begin 25 = .ok (.iconst 3, 1) := by decide +kernel
theorem dX8_begin_26 : decode cX8_begin 26 = .ok (.iastore, 1) := by decide +kernel
theorem dX8_begin_27 : decode cX8_begin 27 = .ok (.aload_n 0, 1) := by decide +kernel
theorem dX8_begin_28 : decode cX8_begin 28 = .ok (.getfield 35, 3) := by decide +kernel
theorem dX8_begin_31 : decode cX8_begin 31 = .ok (.iconst 1, 1) := by decide +kernel
theorem dX8_begin_32 : decode cX8_begin 32 = .ok (.iconst 2, 1) := by decide +kernel
theorem dX8_begin_33 : decode cX8_begin 33 = .ok (.iastore, 1) := by decide +kernel
theorem dX8_begin_34 : decode cX8_begin 34 = .ok (.aload_n 0, 1) := by decide +kernel
theorem dX8_begin_35 : decode cX8_begin 35 = .ok (.getfield 35, 3) := by decide +kernel
theorem dX8_begin_38 : decode cX8_begin 38 = .ok (.iconst 2, 1) := by decide +kernel
theorem dX8_begin_39 : decode cX8_begin 39 = .ok (.iconst 2, 1) := by decide +kernel
theorem dX8_begin_40 : decode cX8_begin 40 = .ok (.iastore, 1) := by decide +kernel
theorem dX8_begin_41 : decode cX8_begin 41 = .ok (.aload_n 0, 1) := by decide +kernel
theorem dX8_begin_42 : decode cX8_begin 42 = .ok (.getfield 35, 3) := by decide +kernel
theorem dX8_begin_45 : decode cX8_begin 45 = .ok (.iconst 3, 1) := by decide +kernel
theorem dX8_begin_46 : decode cX8_begin 46 = .ok (.iconst 1, 1) := by decide +kernel
theorem dX8_begin_47 : decode cX8_begin 47 = .ok (.iastore, 1) := by decide +kernel
theorem dX8_begin_48 : decode cX8_begin 48 = .ok (.aload_n 0, 1) := by decide +kernel
theorem dX8_begin_49 : decode cX8_begin 49 = .ok (.getfield 35, 3) := by decide +kernel
theorem dX8_begin_52 : decode cX8_begin 52 = .ok (.iconst 4, 1) := by decide +kernel
theorem dX8_begin_53 : decode cX8_begin 53 = .ok (.bipush 6, 2) := by decide +kernel
theorem dX8_begin_55 : decode cX8_begin 55 = .ok (.iastore, 1) := by decide +kernel
theorem dX8_begin_56 : decode cX8_begin 56 = .ok (.aload_n 0, 1) := by decide +kernel
theorem dX8_begin_57 : decode cX8_begin 57 = .ok (.bipush 8, 2) := by decide +kernel
theorem dX8_begin_59 : decode cX8_begin 59 = .ok (.putfield 92, 3) := by decide +kernel
theorem dX8_begin_62 : decode cX8_begin 62 = .ok (.aload_n 0, 1) := by decide +kernel
theorem dX8_begin_63 : decode cX8_begin 63 = .ok (.iconst 0, 1) := by decide +kernel
theorem dX8_begin_64 : decode cX8_begin 64 = .ok (.putfield 95, 3) := by decide +kernel
theorem dX8_begin_67 : decode cX8_begin 67 = .ok (.aload_n 0, 1) := by decide +kernel
theorem dX8_begin_68 : decode cX8_begin 68 = .ok (.invokevirtual 98, 3) := by decide +kernel
theorem dX8_begin_71 : decode cX8_begin 71 = .ok (.return_, 1) := by decide +kernel
theorem dX8_fresh_0 : decode cX8_fresh 0 = .ok (.aload_n 0, 1) := by decide +kernel
theorem dX8_fresh_1 : decode cX8_fresh 1 = .ok (.iconst 0, 1) := by decide +kernel
theorem dX8_fresh_2 : decode cX8_fresh 2 = .ok (.putfield 101, 3) := by decide +kernel
theorem dX8_fresh_5 : decode cX8_fresh 5 = .ok (.aload_n 0, 1) := by decide +kernel
theorem dX8_fresh_6 : decode cX8_fresh 6 = .ok (.iconst 0, 1) := by decide +kernel
theorem dX8_fresh_7 : decode cX8_fresh 7 = .ok (.putfield 104, 3) := by decide +kernel
theorem dX8_fresh_10 : decode cX8_fresh 10 = .ok (.aload_n 0, 1) := by decide +kernel
theorem dX8_fresh_11 : decode cX8_fresh 11 = .ok (.invokevirtual 108, 3) := by decide +kernel
theorem dX8_fresh_14 : decode cX8_fresh 14 = .ok (.return_, 1) := by decide +kernel
theorem dX8_clear_0 : decode cX8_clear 0 = .ok (.aload_n 0, 1) := by decide +kernel
theorem dX8_clear_1 : decode cX8_clear 1 = .ok (.iconst 0, 1) := by decide +kernel
theorem dX8_clear_2 : decode cX8_clear 2 = .ok (.putfield 83, 3) := by decide +kernel
theorem dX8_clear_5 : decode cX8_clear 5 = .ok (.aload_n 0, 1) := by decide +kernel
theorem dX8_clear_6 : decode cX8_clear 6 = .ok (.invokevirtual 80, 3) := by decide +kernel
theorem dX8_clear_9 : decode cX8_clear 9 = .ok (.return_, 1) := by decide +kernel
theorem dX8_isThere_0 : decode cX8_isThere 0 = .ok (.iload_n 1, 1) := by decide +kernel
theorem dX8_isThere_1 : decode cX8_isThere 1 = .ok (.ifCond .lt 38, 3) := by decide +kernel
theorem dX8_isThere_4 : decode cX8_isThere 4 = .ok (.iload_n 1, 1) := by decide +kernel
theorem dX8_isThere_5 : decode cX8_isThere 5 = .ok (.aload_n 0, 1) := by decide +kernel
theorem dX8_isThere_6 : decode cX8_isThere 6 = .ok (.getfield 86, 3) := by decide +kernel
theorem dX8_isThere_9 : decode cX8_isThere 9 = .ok (.if_icmp .ge 30, 3) := by decide +kernel
theorem dX8_isThere_12 : decode cX8_isThere 12 = .ok (.aload_n 0, 1) := by decide +kernel
theorem dX8_isThere_13 : decode cX8_isThere 13 = .ok (.getfield 28, 3) := by decide +kernel
theorem dX8_isThere_16 : decode cX8_isThere 16 = .ok (.ifCond .lt 19, 3) := by decide +kernel
theorem dX8_isThere_19 : decode cX8_isThere 19 = .ok (.iload_n 1, 1) := by decide +kernel
theorem dX8_isThere_20 : decode cX8_isThere 20 = .ok (.aload_n 0, 1) := by decide +kernel
theorem dX8_isThere_21 : decode cX8_isThere 21 = .ok (.getfield 28, 3) := by decide +kernel
theorem dX8_isThere_24 : decode cX8_isThere 24 = .ok (.if_icmp .lt 15, 3) := by decide +kernel
theorem dX8_isThere_27 : decode cX8_isThere 27 = .ok (.iload_n 1, 1) := by decide +kernel
theorem dX8_isThere_28 : decode cX8_isThere 28 = .ok (.aload_n 0, 1) := by decide +kernel
theorem dX8_isThere_29 : decode cX8_isThere 29 = .ok (.getfield 32, 3) := by decide +kernel
theorem dX8_isThere_32 : decode cX8_isThere 32 = .ok (.if_icmp .gt 7, 3) := by decide +kernel
theorem dX8_isThere_35 : decode cX8_isThere 35 = .ok (.iconst 1, 1) := by decide +kernel
theorem dX8_isThere_36 : decode cX8_isThere 36 = .ok (.goto 4, 3) := by decide +kernel
theorem dX8_isThere_39 : decode cX8_isThere 39 = .ok (.iconst 0, 1) := by decide +kernel
theorem dX8_isThere_40 : decode cX8_isThere 40 = .ok (.ireturn, 1) := by decide +kernel
theorem dX8_note_0 : decode cX8_note 0 = .ok (.aload_n 0, 1) := by decide +kernel
theorem dX8_note_1 : decode cX8_note 1 = .ok (.iconst 0, 1) := by decide +kernel
theorem dX8_note_2 : decode cX8_note 2 = .ok (.putfield 83, 3) := by decide +kernel
theorem dX8_note_5 : decode cX8_note 5 = .ok (.iload_n 1, 1) := by decide +kernel
theorem dX8_note_6 : decode cX8_note 6 = .ok (.ifCond .lt 41, 3) := by decide +kernel
theorem dX8_note_9 : decode cX8_note 9 = .ok (.iload_n 1, 1) := by decide +kernel
theorem dX8_note_10 : decode cX8_note 10 = .ok (.bipush 127, 2) := by decide +kernel
theorem dX8_note_12 : decode cX8_note 12 = .ok (.if_icmp .gt 35, 3) := by decide +kernel
theorem dX8_note_15 : decode cX8_note 15 = .ok (.iload_n 2, 1) := by decide +kernel
theorem dX8_note_16 : decode cX8_note 16 = .ok (.ifCond .lt 31, 3) := by decide +kernel
theorem dX8_note_19 : decode cX8_note 19 = .ok (.iload_n 2, 1) := by decide +kernel
theorem dX8_note_20 : decode cX8_note 20 = .ok (.ldc 111, 2) := by decide +kernel
theorem dX8_note_22 : decode cX8_note 22 = .ok (.if_icmp .gt 25, 3) := by decide +kernel
theorem dX8_note_25 : decode cX8_note 25 = .ok (.aload_n 0, 1) := by decide +kernel
theorem dX8_note_26 : decode cX8_note 26 = .ok (.getfield 86, 3) := by decide +kernel
theorem dX8_note_29 : decode cX8_note 29 = .ok (.ifCond .le 21, 3) := by decide +kernel
theorem dX8_note_32 : decode cX8_note 32 = .ok (.iload_n 2, 1) := by decide +kernel
theorem dX8_note_33 : decode cX8_note 33 = .ok (.aload_n 0, 1) := by decide +kernel
theorem dX8_note_34 : decode cX8_note 34 = .ok (.getfield 13, 3) := by decide +kernel
theorem dX8_note_37 : decode cX8_note 37 = .ok (.aload_n 0, 1) := by decide +kernel
theorem dX8_note_38 : decode cX8_note 38 = .ok (.getfield 86, 3) := by decide +kernel
theorem dX8_note_41 : decode cX8_note 41 = .ok (.iconst 1, 1) := by decide +kernel
theorem dX8_note_42 : decode cX8_note 42 = .ok (.isub, 1) := by decide +kernel
theorem dX8_note_43 : decode cX8_note 43 = .ok (.iaload, 1) := by decide +kernel
theorem dX8_note_44 : decode cX8_note 44 = .ok (.if_icmp .gt 6, 3) := by decide +kernel
theorem dX8_note_47 : decode cX8_note 47 = .ok (.bipush (-2), 2) := by decide +kernel
theorem dX8_note_49 : decode cX8_note 49 = .ok (.ireturn, 1) := by decide +kernel
theorem dX8_note_50 : decode cX8_note 50 = .ok (.aload_n 0, 1) := by decide +kernel
theorem dX8_note_51 : decode cX8_note 51 = .ok (.getfield 101, 3) := by decide +kernel
theorem dX8_note_54 : decode cX8_note 54 = .ok (.ifCond .gt 10, 3) := by decide +kernel
theorem dX8_note_57 : decode cX8_note 57 = .ok (.aload_n 0, 1) := by decide +kernel
theorem dX8_note_58 : decode cX8_note 58 = .ok (.getfield 28, 3) := by decide +kernel
theorem dX8_note_61 : decode cX8_note 61 = .ok (.ifCond .lt 6, 3) := by decide +kernel
theorem dX8_note_64 : decode cX8_note 64 = .ok (.bipush (-3), 2) := by decide +kernel
theorem dX8_note_66 : decode cX8_note 66 = .ok (.ireturn, 1) := by decide +kernel
theorem dX8_note_67 : decode cX8_note 67 = .ok (.aload_n 0, 1) := by decide +kernel
theorem dX8_note_68 : decode cX8_note 68 = .ok (.getfield 86, 3) := by decide +kernel
theorem dX8_note_71 : decode cX8_note 71 = .ok (.bipush 60, 2) := by decide +kernel
theorem dX8_note_73 : decode cX8_note 73 = .ok (.if_icmp .ne 6, 3) := by decide +kernel
theorem dX8_note_76 : decode cX8_note 76 = .ok (.bipush (-4), 2) := by decide +kernel
theorem dX8_note_78 : decode cX8_note 78 = .ok (.ireturn, 1) := by decide +kernel
theorem dX8_note_79 : decode cX8_note 79 = .ok (.aload_n 0, 1) := by decide +kernel
theorem dX8_note_80 : decode cX8_note 80 = .ok (.getfield 7, 3) := by decide +kernel
theorem dX8_note_83 : decode cX8_note 83 = .ok (.aload_n 0, 1) := by decide +kernel
theorem dX8_note_84 : decode cX8_note 84 = .ok (.getfield 86, 3) := by decide +kernel
theorem dX8_note_87 : decode cX8_note 87 = .ok (.iload_n 1, 1) := by decide +kernel
theorem dX8_note_88 : decode cX8_note 88 = .ok (.iastore, 1) := by decide +kernel
theorem dX8_note_89 : decode cX8_note 89 = .ok (.aload_n 0, 1) := by decide +kernel
theorem dX8_note_90 : decode cX8_note 90 = .ok (.getfield 13, 3) := by decide +kernel
theorem dX8_note_93 : decode cX8_note 93 = .ok (.aload_n 0, 1) := by decide +kernel
theorem dX8_note_94 : decode cX8_note 94 = .ok (.getfield 86, 3) := by decide +kernel
theorem dX8_note_97 : decode cX8_note 97 = .ok (.iload_n 2, 1) := by decide +kernel
theorem dX8_note_98 : decode cX8_note 98 = .ok (.iastore, 1) := by decide +kernel
theorem dX8_note_99 : decode cX8_note 99 = .ok (.aload_n 0, 1) := by decide +kernel
theorem dX8_note_100 : decode cX8_note 100 = .ok (.getfield 16, 3) := by decide +kernel
theorem dX8_note_103 : decode cX8_note 103 = .ok (.aload_n 0, 1) := by decide +kernel
theorem dX8_note_104 : decode cX8_note 104 = .ok (.getfield 86, 3) := by decide +kernel
theorem dX8_note_107 : decode cX8_note 107 = .ok (.iconst 0, 1) := by decide +kernel
theorem dX8_note_108 : decode cX8_note 108 = .ok (.iastore, 1) := by decide +kernel
theorem dX8_note_109 : decode cX8_note 109 = .ok (.aload_n 0, 1) := by decide +kernel
theorem dX8_note_110 : decode cX8_note 110 = .ok (.getfield 19, 3) := by decide +kernel
theorem dX8_note_113 : decode cX8_note 113 = .ok (.aload_n 0, 1) := by decide +kernel
theorem dX8_note_114 : decode cX8_note 114 = .ok (.getfield 86, 3) := by decide +kernel
theorem dX8_note_117 : decode cX8_note 117 = .ok (.iconst 0, 1) := by decide +kernel
theorem dX8_note_118 : decode cX8_note 118 = .ok (.iastore, 1) := by decide +kernel
theorem dX8_note_119 : decode cX8_note 119 = .ok (.aload_n 0, 1) := by decide +kernel
theorem dX8_note_120 : decode cX8_note 120 = .ok (.dup, 1) := by decide +kernel
theorem dX8_note_121 : decode cX8_note 121 = .ok (.getfield 86, 3) := by decide +kernel
theorem dX8_note_124 : decode cX8_note 124 = .ok (.iconst 1, 1) := by decide +kernel
theorem dX8_note_125 : decode cX8_note 125 = .ok (.iadd, 1) := by decide +kernel
theorem dX8_note_126 : decode cX8_note 126 = .ok (.putfield 86, 3) := by decide +kernel
theorem dX8_note_129 : decode cX8_note 129 = .ok (.aload_n 0, 1) := by decide +kernel
theorem dX8_note_130 : decode cX8_note 130 = .ok (.invokevirtual 108, 3) := by decide +kernel
theorem dX8_note_133 : decode cX8_note 133 = .ok (.aload_n 0, 1) := by decide +kernel
theorem dX8_note_134 : decode cX8_note 134 = .ok (.getfield 86, 3) := by decide +kernel
theorem dX8_note_137 : decode cX8_note 137 = .ok (.iconst 1, 1) := by decide +kernel
theorem dX8_note_138 : decode cX8_note 138 = .ok (.isub, 1) := by decide +kernel
theorem dX8_note_139 : decode cX8_note 139 = .ok (.ireturn, 1) := by decide +kernel
theorem dX8_way_0 : decode cX8_way 0 = .ok (.aload_n 0, 1) := by decide +kernel
theorem dX8_way_1 : decode cX8_way 1 = .ok (.iconst 0, 1) := by decide +kernel
theorem dX8_way_2 : decode cX8_way 2 = .ok (.putfield 83, 3) := by decide +kernel
theorem dX8_way_5 : decode cX8_way 5 = .ok (.iload_n 1, 1) := by decide +kernel
theorem dX8_way_6 : decode cX8_way 6 = .ok (.ifCond .lt 34, 3) := by decide +kernel
theorem dX8_way_9 : decode cX8_way 9 = .ok (.iload_n 1, 1) := by decide +kernel
theorem dX8_way_10 : decode cX8_way 10 = .ok (.aload_n 0, 1) := by decide +kernel
theorem dX8_way_11 : decode cX8_way 11 = .ok (.getfield 86, 3) := by decide +kernel
theorem dX8_way_14 : decode cX8_way 14 = .ok (.if_icmp .ge 26, 3) := by decide +kernel
theorem dX8_way_17 : decode cX8_way 17 = .ok (.iload_n 2, 1) := by decide +kernel
theorem dX8_way_18 : decode cX8_way 18 = .ok (.ifCond .lt 22, 3) := by decide +kernel
theorem dX8_way_21 : decode cX8_way 21 = .ok (.iload_n 2, 1) := by decide +kernel
theorem dX8_way_22 : decode cX8_way 22 = .ok (.aload_n 0, 1) := by decide +kernel
theorem dX8_way_23 : decode cX8_way 23 = .ok (.getfield 86, 3) := by decide +kernel
theorem dX8_way_26 : decode cX8_way 26 = .ok (.if_icmp .ge 14, 3) := by decide +kernel
theorem dX8_way_29 : decode cX8_way 29 = .ok (.iload_n 2, 1) := by decide +kernel
theorem dX8_way_30 : decode cX8_way 30 = .ok (.iload_n 1, 1) := by decide +kernel
theorem dX8_way_31 : decode cX8_way 31 = .ok (.iconst 1, 1) := by decide +kernel
theorem dX8_way_32 : decode cX8_way 32 = .ok (.iadd, 1) := by decide +kernel
theorem dX8_way_33 : decode cX8_way 33 = .ok (.if_icmp .eq 7, 3) := by decide +kernel
theorem dX8_way_36 : decode cX8_way 36 = .ok (.iconst 1, 1) := by decide +kernel
theorem dX8_way_37 : decode cX8_way 37 = .ok (.goto 4, 3) := by decide +kernel
theorem dX8_way_40 : decode cX8_way 40 = .ok (.iconst 0, 1) := by decide +kernel
theorem dX8_way_41 : decode cX8_way 41 = .ok (.istore_n 3, 1) := by decide +kernel
theorem dX8_way_42 : decode cX8_way 42 = .ok (.iconst 0, 1) := by decide +kernel
theorem dX8_way_43 : decode cX8_way 43 = .ok (.istore 4, 2) := by decide +kernel
theorem dX8_way_45 : decode cX8_way 45 = .ok (.iload 4, 2) := by decide +kernel
theorem dX8_way_47 : decode cX8_way 47 = .ok (.aload_n 0, 1) := by decide +kernel
theorem dX8_way_48 : decode cX8_way 48 = .ok (.getfield 89, 3) := by decide +kernel
theorem dX8_way_51 : decode cX8_way 51 = .ok (.if_icmp .ge 39, 3) := by decide +kernel
theorem dX8_way_54 : decode cX8_way 54 = .ok (.iload_n 3, 1) := by decide +kernel
theorem dX8_way_55 : decode cX8_way 55 = .ok (.aload_n 0, 1) := by decide +kernel
theorem dX8_way_56 : decode cX8_way 56 = .ok (.getfield 22, 3) := by decide +kernel
theorem dX8_way_59 : decode cX8_way 59 = .ok (.iload 4, 2) := by decide +kernel
theorem dX8_way_61 : decode cX8_way 61 = .ok (.iaload, 1) := by decide +kernel
theorem dX8_way_62 : decode cX8_way 62 = .ok (.iload_n 1, 1) := by decide +kernel
theorem dX8_way_63 : decode cX8_way 63 = .ok (.if_icmp .ne 14, 3) := by decide +kernel
theorem dX8_way_66 : decode cX8_way 66 = .ok (.aload_n 0, 1) := by decide +kernel
theorem dX8_way_67 : decode cX8_way 67 = .ok (.getfield 25, 3) := by decide +kernel
theorem dX8_way_70 : decode cX8_way 70 = .ok (.iload 4, 2) := by decide +kernel
theorem dX8_way_72 : decode cX8_way 72 = .ok (.iaload, 1) := by decide +kernel
theorem dX8_way_73 : decode cX8_way 73 = .ok (.iload_n 2, 1) := by decide +kernel
theorem dX8_way_74 : decode cX8_way 74 = .ok (.if_icmp .eq 7, 3) := by decide +kernel
theorem dX8_way_77 : decode cX8_way 77 = .ok (.iconst 1, 1) := by decide +kernel
theorem dX8_way_78 : decode cX8_way 78 = .ok (.goto 4, 3) := by decide +kernel
theorem dX8_way_81 : decode cX8_way 81 = .ok (.iconst 0, 1) := by decide +kernel
theorem dX8_way_82 : decode cX8_way 82 = .ok (.iand, 1) := by decide +kernel
theorem dX8_way_83 : decode cX8_way 83 = .ok (.istore_n 3, 1) := by decide +kernel
theorem dX8_way_84 : decode cX8_way 84 = .ok (.iinc 4 1, 3) := by decide +kernel
theorem dX8_way_87 : decode cX8_way 87 = .ok (.goto (-42), 3) := by decide +kernel
theorem dX8_way_90 : decode cX8_way 90 = .ok (.iload_n 3, 1) := by decide +kernel
theorem dX8_way_91 : decode cX8_way 91 = .ok (.ifCond .ne 6, 3) := by decide +kernel
theorem dX8_way_94 : decode cX8_way 94 = .ok (.bipush (-2), 2) := by decide +kernel
theorem dX8_way_96 : decode cX8_way 96 = .ok (.ireturn, 1) := by decide +kernel
theorem dX8_way_97 : decode cX8_way 97 = .ok (.aload_n 0, 1) := by decide +kernel
theorem dX8_way_98 : decode cX8_way 98 = .ok (.getfield 101, 3) := by decide +kernel
theorem dX8_way_101 : decode cX8_way 101 = .ok (.ifCond .le 6, 3) := by decide +kernel
theorem dX8_way_104 : decode cX8_way 104 = .ok (.bipush (-3), 2) := by decide +kernel
theorem dX8_way_106 : decode cX8_way 106 = .ok (.ireturn, 1) := by decide +kernel
theorem dX8_way_107 : decode cX8_way 107 = .ok (.aload_n 0, 1) := by decide +kernel
theorem dX8_way_108 : decode cX8_way 108 = .ok (.getfield 89, 3) := by decide +kernel
theorem dX8_way_111 : decode cX8_way 111 = .ok (.bipush 12, 2) := by decide +kernel
theorem dX8_way_113 : decode cX8_way 113 = .ok (.if_icmp .ne 6, 3) := by decide +kernel
theorem dX8_way_116 : decode cX8_way 116 = .ok (.bipush (-4), 2) := by decide +kernel
theorem dX8_way_118 : decode cX8_way 118 = .ok (.ireturn, 1) := by decide +kernel
theorem dX8_way_119 : decode cX8_way 119 = .ok (.aload_n 0, 1) := by decide +kernel
theorem dX8_way_120 : decode cX8_way 120 = .ok (.getfield 22, 3) := by decide +kernel
theorem dX8_way_123 : decode cX8_way 123 = .ok (.aload_n 0, 1) := by decide +kernel
theorem dX8_way_124 : decode cX8_way 124 = .ok (.getfield 89, 3) := by decide +kernel
theorem dX8_way_127 : decode cX8_way 127 = .ok (.iload_n 1, 1) := by decide +kernel
theorem dX8_way_128 : decode cX8_way 128 = .ok (.iastore, 1) := by decide +kernel
theorem dX8_way_129 : decode cX8_way 129 = .ok (.aload_n 0, 1) := by decide +kernel
theorem dX8_way_130 : decode cX8_way 130 = .ok (.getfield 25, 3) := by decide +kernel
theorem dX8_way_133 : decode cX8_way 133 = .ok (.aload_n 0, 1) := by decide +kernel
theorem dX8_way_134 : decode cX8_way 134 = .ok (.getfield 89, 3) := by decide +kernel
theorem dX8_way_137 : decode cX8_way 137 = .ok (.iload_n 2, 1) := by decide +kernel
theorem dX8_way_138 : decode cX8_way 138 = .ok (.iastore, 1) := by decide +kernel
theorem dX8_way_139 : decode cX8_way 139 = .ok (.aload_n 0, 1) := by decide +kernel
theorem dX8_way_140 : decode cX8_way 140 = .ok (.dup, 1) := by decide +kernel
theorem dX8_way_141 : decode cX8_way 141 = .ok (.getfield 89, 3) := by decide +kernel
theorem dX8_way_144 : decode cX8_way 144 = .ok (.iconst 1, 1) := by decide +kernel
theorem dX8_way_145 : decode cX8_way 145 = .ok (.iadd, 1) := by decide +kernel
theorem dX8_way_146 : decode cX8_way 146 = .ok (.putfield 89, 3) := by decide +kernel
theorem dX8_way_149 : decode cX8_way 149 = .ok (.aload_n 0, 1) := by decide +kernel
theorem dX8_way_150 : decode cX8_way 150 = .ok (.getfield 89, 3) := by decide +kernel
theorem dX8_way_153 : decode cX8_way 153 = .ok (.iconst 1, 1) := by decide +kernel
theorem dX8_way_154 : decode cX8_way 154 = .ok (.isub, 1) := by decide +kernel
theorem dX8_way_155 : decode cX8_way 155 = .ok (.ireturn, 1) := by decide +kernel
theorem dX8_loop_0 : decode cX8_loop 0 = .ok (.aload_n 0, 1) := by decide +kernel
theorem dX8_loop_1 : decode cX8_loop 1 = .ok (.iconst 0, 1) := by decide +kernel
theorem dX8_loop_2 : decode cX8_loop 2 = .ok (.putfield 83, 3) := by decide +kernel
theorem dX8_loop_5 : decode cX8_loop 5 = .ok (.iload_n 1, 1) := by decide +kernel
theorem dX8_loop_6 : decode cX8_loop 6 = .ok (.iconst (-1), 1) := by decide +kernel
theorem dX8_loop_7 : decode cX8_loop 7 = .ok (.if_icmp .eq 31, 3) := by decide +kernel
theorem dX8_loop_10 : decode cX8_loop 10 = .ok (.iload_n 1, 1) := by decide +kernel
theorem dX8_loop_11 : decode cX8_loop 11 = .ok (.ifCond .lt 24, 3) := by decide +kernel
theorem dX8_loop_14 : decode cX8_loop 14 = .ok (.iload_n 1, 1) := by decide +kernel
theorem dX8_loop_15 : decode cX8_loop 15 = .ok (.aload_n 0, 1) := by decide +kernel
theorem dX8_loop_16 : decode cX8_loop 16 = .ok (.getfield 86, 3) := by decide +kernel
theorem dX8_loop_19 : decode cX8_loop 19 = .ok (.if_icmp .ge 16, 3) := by decide +kernel
theorem dX8_loop_22 : decode cX8_loop 22 = .ok (.iload_n 2, 1) := by decide +kernel
theorem dX8_loop_23 : decode cX8_loop 23 = .ok (.iload_n 1, 1) := by decide +kernel
theorem dX8_loop_24 : decode cX8_loop 24 = .ok (.if_icmp .lt 11, 3) := by decide +kernel
theorem dX8_loop_27 : decode cX8_loop 27 = .ok (.iload_n 2, 1) := by decide +kernel
theorem dX8_loop_28 : decode cX8_loop 28 = .ok (.aload_n 0, 1) := by decide +kernel
theorem dX8_loop_29 : decode cX8_loop 29 = .ok (.getfield 86, 3) := by decide +kernel
theorem dX8_loop_32 : decode cX8_loop 32 = .ok (.if_icmp .lt 6, 3) := by decide +kernel
theorem dX8_loop_35 : decode cX8_loop 35 = .ok (.bipush (-2), 2) := by decide +kernel
theorem dX8_loop_37 : decode cX8_loop 37 = .ok (.ireturn, 1) := by decide +kernel
theorem dX8_loop_38 : decode cX8_loop 38 = .ok (.aload_n 0, 1) := by decide +kernel
theorem dX8_loop_39 : decode cX8_loop 39 = .ok (.getfield 101, 3) := by decide +kernel
theorem dX8_loop_42 : decode cX8_loop 42 = .ok (.ifCond .le 6, 3) := by decide +kernel
theorem dX8_loop_45 : decode cX8_loop 45 = .ok (.bipush (-3), 2) := by decide +kernel
theorem dX8_loop_47 : decode cX8_loop 47 = .ok (.ireturn, 1) := by decide +kernel
theorem dX8_loop_48 : decode cX8_loop 48 = .ok (.aload_n 0, 1) := by decide +kernel
theorem dX8_loop_49 : decode cX8_loop 49 = .ok (.getfield 28, 3) := by decide +kernel
theorem dX8_loop_52 : decode cX8_loop 52 = .ok (.ifCond .lt 7, 3) := by decide +kernel
theorem dX8_loop_55 : decode cX8_loop 55 = .ok (.iconst 1, 1) := by decide +kernel
theorem dX8_loop_56 : decode cX8_loop 56 = .ok (.goto 4, 3) := by decide +kernel
theorem dX8_loop_59 : decode cX8_loop 59 = .ok (.iconst 0, 1) := by decide +kernel
theorem dX8_loop_60 : decode cX8_loop 60 = .ok (.istore_n 3, 1) := by decide +kernel
theorem dX8_loop_61 : decode cX8_loop 61 = .ok (.aload_n 0, 1) := by decide +kernel
theorem dX8_loop_62 : decode cX8_loop 62 = .ok (.iload_n 1, 1) := by decide +kernel
theorem dX8_loop_63 : decode cX8_loop 63 = .ok (.putfield 28, 3) := by decide +kernel
theorem dX8_loop_66 : decode cX8_loop 66 = .ok (.aload_n 0, 1) := by decide +kernel
theorem dX8_loop_67 : decode cX8_loop 67 = .ok (.iload_n 1, 1) := by decide +kernel
theorem dX8_loop_68 : decode cX8_loop 68 = .ok (.ifCond .ge 7, 3) := by decide +kernel
theorem dX8_loop_71 : decode cX8_loop 71 = .ok (.iconst (-1), 1) := by decide +kernel
theorem dX8_loop_72 : decode cX8_loop 72 = .ok (.goto 4, 3) := by decide +kernel
theorem dX8_loop_75 : decode cX8_loop 75 = .ok (.iload_n 2, 1) := by decide +kernel
theorem dX8_loop_76 : decode cX8_loop 76 = .ok (.putfield 32, 3) := by decide +kernel
theorem dX8_loop_79 : decode cX8_loop 79 = .ok (.aload_n 0, 1) := by decide +kernel
theorem dX8_loop_80 : decode cX8_loop 80 = .ok (.invokevirtual 108, 3) := by decide +kernel
theorem dX8_loop_83 : decode cX8_loop 83 = .ok (.iload_n 3, 1) := by decide +kernel
theorem dX8_loop_84 : decode cX8_loop 84 = .ok (.ireturn, 1) := by decide +kernel
theorem dX8_cost_0 : decode cX8_cost 0 = .ok (.aload_n 0, 1) := by decide +kernel
theorem dX8_cost_1 : decode cX8_cost 1 = .ok (.iconst 0, 1) := by decide +kernel
theorem dX8_cost_2 : decode cX8_cost 2 = .ok (.putfield 83, 3) := by decide +kernel
theorem dX8_cost_5 : decode cX8_cost 5 = .ok (.iload_n 1, 1) := by decide +kernel
theorem dX8_cost_6 : decode cX8_cost 6 = .ok (.ifCond .lt 34, 3) := by decide +kernel
theorem dX8_cost_9 : decode cX8_cost 9 = .ok (.iload_n 1, 1) := by decide +kernel
theorem dX8_cost_10 : decode cX8_cost 10 = .ok (.iconst 4, 1) := by decide +kernel
theorem dX8_cost_11 : decode cX8_cost 11 = .ok (.if_icmp .gt 29, 3) := by decide +kernel
theorem dX8_cost_14 : decode cX8_cost 14 = .ok (.iload_n 2, 1) := by decide +kernel
theorem dX8_cost_15 : decode cX8_cost 15 = .ok (.iload_n 1, 1) := by decide +kernel
theorem dX8_cost_16 : decode cX8_cost 16 = .ok (.iconst 1, 1) := by decide +kernel
theorem dX8_cost_17 : decode cX8_cost 17 = .ok (.if_icmp .eq 8, 3) := by decide +kernel
theorem dX8_cost_20 : decode cX8_cost 20 = .ok (.iload_n 1, 1) := by decide +kernel
theorem dX8_cost_21 : decode cX8_cost 21 = .ok (.iconst 2, 1) := by decide +kernel
theorem dX8_cost_22 : decode cX8_cost 22 = .ok (.if_icmp .ne 7, 3) := by decide +kernel
theorem dX8_cost_25 : decode cX8_cost 25 = .ok (.iconst 1, 1) := by decide +kernel
theorem dX8_cost_26 : decode cX8_cost 26 = .ok (.goto 4, 3) := by decide +kernel
theorem dX8_cost_29 : decode cX8_cost 29 = .ok (.iconst 0, 1) := by decide +kernel
theorem dX8_cost_30 : decode cX8_cost 30 = .ok (.if_icmp .lt 10, 3) := by decide +kernel
theorem dX8_cost_33 : decode cX8_cost 33 = .ok (.iload_n 2, 1) := by decide +kernel
theorem dX8_cost_34 : decode cX8_cost 34 = .ok (.sipush 1000, 3) := by decide +kernel
theorem dX8_cost_37 : decode cX8_cost 37 = .ok (.if_icmp .le 6, 3) := by decide +kernel
theorem dX8_cost_40 : decode cX8_cost 40 = .ok (.bipush (-2), 2) := by decide +kernel
theorem dX8_cost_42 : decode cX8_cost 42 = .ok (.ireturn, 1) := by decide +kernel
theorem dX8_cost_43 : decode cX8_cost 43 = .ok (.aload_n 0, 1) := by decide +kernel
theorem dX8_cost_44 : decode cX8_cost 44 = .ok (.getfield 101, 3) := by decide +kernel
theorem dX8_cost_47 : decode cX8_cost 47 = .ok (.ifCond .le 6, 3) := by decide +kernel
theorem dX8_cost_50 : decode cX8_cost 50 = .ok (.bipush (-3), 2) := by decide +kernel
theorem dX8_cost_52 : decode cX8_cost 52 = .ok (.ireturn, 1) := by decide +kernel
theorem dX8_cost_53 : decode cX8_cost 53 = .ok (.aload_n 0, 1) := by decide +kernel
theorem dX8_cost_54 : decode cX8_cost 54 = .ok (.getfield 35, 3) := by decide +kernel
theorem dX8_cost_57 : decode cX8_cost 57 = .ok (.iload_n 1, 1) := by decide +kernel
theorem dX8_cost_58 : decode cX8_cost 58 = .ok (.iaload, 1) := by decide +kernel
theorem dX8_cost_59 : decode cX8_cost 59 = .ok (.istore_n 3, 1) := by decide +kernel
theorem dX8_cost_60 : decode cX8_cost 60 = .ok (.aload_n 0, 1) := by decide +kernel
theorem dX8_cost_61 : decode cX8_cost 61 = .ok (.getfield 35, 3) := by decide +kernel
theorem dX8_cost_64 : decode cX8_cost 64 = .ok (.iload_n 1, 1) := by decide +kernel
theorem dX8_cost_65 : decode cX8_cost 65 = .ok (.iload_n 2, 1) := by decide +kernel
theorem dX8_cost_66 : decode cX8_cost 66 = .ok (.iastore, 1) := by decide +kernel
theorem dX8_cost_67 : decode cX8_cost 67 = .ok (.iload_n 3, 1) := by decide +kernel
theorem dX8_cost_68 : decode cX8_cost 68 = .ok (.ireturn, 1) := by decide +kernel
theorem dX8_span_0 : decode cX8_span 0 = .ok (.aload_n 0, 1) := by decide +kernel
theorem dX8_span_1 : decode cX8_span 1 = .ok (.iconst 0, 1) := by decide +kernel
theorem dX8_span_2 : decode cX8_span 2 = .ok (.putfield 83, 3) := by decide +kernel
theorem dX8_span_5 : decode cX8_span 5 = .ok (.iload_n 1, 1) := by decide +kernel
theorem dX8_span_6 : decode cX8_span 6 = .ok (.ifCond .lt 9, 3) := by decide +kernel
theorem dX8_span_9 : decode cX8_span 9 = .ok (.iload_n 1, 1) := by decide +kernel
theorem dX8_span_10 : decode cX8_span 10 = .ok (.bipush 100, 2) := by decide +kernel
theorem dX8_span_12 : decode cX8_span 12 = .ok (.if_icmp .le 6, 3) := by decide +kernel
theorem dX8_span_15 : decode cX8_span 15 = .ok (.bipush (-2), 2) := by decide +kernel
theorem dX8_span_17 : decode cX8_span 17 = .ok (.ireturn, 1) := by decide +kernel
theorem dX8_span_18 : decode cX8_span 18 = .ok (.aload_n 0, 1) := by decide +kernel
theorem dX8_span_19 : decode cX8_span 19 = .ok (.getfield 101, 3) := by decide +kernel
theorem dX8_span_22 : decode cX8_span 22 = .ok (.ifCond .le 6, 3) := by decide +kernel
theorem dX8_span_25 : decode cX8_span 25 = .ok (.bipush (-3), 2) := by decide +kernel
theorem dX8_span_27 : decode cX8_span 27 = .ok (.ireturn, 1) := by decide +kernel
theorem dX8_span_28 : decode cX8_span 28 = .ok (.aload_n 0, 1) := by decide +kernel
theorem dX8_span_29 : decode cX8_span 29 = .ok (.getfield 92, 3) := by decide +kernel
theorem dX8_span_32 : decode cX8_span 32 = .ok (.istore_n 2, 1) := by decide +kernel
theorem dX8_span_33 : decode cX8_span 33 = .ok (.aload_n 0, 1) := by decide +kernel
theorem dX8_span_34 : decode cX8_span 34 = .ok (.iload_n 1, 1) := by decide +kernel
theorem dX8_span_35 : decode cX8_span 35 = .ok (.putfield 92, 3) := by decide +kernel
theorem dX8_span_38 : decode cX8_span 38 = .ok (.iload_n 2, 1) := by decide +kernel
theorem dX8_span_39 : decode cX8_span 39 = .ok (.ireturn, 1) := by decide +kernel
theorem dX8_nextsOf_0 : decode cX8_nextsOf 0 = .ok (.aload_n 0, 1) := by decide +kernel
theorem dX8_nextsOf_1 : decode cX8_nextsOf 1 = .ok (.iconst 0, 1) := by decide +kernel
theorem dX8_nextsOf_2 : decode cX8_nextsOf 2 = .ok (.putfield 112, 3) := by decide +kernel
theorem dX8_nextsOf_5 : decode cX8_nextsOf 5 = .ok (.iload_n 1, 1) := by decide +kernel
theorem dX8_nextsOf_6 : decode cX8_nextsOf 6 = .ok (.ifCond .lt 9, 3) := by decide +kernel
theorem dX8_nextsOf_9 : decode cX8_nextsOf 9 = .ok (.iload_n 1, 1) := by decide +kernel
theorem dX8_nextsOf_10 : decode cX8_nextsOf 10 = .ok (.iconst 1, 1) := by decide +kernel
theorem dX8_nextsOf_11 : decode cX8_nextsOf 11 = .ok (.iadd, 1) := by decide +kernel
theorem dX8_nextsOf_12 : decode cX8_nextsOf 12 = .ok (.goto 18, 3) := by decide +kernel
theorem dX8_nextsOf_15 : decode cX8_nextsOf 15 = .ok (.aload_n 0, 1) := by decide +kernel
theorem dX8_nextsOf_16 : decode cX8_nextsOf 16 = .ok (.getfield 28, 3) := by decide +kernel
theorem dX8_nextsOf_19 : decode cX8_nextsOf 19 = .ok (.ifCond .lt 10, 3) := by decide +kernel
theorem dX8_nextsOf_22 : decode cX8_nextsOf 22 = .ok (.aload_n 0, 1) := by decide +kernel
theorem dX8_nextsOf_23 : decode cX8_nextsOf 23 = .ok (.getfield 28, 3) := by decide +kernel
theorem dX8_nextsOf_26 : decode cX8_nextsOf 26 = .ok (.goto 4, 3) := by decide +kernel
theorem dX8_nextsOf_29 : decode cX8_nextsOf 29 = .ok (.iconst 0, 1) := by decide +kernel
theorem dX8_nextsOf_30 : decode cX8_nextsOf 30 = .ok (.istore_n 2, 1) := by decide +kernel
theorem dX8_nextsOf_31 : decode cX8_nextsOf 31 = .ok (.aload_n 0, 1) := by decide +kernel
theorem dX8_nextsOf_32 : decode cX8_nextsOf 32 = .ok (.iload_n 2, 1) := by decide +kernel
theorem dX8_nextsOf_33 : decode cX8_nextsOf 33 = .ok (.invokevirtual 115, 3) := by decide +kernel
theorem dX8_nextsOf_36 : decode cX8_nextsOf 36 = .ok (.ifCond .eq 9, 3) := by decide +kernel
theorem dX8_nextsOf_39 : decode cX8_nextsOf 39 = .ok (.aload_n 0, 1) := by decide +kernel
theorem dX8_nextsOf_40 : decode cX8_nextsOf 40 = .ok (.iload_n 2, 1) := by decide +kernel
theorem dX8_nextsOf_41 : decode cX8_nextsOf 41 = .ok (.iconst 0, 1) := by decide +kernel
theorem dX8_nextsOf_42 : decode cX8_nextsOf 42 = .ok (.invokevirtual 119, 3) := by decide +kernel
theorem dX8_nextsOf_45 : decode cX8_nextsOf 45 = .ok (.aload_n 0, 1) := by decide +kernel
theorem dX8_nextsOf_46 : decode cX8_nextsOf 46 = .ok (.getfield 28, 3) := by decide +kernel
theorem dX8_nextsOf_49 : decode cX8_nextsOf 49 = .ok (.ifCond .lt 20, 3) := by decide +kernel
theorem dX8_nextsOf_52 : decode cX8_nextsOf 52 = .ok (.iload_n 1, 1) := by decide +kernel
theorem dX8_nextsOf_53 : decode cX8_nextsOf 53 = .ok (.aload_n 0, 1) := by decide +kernel
theorem dX8_nextsOf_54 : decode cX8_nextsOf 54 = .ok (.getfield 32, 3) := by decide +kernel
theorem dX8_nextsOf_57 : decode cX8_nextsOf 57 = .ok (.if_icmp .ne 12, 3) := by decide +kernel
theorem dX8_nextsOf_60 : decode cX8_nextsOf 60 = .ok (.aload_n 0, 1) := by decide +kernel
theorem dX8_nextsOf_61 : decode cX8_nextsOf 61 = .ok (.aload_n 0, 1) := by decide +kernel
theorem dX8_nextsOf_62 : decode cX8_nextsOf 62 = .ok (.getfield 28, 3) := by decide +kernel
theorem dX8_nextsOf_65 : decode cX8_nextsOf 65 = .ok (.iconst 0, 1) := by decide +kernel
theorem dX8_nextsOf_66 : decode cX8_nextsOf 66 = .ok (.invokevirtual 119, 3) := by decide +kernel
theorem dX8_nextsOf_69 : decode cX8_nextsOf 69 = .ok (.iconst 0, 1) := by decide +kernel
theorem dX8_nextsOf_70 : decode cX8_nextsOf 70 = .ok (.istore_n 3, 1) := by decide +kernel
theorem dX8_nextsOf_71 : decode cX8_nextsOf 71 = .ok (.iload_n 3, 1) := by decide +kernel
theorem dX8_nextsOf_72 : decode cX8_nextsOf 72 = .ok (.aload_n 0, 1) := by decide +kernel
theorem dX8_nextsOf_73 : decode cX8_nextsOf 73 = .ok (.getfield 89, 3) := by decide +kernel
theorem dX8_nextsOf_76 : decode cX8_nextsOf 76 = .ok (.if_icmp .ge 56, 3) := by decide +kernel
theorem dX8_nextsOf_79 : decode cX8_nextsOf 79 = .ok (.aload_n 0, 1) := by decide +kernel
theorem dX8_nextsOf_80 : decode cX8_nextsOf 80 = .ok (.getfield 22, 3) := by decide +kernel
theorem dX8_nextsOf_83 : decode cX8_nextsOf 83 = .ok (.iload_n 3, 1) := by decide +kernel
theorem dX8_nextsOf_84 : decode cX8_nextsOf 84 = .ok (.iaload, 1) := by decide +kernel
theorem dX8_nextsOf_85 : decode cX8_nextsOf 85 = .ok (.iload_n 1, 1) := by decide +kernel
theorem dX8_nextsOf_86 : decode cX8_nextsOf 86 = .ok (.if_icmp .ne 40, 3) := by decide +kernel
theorem dX8_nextsOf_89 : decode cX8_nextsOf 89 = .ok (.aload_n 0, 1) := by decide +kernel
theorem dX8_nextsOf_90 : decode cX8_nextsOf 90 = .ok (.iload_n 1, 1) := by decide +kernel
theorem dX8_nextsOf_91 : decode cX8_nextsOf 91 = .ok (.invokevirtual 115, 3) := by decide +kernel
theorem dX8_nextsOf_94 : decode cX8_nextsOf 94 = .ok (.ifCond .eq 32, 3) := by decide +kernel
theorem dX8_nextsOf_97 : decode cX8_nextsOf 97 = .ok (.aload_n 0, 1) := by decide +kernel
theorem dX8_nextsOf_98 : decode cX8_nextsOf 98 = .ok (.aload_n 0, 1) := by decide +kernel
theorem dX8_nextsOf_99 : decode cX8_nextsOf 99 = .ok (.getfield 25, 3) := by decide +kernel
theorem dX8_nextsOf_102 : decode cX8_nextsOf 102 = .ok (.iload_n 3, 1) := by decide +kernel
theorem dX8_nextsOf_103 : decode cX8_nextsOf 103 = .ok (.iaload, 1) := by decide +kernel
theorem dX8_nextsOf_104 : decode cX8_nextsOf 104 = .ok (.invokevirtual 115, 3) := by decide +kernel
theorem dX8_nextsOf_107 : decode cX8_nextsOf 107 = .ok (.ifCond .eq 19, 3) := by decide +kernel
theorem dX8_nextsOf_110 : decode cX8_nextsOf 110 = .ok (.aload_n 0, 1) := by decide +kernel
theorem dX8_nextsOf_111 : decode cX8_nextsOf 111 = .ok (.aload_n 0, 1) := by decide +kernel
theorem dX8_nextsOf_112 : decode cX8_nextsOf 112 = .ok (.getfield 25, 3) := by decide +kernel
theorem dX8_nextsOf_115 : decode cX8_nextsOf 115 = .ok (.iload_n 3, 1) := by decide +kernel
theorem dX8_nextsOf_116 : decode cX8_nextsOf 116 = .ok (.iaload, 1) := by decide +kernel
theorem dX8_nextsOf_117 : decode cX8_nextsOf 117 = .ok (.aload_n 0, 1) := by decide +kernel
theorem dX8_nextsOf_118 : decode cX8_nextsOf 118 = .ok (.getfield 35, 3) := by decide +kernel
theorem dX8_nextsOf_121 : decode cX8_nextsOf 121 = .ok (.iconst 3, 1) := by decide +kernel
theorem dX8_nextsOf_122 : decode cX8_nextsOf 122 = .ok (.iaload, 1) := by decide +kernel
theorem dX8_nextsOf_123 : decode cX8_nextsOf 123 = .ok (.invokevirtual 119, 3) := by decide +kernel
theorem dX8_nextsOf_126 : decode cX8_nextsOf 126 = .ok (.iinc 3 1, 3) := by decide +kernel
theorem dX8_nextsOf_129 : decode cX8_nextsOf 129 = .ok (.goto (-58), 3) := by decide +kernel
theorem dX8_nextsOf_132 : decode cX8_nextsOf 132 = .ok (.return_, 1) := by decide +kernel
theorem dX8_lay_0 : decode cX8_lay 0 = .ok (.aload_n 0, 1) := by decide +kernel
theorem dX8_lay_1 : decode cX8_lay 1 = .ok (.getfield 59, 3) := by decide +kernel
theorem dX8_lay_4 : decode cX8_lay 4 = .ok (.aload_n 0, 1) := by decide +kernel
theorem dX8_lay_5 : decode cX8_lay 5 = .ok (.getfield 112, 3) := by decide +kernel
theorem dX8_lay_8 : decode cX8_lay 8 = .ok (.iload_n 1, 1) := by decide +kernel
theorem dX8_lay_9 : decode cX8_lay 9 = .ok (.iastore, 1) := by decide +kernel
theorem dX8_lay_10 : decode cX8_lay 10 = .ok (.aload_n 0, 1) := by decide +kernel
theorem dX8_lay_11 : decode cX8_lay 11 = .ok (.getfield 62, 3) := by decide +kernel
theorem dX8_lay_14 : decode cX8_lay 14 = .ok (.aload_n 0, 1) := by decide +kernel
theorem dX8_lay_15 : decode cX8_lay 15 = .ok (.getfield 112, 3) := by decide +kernel
theorem dX8_lay_18 : decode cX8_lay 18 = .ok (.iload_n 2, 1) := by decide +kernel
theorem dX8_lay_19 : decode cX8_lay 19 = .ok (.iastore, 1) := by decide +kernel
theorem dX8_lay_20 : decode cX8_lay 20 = .ok (.aload_n 0, 1) := by decide +kernel
theorem dX8_lay_21 : decode cX8_lay 21 = .ok (.dup, 1) := by decide +kernel
theorem dX8_lay_22 : decode cX8_lay 22 = .ok (.getfield 112, 3) := by decide +kernel
theorem dX8_lay_25 : decode cX8_lay 25 = .ok (.iconst 1, 1) := by decide +kernel
theorem dX8_lay_26 : decode cX8_lay 26 = .ok (.iadd, 1) := by decide +kernel
theorem dX8_lay_27 : decode cX8_lay 27 = .ok (.putfield 112, 3) := by decide +kernel
theorem dX8_lay_30 : decode cX8_lay 30 = .ok (.return_, 1) := by decide +kernel
theorem dX8_wrong_0 : decode cX8_wrong 0 = .ok (.aload_n 0, 1) := by decide +kernel
theorem dX8_wrong_1 : decode cX8_wrong 1 = .ok (.getfield 7, 3) := by decide +kernel
theorem dX8_wrong_4 : decode cX8_wrong 4 = .ok (.iload_n 1, 1) := by decide +kernel
theorem dX8_wrong_5 : decode cX8_wrong 5 = .ok (.iaload, 1) := by decide +kernel
theorem dX8_wrong_6 : decode cX8_wrong 6 = .ok (.aload_n 0, 1) := by decide +kernel
theorem dX8_wrong_7 : decode cX8_wrong 7 = .ok (.getfield 38, 3) := by decide +kernel
theorem dX8_wrong_10 : decode cX8_wrong 10 = .ok (.iload_n 2, 1) := by decide +kernel
theorem dX8_wrong_11 : decode cX8_wrong 11 = .ok (.iaload, 1) := by decide +kernel
theorem dX8_wrong_12 : decode cX8_wrong 12 = .ok (.if_icmp .eq 12, 3) := by decide +kernel
theorem dX8_wrong_15 : decode cX8_wrong 15 = .ok (.aload_n 0, 1) := by decide +kernel
theorem dX8_wrong_16 : decode cX8_wrong 16 = .ok (.getfield 35, 3) := by decide +kernel
theorem dX8_wrong_19 : decode cX8_wrong 19 = .ok (.iconst 0, 1) := by decide +kernel
theorem dX8_wrong_20 : decode cX8_wrong 20 = .ok (.iaload, 1) := by decide +kernel
theorem dX8_wrong_21 : decode cX8_wrong 21 = .ok (.goto 4, 3) := by decide +kernel
theorem dX8_wrong_24 : decode cX8_wrong 24 = .ok (.iconst 0, 1) := by decide +kernel
theorem dX8_wrong_25 : decode cX8_wrong 25 = .ok (.ireturn, 1) := by decide +kernel
theorem dX8_follow_0 : decode cX8_follow 0 = .ok (.iconst 0, 1) := by decide +kernel
theorem dX8_follow_1 : decode cX8_follow 1 = .ok (.istore_n 1, 1) := by decide +kernel
theorem dX8_follow_2 : decode cX8_follow 2 = .ok (.iload_n 1, 1) := by decide +kernel
theorem dX8_follow_3 : decode cX8_follow 3 = .ok (.bipush 61, 2) := by decide +kernel
theorem dX8_follow_5 : decode cX8_follow 5 = .ok (.if_icmp .ge 25, 3) := by decide +kernel
theorem dX8_follow_8 : decode cX8_follow 8 = .ok (.aload_n 0, 1) := by decide +kernel
theorem dX8_follow_9 : decode cX8_follow 9 = .ok (.getfield 44, 3) := by decide +kernel
theorem dX8_follow_12 : decode cX8_follow 12 = .ok (.iload_n 1, 1) := by decide +kernel
theorem dX8_follow_13 : decode cX8_follow 13 = .ok (.iload_n 1, 1) := by decide +kernel
theorem dX8_follow_14 : decode cX8_follow 14 = .ok (.ifCond .ne 7, 3) := by decide +kernel
theorem dX8_follow_17 : decode cX8_follow 17 = .ok (.iconst 0, 1) := by decide +kernel
theorem dX8_follow_18 : decode cX8_follow 18 = .ok (.goto 5, 3) := by decide +kernel
theorem dX8_follow_21 : decode cX8_follow 21 = .ok (.ldc 123, 2) := by decide +kernel
theorem dX8_follow_23 : decode cX8_follow 23 = .ok (.iastore, 1) := by decide +kernel
theorem dX8_follow_24 : decode cX8_follow 24 = .ok (.iinc 1 1, 3) := by decide +kernel
theorem dX8_follow_27 : decode cX8_follow 27 = .ok (.goto (-25), 3) := by decide +kernel
theorem dX8_follow_30 : decode cX8_follow 30 = .ok (.aload_n 0, 1) := by decide +kernel
theorem dX8_follow_31 : decode cX8_follow 31 = .ok (.iconst (-1), 1) := by decide +kernel
theorem dX8_follow_32 : decode cX8_follow 32 = .ok (.putfield 124, 3) := by decide +kernel
theorem dX8_follow_35 : decode cX8_follow 35 = .ok (.aload_n 0, 1) := by decide +kernel
theorem dX8_follow_36 : decode cX8_follow 36 = .ok (.iconst 0, 1) := by decide +kernel
theorem dX8_follow_37 : decode cX8_follow 37 = .ok (.putfield 127, 3) := by decide +kernel
theorem dX8_follow_40 : decode cX8_follow 40 = .ok (.iconst 0, 1) := by decide +kernel
theorem dX8_follow_41 : decode cX8_follow 41 = .ok (.istore_n 1, 1) := by decide +kernel
theorem dX8_follow_42 : decode cX8_follow 42 = .ok (.iload_n 1, 1) := by decide +kernel
theorem dX8_follow_43 : decode cX8_follow 43 = .ok (.aload_n 0, 1) := by decide +kernel
theorem dX8_follow_44 : decode cX8_follow 44 = .ok (.getfield 101, 3) := by decide +kernel
theorem dX8_follow_47 : decode cX8_follow 47 = .ok (.if_icmp .ge 14, 3) := by decide +kernel
theorem dX8_follow_50 : decode cX8_follow 50 = .ok (.aload_n 0, 1) := by decide +kernel
theorem dX8_follow_51 : decode cX8_follow 51 = .ok (.iload_n 1, 1) := by decide +kernel
theorem dX8_follow_52 : decode cX8_follow 52 = .ok (.invokevirtual 130, 3) := by decide +kernel
theorem dX8_follow_55 : decode cX8_follow 55 = .ok (.iinc 1 1, 3) := by decide +kernel
theorem dX8_follow_58 : decode cX8_follow 58 = .ok (.goto (-16), 3) := by decide +kernel
theorem dX8_follow_61 : decode cX8_follow 61 = .ok (.return_, 1) := by decide +kernel
theorem dX8_further_0 : decode cX8_further 0 = .ok (.aload_n 0, 1) := by decide +kernel
theorem dX8_further_1 : decode cX8_further 1 = .ok (.invokevirtual 134, 3) := by decide +kernel
theorem dX8_further_4 : decode cX8_further 4 = .ok (.aload_n 0, 1) := by decide +kernel
theorem dX8_further_5 : decode cX8_further 5 = .ok (.iload_n 1, 1) := by decide +kernel
theorem dX8_further_6 : decode cX8_further 6 = .ok (.invokevirtual 137, 3) := by decide +kernel
theorem dX8_further_9 : decode cX8_further 9 = .ok (.aload_n 0, 1) := by decide +kernel
theorem dX8_further_10 : decode cX8_further 10 = .ok (.invokevirtual 140, 3) := by decide +kernel
theorem dX8_further_13 : decode cX8_further 13 = .ok (.aload_n 0, 1) := by decide +kernel
theorem dX8_further_14 : decode cX8_further 14 = .ok (.iload_n 1, 1) := by decide +kernel
theorem dX8_further_15 : decode cX8_further 15 = .ok (.invokevirtual 143, 3) := by decide +kernel
theorem dX8_further_18 : decode cX8_further 18 = .ok (.return_, 1) := by decide +kernel
theorem dX8_pass_0 : decode cX8_pass 0 = .ok (.iconst 0, 1) := by decide +kernel
theorem dX8_pass_1 : decode cX8_pass 1 = .ok (.istore_n 1, 1) := by decide +kernel
theorem dX8_pass_2 : decode cX8_pass 2 = .ok (.iload_n 1, 1) := by decide +kernel
theorem dX8_pass_3 : decode cX8_pass 3 = .ok (.bipush 61, 2) := by decide +kernel
theorem dX8_pass_5 : decode cX8_pass 5 = .ok (.if_icmp .ge 21, 3) := by decide +kernel
theorem dX8_pass_8 : decode cX8_pass 8 = .ok (.aload_n 0, 1) := by decide +kernel
theorem dX8_pass_9 : decode cX8_pass 9 = .ok (.getfield 47, 3) := by decide +kernel
theorem dX8_pass_12 : decode cX8_pass 12 = .ok (.iload_n 1, 1) := by decide +kernel
theorem dX8_pass_13 : decode cX8_pass 13 = .ok (.aload_n 0, 1) := by decide +kernel
theorem dX8_pass_14 : decode cX8_pass 14 = .ok (.getfield 44, 3) := by decide +kernel
theorem dX8_pass_17 : decode cX8_pass 17 = .ok (.iload_n 1, 1) := by decide +kernel
theorem dX8_pass_18 : decode cX8_pass 18 = .ok (.iaload, 1) := by decide +kernel
theorem dX8_pass_19 : decode cX8_pass 19 = .ok (.iastore, 1) := by decide +kernel
theorem dX8_pass_20 : decode cX8_pass 20 = .ok (.iinc 1 1, 3) := by decide +kernel
theorem dX8_pass_23 : decode cX8_pass 23 = .ok (.goto (-21), 3) := by decide +kernel
theorem dX8_pass_26 : decode cX8_pass 26 = .ok (.iconst 1, 1) := by decide +kernel
theorem dX8_pass_27 : decode cX8_pass 27 = .ok (.istore_n 1, 1) := by decide +kernel
theorem dX8_pass_28 : decode cX8_pass 28 = .ok (.iload_n 1, 1) := by decide +kernel
theorem dX8_pass_29 : decode cX8_pass 29 = .ok (.ifCond .eq 117, 3) := by decide +kernel
theorem dX8_pass_32 : decode cX8_pass 32 = .ok (.iconst 0, 1) := by decide +kernel
theorem dX8_pass_33 : decode cX8_pass 33 = .ok (.istore_n 1, 1) := by decide +kernel
theorem dX8_pass_34 : decode cX8_pass 34 = .ok (.iconst (-1), 1) := by decide +kernel
theorem dX8_pass_35 : decode cX8_pass 35 = .ok (.istore_n 2, 1) := by decide +kernel
theorem dX8_pass_36 : decode cX8_pass 36 = .ok (.iload_n 2, 1) := by decide +kernel
theorem dX8_pass_37 : decode cX8_pass 37 = .ok (.aload_n 0, 1) := by decide +kernel
theorem dX8_pass_38 : decode cX8_pass 38 = .ok (.getfield 86, 3) := by decide +kernel
theorem dX8_pass_41 : decode cX8_pass 41 = .ok (.if_icmp .ge 102, 3) := by decide +kernel
theorem dX8_pass_44 : decode cX8_pass 44 = .ok (.aload_n 0, 1) := by decide +kernel
theorem dX8_pass_45 : decode cX8_pass 45 = .ok (.iload_n 2, 1) := by decide +kernel
theorem dX8_pass_46 : decode cX8_pass 46 = .ok (.invokevirtual 146, 3) := by decide +kernel
theorem dX8_pass_49 : decode cX8_pass 49 = .ok (.iconst 0, 1) := by decide +kernel
theorem dX8_pass_50 : decode cX8_pass 50 = .ok (.istore_n 3, 1) := by decide +kernel
theorem dX8_pass_51 : decode cX8_pass 51 = .ok (.iload_n 3, 1) := by decide +kernel
theorem dX8_pass_52 : decode cX8_pass 52 = .ok (.aload_n 0, 1) := by decide +kernel
theorem dX8_pass_53 : decode cX8_pass 53 = .ok (.getfield 112, 3) := by decide +kernel
theorem dX8_pass_56 : decode cX8_pass 56 = .ok (.if_icmp .ge 81, 3) := by decide +kernel
theorem dX8_pass_59 : decode cX8_pass 59 = .ok (.aload_n 0, 1) := by decide +kernel
theorem dX8_pass_60 : decode cX8_pass 60 = .ok (.getfield 47, 3) := by decide +kernel
theorem dX8_pass_63 : decode cX8_pass 63 = .ok (.iload_n 2, 1) := by decide +kernel
theorem dX8_pass_64 : decode cX8_pass 64 = .ok (.iconst 1, 1) := by decide +kernel
theorem dX8_pass_65 : decode cX8_pass 65 = .ok (.iadd, 1) := by decide +kernel
theorem dX8_pass_66 : decode cX8_pass 66 = .ok (.iaload, 1) := by decide +kernel
theorem dX8_pass_67 : decode cX8_pass 67 = .ok (.ldc 123, 2) := by decide +kernel
theorem dX8_pass_69 : decode cX8_pass 69 = .ok (.if_icmp .ge 68, 3) := by decide +kernel
theorem dX8_pass_72 : decode cX8_pass 72 = .ok (.aload_n 0, 1) := by decide +kernel
theorem dX8_pass_73 : decode cX8_pass 73 = .ok (.getfield 47, 3) := by decide +kernel
theorem dX8_pass_76 : decode cX8_pass 76 = .ok (.iload_n 2, 1) := by decide +kernel
theorem dX8_pass_77 : decode cX8_pass 77 = .ok (.iconst 1, 1) := by decide +kernel
theorem dX8_pass_78 : decode cX8_pass 78 = .ok (.iadd, 1) := by decide +kernel
theorem dX8_pass_79 : decode cX8_pass 79 = .ok (.iaload, 1) := by decide +kernel
theorem dX8_pass_80 : decode cX8_pass 80 = .ok (.aload_n 0, 1) := by decide +kernel
theorem dX8_pass_81 : decode cX8_pass 81 = .ok (.getfield 62, 3) := by decide +kernel
theorem dX8_pass_84 : decode cX8_pass 84 = .ok (.iload_n 3, 1) := by decide +kernel
theorem dX8_pass_85 : decode cX8_pass 85 = .ok (.iaload, 1) := by decide +kernel
theorem dX8_pass_86 : decode cX8_pass 86 = .ok (.iadd, 1) := by decide +kernel
theorem dX8_pass_87 : decode cX8_pass 87 = .ok (.aload_n 0, 1) := by decide +kernel
theorem dX8_pass_88 : decode cX8_pass 88 = .ok (.getfield 35, 3) := by decide +kernel
theorem dX8_pass_91 : decode cX8_pass 91 = .ok (.iconst 2, 1) := by decide +kernel
theorem dX8_pass_92 : decode cX8_pass 92 = .ok (.iaload, 1) := by decide +kernel
theorem dX8_pass_93 : decode cX8_pass 93 = .ok (.iadd, 1) := by decide +kernel
theorem dX8_pass_94 : decode cX8_pass 94 = .ok (.istore 4, 2) := by decide +kernel
theorem dX8_pass_96 : decode cX8_pass 96 = .ok (.iload 4, 2) := by decide +kernel
theorem dX8_pass_98 : decode cX8_pass 98 = .ok (.aload_n 0, 1) := by decide +kernel
theorem dX8_pass_99 : decode cX8_pass 99 = .ok (.getfield 47, 3) := by decide +kernel
theorem dX8_pass_102 : decode cX8_pass 102 = .ok (.aload_n 0, 1) := by decide +kernel
theorem dX8_pass_103 : decode cX8_pass 103 = .ok (.getfield 59, 3) := by decide +kernel
theorem dX8_pass_106 : decode cX8_pass 106 = .ok (.iload_n 3, 1) := by decide +kernel
theorem dX8_pass_107 : decode cX8_pass 107 = .ok (.iaload, 1) := by decide +kernel
theorem dX8_pass_108 : decode cX8_pass 108 = .ok (.iconst 1, 1) := by decide +kernel
theorem dX8_pass_109 : decode cX8_pass 109 = .ok (.iadd, 1) := by decide +kernel
theorem dX8_pass_110 : decode cX8_pass 110 = .ok (.iaload, 1) := by decide +kernel
theorem dX8_pass_111 : decode cX8_pass 111 = .ok (.if_icmp .ge 20, 3) := by decide +kernel
theorem dX8_pass_114 : decode cX8_pass 114 = .ok (.aload_n 0, 1) := by decide +kernel
theorem dX8_pass_115 : decode cX8_pass 115 = .ok (.getfield 47, 3) := by decide +kernel
theorem dX8_pass_118 : decode cX8_pass 118 = .ok (.aload_n 0, 1) := by decide +kernel
theorem dX8_pass_119 : decode cX8_pass 119 = .ok (.getfield 59, 3) := by decide +kernel
theorem dX8_pass_122 : decode cX8_pass 122 = .ok (.iload_n 3, 1) := by decide +kernel
theorem dX8_pass_123 : decode cX8_pass 123 = .ok (.iaload, 1) := by decide +kernel
theorem dX8_pass_124 : decode cX8_pass 124 = .ok (.iconst 1, 1) := by decide +kernel
theorem dX8_pass_125 : decode cX8_pass 125 = .ok (.iadd, 1) := by decide +kernel
theorem dX8_pass_126 : decode cX8_pass 126 = .ok (.iload 4, 2) := by decide +kernel
theorem dX8_pass_128 : decode cX8_pass 128 = .ok (.iastore, 1) := by decide +kernel
theorem dX8_pass_129 : decode cX8_pass 129 = .ok (.iconst 1, 1) := by decide +kernel
theorem dX8_pass_130 : decode cX8_pass 130 = .ok (.istore_n 1, 1) := by decide +kernel
theorem dX8_pass_131 : decode cX8_pass 131 = .ok (.iinc 3 1, 3) := by decide +kernel
theorem dX8_pass_134 : decode cX8_pass 134 = .ok (.goto (-83), 3) := by decide +kernel
theorem dX8_pass_137 : decode cX8_pass 137 = .ok (.iinc 2 1, 3) := by decide +kernel
theorem dX8_pass_140 : decode cX8_pass 140 = .ok (.goto (-104), 3) := by decide +kernel
theorem dX8_pass_143 : decode cX8_pass 143 = .ok (.goto (-115), 3) := by decide +kernel
theorem dX8_pass_146 : decode cX8_pass 146 = .ok (.return_, 1) := by decide +kernel
theorem dX8_take_0 : decode cX8_take 0 = .ok (.ldc 123, 2) := by decide +kernel
theorem dX8_take_2 : decode cX8_take 2 = .ok (.istore_n 2, 1) := by decide +kernel
theorem dX8_take_3 : decode cX8_take 3 = .ok (.iconst 0, 1) := by decide +kernel
theorem dX8_take_4 : decode cX8_take 4 = .ok (.istore_n 3, 1) := by decide +kernel
theorem dX8_take_5 : decode cX8_take 5 = .ok (.iload_n 3, 1) := by decide +kernel
theorem dX8_take_6 : decode cX8_take 6 = .ok (.bipush 61, 2) := by decide +kernel
theorem dX8_take_8 : decode cX8_take 8 = .ok (.if_icmp .ge 65, 3) := by decide +kernel
theorem dX8_take_11 : decode cX8_take 11 = .ok (.aload_n 0, 1) := by decide +kernel
theorem dX8_take_12 : decode cX8_take 12 = .ok (.getfield 47, 3) := by decide +kernel
theorem dX8_take_15 : decode cX8_take 15 = .ok (.iload_n 3, 1) := by decide +kernel
theorem dX8_take_16 : decode cX8_take 16 = .ok (.iaload, 1) := by decide +kernel
theorem dX8_take_17 : decode cX8_take 17 = .ok (.iload_n 2, 1) := by decide +kernel
theorem dX8_take_18 : decode cX8_take 18 = .ok (.if_icmp .ge 12, 3) := by decide +kernel
theorem dX8_take_21 : decode cX8_take 21 = .ok (.aload_n 0, 1) := by decide +kernel
theorem dX8_take_22 : decode cX8_take 22 = .ok (.getfield 47, 3) := by decide +kernel
theorem dX8_take_25 : decode cX8_take 25 = .ok (.iload_n 3, 1) := by decide +kernel
theorem dX8_take_26 : decode cX8_take 26 = .ok (.iaload, 1) := by decide +kernel
theorem dX8_take_27 : decode cX8_take 27 = .ok (.goto 4, 3) := by decide +kernel
theorem dX8_take_30 : decode cX8_take 30 = .ok (.iload_n 2, 1) := by decide +kernel
theorem dX8_take_31 : decode cX8_take 31 = .ok (.istore_n 2, 1) := by decide +kernel
theorem dX8_take_32 : decode cX8_take 32 = .ok (.aload_n 0, 1) := by decide +kernel
theorem dX8_take_33 : decode cX8_take 33 = .ok (.getfield 50, 3) := by decide +kernel
theorem dX8_take_36 : decode cX8_take 36 = .ok (.iload_n 3, 1) := by decide +kernel
theorem dX8_take_37 : decode cX8_take 37 = .ok (.aload_n 0, 1) := by decide +kernel
theorem dX8_take_38 : decode cX8_take 38 = .ok (.getfield 47, 3) := by decide +kernel
theorem dX8_take_41 : decode cX8_take 41 = .ok (.iload_n 3, 1) := by decide +kernel
theorem dX8_take_42 : decode cX8_take 42 = .ok (.iaload, 1) := by decide +kernel
theorem dX8_take_43 : decode cX8_take 43 = .ok (.ldc 123, 2) := by decide +kernel
theorem dX8_take_45 : decode cX8_take 45 = .ok (.if_icmp .ge 19, 3) := by decide +kernel
theorem dX8_take_48 : decode cX8_take 48 = .ok (.aload_n 0, 1) := by decide +kernel
theorem dX8_take_49 : decode cX8_take 49 = .ok (.getfield 47, 3) := by decide +kernel
theorem dX8_take_52 : decode cX8_take 52 = .ok (.iload_n 3, 1) := by decide +kernel
theorem dX8_take_53 : decode cX8_take 53 = .ok (.iaload, 1) := by decide +kernel
theorem dX8_take_54 : decode cX8_take 54 = .ok (.aload_n 0, 1) := by decide +kernel
theorem dX8_take_55 : decode cX8_take 55 = .ok (.getfield 35, 3) := by decide +kernel
theorem dX8_take_58 : decode cX8_take 58 = .ok (.iconst 1, 1) := by decide +kernel
theorem dX8_take_59 : decode cX8_take 59 = .ok (.iaload, 1) := by decide +kernel
theorem dX8_take_60 : decode cX8_take 60 = .ok (.iadd, 1) := by decide +kernel
theorem dX8_take_61 : decode cX8_take 61 = .ok (.goto 5, 3) := by decide +kernel
theorem dX8_take_64 : decode cX8_take 64 = .ok (.ldc 123, 2) := by decide +kernel
theorem dX8_take_66 : decode cX8_take 66 = .ok (.iastore, 1) := by decide +kernel
theorem dX8_take_67 : decode cX8_take 67 = .ok (.iinc 3 1, 3) := by decide +kernel
theorem dX8_take_70 : decode cX8_take 70 = .ok (.goto (-65), 3) := by decide +kernel
theorem dX8_take_73 : decode cX8_take 73 = .ok (.iconst 0, 1) := by decide +kernel
theorem dX8_take_74 : decode cX8_take 74 = .ok (.istore_n 3, 1) := by decide +kernel
theorem dX8_take_75 : decode cX8_take 75 = .ok (.iload_n 3, 1) := by decide +kernel
theorem dX8_take_76 : decode cX8_take 76 = .ok (.aload_n 0, 1) := by decide +kernel
theorem dX8_take_77 : decode cX8_take 77 = .ok (.getfield 86, 3) := by decide +kernel
theorem dX8_take_80 : decode cX8_take 80 = .ok (.if_icmp .ge 68, 3) := by decide +kernel
theorem dX8_take_83 : decode cX8_take 83 = .ok (.aload_n 0, 1) := by decide +kernel
theorem dX8_take_84 : decode cX8_take 84 = .ok (.iload_n 3, 1) := by decide +kernel
theorem dX8_take_85 : decode cX8_take 85 = .ok (.invokevirtual 115, 3) := by decide +kernel
theorem dX8_take_88 : decode cX8_take 88 = .ok (.ifCond .eq 54, 3) := by decide +kernel
theorem dX8_take_91 : decode cX8_take 91 = .ok (.iload_n 2, 1) := by decide +kernel
theorem dX8_take_92 : decode cX8_take 92 = .ok (.aload_n 0, 1) := by decide +kernel
theorem dX8_take_93 : decode cX8_take 93 = .ok (.getfield 35, 3) := by decide +kernel
theorem dX8_take_96 : decode cX8_take 96 = .ok (.iconst 4, 1) := by decide +kernel
theorem dX8_take_97 : decode cX8_take 97 = .ok (.iaload, 1) := by decide +kernel
theorem dX8_take_98 : decode cX8_take 98 = .ok (.iadd, 1) := by decide +kernel
theorem dX8_take_99 : decode cX8_take 99 = .ok (.aload_n 0, 1) := by decide +kernel
theorem dX8_take_100 : decode cX8_take 100 = .ok (.iload_n 3, 1) := by decide +kernel
theorem dX8_take_101 : decode cX8_take 101 = .ok (.iload_n 1, 1) := by decide +kernel
theorem dX8_take_102 : decode cX8_take 102 = .ok (.invokevirtual 149, 3) := by decide +kernel
theorem dX8_take_105 : decode cX8_take 105 = .ok (.iadd, 1) := by decide +kernel
theorem dX8_take_106 : decode cX8_take 106 = .ok (.istore 4, 2) := by decide +kernel
theorem dX8_take_108 : decode cX8_take 108 = .ok (.aload_n 0, 1) := by decide +kernel
theorem dX8_take_109 : decode cX8_take 109 = .ok (.getfield 50, 3) := by decide +kernel
theorem dX8_take_112 : decode cX8_take 112 = .ok (.iload_n 3, 1) := by decide +kernel
theorem dX8_take_113 : decode cX8_take 113 = .ok (.iconst 1, 1) := by decide +kernel
theorem dX8_take_114 : decode cX8_take 114 = .ok (.iadd, 1) := by decide +kernel
theorem dX8_take_115 : decode cX8_take 115 = .ok (.iload 4, 2) := by decide +kernel
theorem dX8_take_117 : decode cX8_take 117 = .ok (.aload_n 0, 1) := by decide +kernel
theorem dX8_take_118 : decode cX8_take 118 = .ok (.getfield 50, 3) := by decide +kernel
theorem dX8_take_121 : decode cX8_take 121 = .ok (.iload_n 3, 1) := by decide +kernel
theorem dX8_take_122 : decode cX8_take 122 = .ok (.iconst 1, 1) := by decide +kernel
theorem dX8_take_123 : decode cX8_take 123 = .ok (.iadd, 1) := by decide +kernel
theorem dX8_take_124 : decode cX8_take 124 = .ok (.iaload, 1) := by decide +kernel
theorem dX8_take_125 : decode cX8_take 125 = .ok (.if_icmp .ge 8, 3) := by decide +kernel
theorem dX8_take_128 : decode cX8_take 128 = .ok (.iload 4, 2) := by decide +kernel
theorem dX8_take_130 : decode cX8_take 130 = .ok (.goto 11, 3) := by decide +kernel
theorem dX8_take_133 : decode cX8_take 133 = .ok (.aload_n 0, 1) := by decide +kernel
theorem dX8_take_134 : decode cX8_take 134 = .ok (.getfield 50, 3) := by decide +kernel
theorem dX8_take_137 : decode cX8_take 137 = .ok (.iload_n 3, 1) := by decide +kernel
theorem dX8_take_138 : decode cX8_take 138 = .ok (.iconst 1, 1) := by decide +kernel
theorem dX8_take_139 : decode cX8_take 139 = .ok (.iadd, 1) := by decide +kernel
theorem dX8_take_140 : decode cX8_take 140 = .ok (.iaload, 1) := by decide +kernel
theorem dX8_take_141 : decode cX8_take 141 = .ok (.iastore, 1) := by decide +kernel
theorem dX8_take_142 : decode cX8_take 142 = .ok (.iinc 3 1, 3) := by decide +kernel
theorem dX8_take_145 : decode cX8_take 145 = .ok (.goto (-70), 3) := by decide +kernel
theorem dX8_take_148 : decode cX8_take 148 = .ok (.iconst (-1), 1) := by decide +kernel
theorem dX8_take_149 : decode cX8_take 149 = .ok (.istore_n 3, 1) := by decide +kernel
theorem dX8_take_150 : decode cX8_take 150 = .ok (.iload_n 3, 1) := by decide +kernel
theorem dX8_take_151 : decode cX8_take 151 = .ok (.aload_n 0, 1) := by decide +kernel
theorem dX8_take_152 : decode cX8_take 152 = .ok (.getfield 86, 3) := by decide +kernel
theorem dX8_take_155 : decode cX8_take 155 = .ok (.if_icmp .ge 128, 3) := by decide +kernel
theorem dX8_take_158 : decode cX8_take 158 = .ok (.aload_n 0, 1) := by decide +kernel
theorem dX8_take_159 : decode cX8_take 159 = .ok (.iload_n 3, 1) := by decide +kernel
theorem dX8_take_160 : decode cX8_take 160 = .ok (.invokevirtual 146, 3) := by decide +kernel
theorem dX8_take_163 : decode cX8_take 163 = .ok (.iconst 0, 1) := by decide +kernel
theorem dX8_take_164 : decode cX8_take 164 = .ok (.istore 4, 2) := by decide +kernel
theorem dX8_take_166 : decode cX8_take 166 = .ok (.iload 4, 2) := by decide +kernel
theorem dX8_take_168 : decode cX8_take 168 = .ok (.aload_n 0, 1) := by decide +kernel
theorem dX8_take_169 : decode cX8_take 169 = .ok (.getfield 112, 3) := by decide +kernel
theorem dX8_take_172 : decode cX8_take 172 = .ok (.if_icmp .ge 105, 3) := by decide +kernel
theorem dX8_take_175 : decode cX8_take 175 = .ok (.aload_n 0, 1) := by decide +kernel
theorem dX8_take_176 : decode cX8_take 176 = .ok (.getfield 47, 3) := by decide +kernel
theorem dX8_take_179 : decode cX8_take 179 = .ok (.iload_n 3, 1) := by decide +kernel
theorem dX8_take_180 : decode cX8_take 180 = .ok (.iconst 1, 1) := by decide +kernel
theorem dX8_take_181 : decode cX8_take 181 = .ok (.iadd, 1) := by decide +kernel
theorem dX8_take_182 : decode cX8_take 182 = .ok (.iaload, 1) := by decide +kernel
theorem dX8_take_183 : decode cX8_take 183 = .ok (.ldc 123, 2) := by decide +kernel
theorem dX8_take_185 : decode cX8_take 185 = .ok (.if_icmp .ge 92, 3) := by decide +kernel
theorem dX8_take_188 : decode cX8_take 188 = .ok (.aload_n 0, 1) := by decide +kernel
theorem dX8_take_189 : decode cX8_take 189 = .ok (.getfield 47, 3) := by decide +kernel
theorem dX8_take_192 : decode cX8_take 192 = .ok (.iload_n 3, 1) := by decide +kernel
theorem dX8_take_193 : decode cX8_take 193 = .ok (.iconst 1, 1) := by decide +kernel
theorem dX8_take_194 : decode cX8_take 194 = .ok (.iadd, 1) := by decide +kernel
theorem dX8_take_195 : decode cX8_take 195 = .ok (.iaload, 1) := by decide +kernel
theorem dX8_take_196 : decode cX8_take 196 = .ok (.aload_n 0, 1) := by decide +kernel
theorem dX8_take_197 : decode cX8_take 197 = .ok (.getfield 62, 3) := by decide +kernel
theorem dX8_take_200 : decode cX8_take 200 = .ok (.iload 4, 2) := by decide +kernel
theorem dX8_take_202 : decode cX8_take 202 = .ok (.iaload, 1) := by decide +kernel
theorem dX8_take_203 : decode cX8_take 203 = .ok (.iadd, 1) := by decide +kernel
theorem dX8_take_204 : decode cX8_take 204 = .ok (.aload_n 0, 1) := by decide +kernel
theorem dX8_take_205 : decode cX8_take 205 = .ok (.aload_n 0, 1) := by decide +kernel
theorem dX8_take_206 : decode cX8_take 206 = .ok (.getfield 59, 3) := by decide +kernel
theorem dX8_take_209 : decode cX8_take 209 = .ok (.iload 4, 2) := by decide +kernel
theorem dX8_take_211 : decode cX8_take 211 = .ok (.iaload, 1) := by decide +kernel
theorem dX8_take_212 : decode cX8_take 212 = .ok (.iload_n 1, 1) := by decide +kernel
theorem dX8_take_213 : decode cX8_take 213 = .ok (.invokevirtual 149, 3) := by decide +kernel
theorem dX8_take_216 : decode cX8_take 216 = .ok (.iadd, 1) := by decide +kernel
theorem dX8_take_217 : decode cX8_take 217 = .ok (.istore 5, 2) := by decide +kernel
theorem dX8_take_219 : decode cX8_take 219 = .ok (.aload_n 0, 1) := by decide +kernel
theorem dX8_take_220 : decode cX8_take 220 = .ok (.getfield 50, 3) := by decide +kernel
theorem dX8_take_223 : decode cX8_take 223 = .ok (.aload_n 0, 1) := by decide +kernel
theorem dX8_take_224 : decode cX8_take 224 = .ok (.getfield 59, 3) := by decide +kernel
theorem dX8_take_227 : decode cX8_take 227 = .ok (.iload 4, 2) := by decide +kernel
theorem dX8_take_229 : decode cX8_take 229 = .ok (.iaload, 1) := by decide +kernel
theorem dX8_take_230 : decode cX8_take 230 = .ok (.iconst 1, 1) := by decide +kernel
theorem dX8_take_231 : decode cX8_take 231 = .ok (.iadd, 1) := by decide +kernel
theorem dX8_take_232 : decode cX8_take 232 = .ok (.iload 5, 2) := by decide +kernel
theorem dX8_take_234 : decode cX8_take 234 = .ok (.aload_n 0, 1) := by decide +kernel
theorem dX8_take_235 : decode cX8_take 235 = .ok (.getfield 50, 3) := by decide +kernel
theorem dX8_take_238 : decode cX8_take 238 = .ok (.aload_n 0, 1) := by decide +kernel
theorem dX8_take_239 : decode cX8_take 239 = .ok (.getfield 59, 3) := by decide +kernel
theorem dX8_take_242 : decode cX8_take 242 = .ok (.iload 4, 2) := by decide +kernel
theorem dX8_take_244 : decode cX8_take 244 = .ok (.iaload, 1) := by decide +kernel
theorem dX8_take_245 : decode cX8_take 245 = .ok (.iconst 1, 1) := by decide +kernel
theorem dX8_take_246 : decode cX8_take 246 = .ok (.iadd, 1) := by decide +kernel
theorem dX8_take_247 : decode cX8_take 247 = .ok (.iaload, 1) := by decide +kernel
theorem dX8_take_248 : decode cX8_take 248 = .ok (.if_icmp .ge 8, 3) := by decide +kernel
theorem dX8_take_251 : decode cX8_take 251 = .ok (.iload 5, 2) := by decide +kernel
theorem dX8_take_253 : decode cX8_take 253 = .ok (.goto 17, 3) := by decide +kernel
theorem dX8_take_256 : decode cX8_take 256 = .ok (.aload_n 0, 1) := by decide +kernel
theorem dX8_take_257 : decode cX8_take 257 = .ok (.getfield 50, 3) := by decide +kernel
theorem dX8_take_260 : decode cX8_take 260 = .ok (.aload_n 0, 1) := by decide +kernel
theorem dX8_take_261 : decode cX8_take 261 = .ok (.getfield 59, 3) := by decide +kernel
theorem dX8_take_264 : decode cX8_take 264 = .ok (.iload 4, 2) := by decide +kernel
theorem dX8_take_266 : decode cX8_take 266 = .ok (.iaload, 1) := by decide +kernel
theorem dX8_take_267 : decode cX8_take 267 = .ok (.iconst 1, 1) := by decide +kernel
theorem dX8_take_268 : decode cX8_take 268 = .ok (.iadd, 1) := by decide +kernel
theorem dX8_take_269 : decode cX8_take 269 = .ok (.iaload, 1) := by decide +kernel
theorem dX8_take_270 : decode cX8_take 270 = .ok (.iastore, 1) := by decide +kernel
theorem dX8_take_271 : decode cX8_take 271 = .ok (.iinc 4 1, 3) := by decide +kernel
theorem dX8_take_274 : decode cX8_take 274 = .ok (.goto (-108), 3) := by decide +kernel
theorem dX8_take_277 : decode cX8_take 277 = .ok (.iinc 3 1, 3) := by decide +kernel
theorem dX8_take_280 : decode cX8_take 280 = .ok (.goto (-130), 3) := by decide +kernel
theorem dX8_take_283 : decode cX8_take 283 = .ok (.iconst 0, 1) := by decide +kernel
theorem dX8_take_284 : decode cX8_take 284 = .ok (.istore_n 3, 1) := by decide +kernel
theorem dX8_take_285 : decode cX8_take 285 = .ok (.iload_n 3, 1) := by decide +kernel
theorem dX8_take_286 : decode cX8_take 286 = .ok (.bipush 61, 2) := by decide +kernel
theorem dX8_take_288 : decode cX8_take 288 = .ok (.if_icmp .ge 21, 3) := by decide +kernel
theorem dX8_take_291 : decode cX8_take 291 = .ok (.aload_n 0, 1) := by decide +kernel
theorem dX8_take_292 : decode cX8_take 292 = .ok (.getfield 44, 3) := by decide +kernel
theorem dX8_take_295 : decode cX8_take 295 = .ok (.iload_n 3, 1) := by decide +kernel
theorem dX8_take_296 : decode cX8_take 296 = .ok (.aload_n 0, 1) := by decide +kernel
theorem dX8_take_297 : decode cX8_take 297 = .ok (.getfield 50, 3) := by decide +kernel
theorem dX8_take_300 : decode cX8_take 300 = .ok (.iload_n 3, 1) := by decide +kernel
theorem dX8_take_301 : decode cX8_take 301 = .ok (.iaload, 1) := by decide +kernel
theorem dX8_take_302 : decode cX8_take 302 = .ok (.iastore, 1) := by decide +kernel
theorem dX8_take_303 : decode cX8_take 303 = .ok (.iinc 3 1, 3) := by decide +kernel
theorem dX8_take_306 : decode cX8_take 306 = .ok (.goto (-21), 3) := by decide +kernel
theorem dX8_take_309 : decode cX8_take 309 = .ok (.return_, 1) := by decide +kernel
theorem dX8_choose_0 : decode cX8_choose 0 = .ok (.aload_n 0, 1) := by decide +kernel
theorem dX8_choose_1 : decode cX8_choose 1 = .ok (.getfield 124, 3) := by decide +kernel
theorem dX8_choose_4 : decode cX8_choose 4 = .ok (.iconst 1, 1) := by decide +kernel
theorem dX8_choose_5 : decode cX8_choose 5 = .ok (.iadd, 1) := by decide +kernel
theorem dX8_choose_6 : decode cX8_choose 6 = .ok (.istore_n 1, 1) := by decide +kernel
theorem dX8_choose_7 : decode cX8_choose 7 = .ok (.bipush (-2), 2) := by decide +kernel
theorem dX8_choose_9 : decode cX8_choose 9 = .ok (.istore_n 2, 1) := by decide +kernel
theorem dX8_choose_10 : decode cX8_choose 10 = .ok (.iconst (-1), 1) := by decide +kernel
theorem dX8_choose_11 : decode cX8_choose 11 = .ok (.istore_n 3, 1) := by decide +kernel
theorem dX8_choose_12 : decode cX8_choose 12 = .ok (.iload_n 3, 1) := by decide +kernel
theorem dX8_choose_13 : decode cX8_choose 13 = .ok (.aload_n 0, 1) := by decide +kernel
theorem dX8_choose_14 : decode cX8_choose 14 = .ok (.getfield 86, 3) := by decide +kernel
theorem dX8_choose_17 : decode cX8_choose 17 = .ok (.if_icmp .ge 106, 3) := by decide +kernel
theorem dX8_choose_20 : decode cX8_choose 20 = .ok (.iload_n 3, 1) := by decide +kernel
theorem dX8_choose_21 : decode cX8_choose 21 = .ok (.iload_n 1, 1) := by decide +kernel
theorem dX8_choose_22 : decode cX8_choose 22 = .ok (.if_icmp .le 9, 3) := by decide +kernel
theorem dX8_choose_25 : decode cX8_choose 25 = .ok (.iload_n 3, 1) := by decide +kernel
theorem dX8_choose_26 : decode cX8_choose 26 = .ok (.iload_n 1, 1) := by decide +kernel
theorem dX8_choose_27 : decode cX8_choose 27 = .ok (.isub, 1) := by decide +kernel
theorem dX8_choose_28 : decode cX8_choose 28 = .ok (.goto 6, 3) := by decide +kernel
theorem dX8_choose_31 : decode cX8_choose 31 = .ok (.iload_n 1, 1) := by decide +kernel
theorem dX8_choose_32 : decode cX8_choose 32 = .ok (.iload_n 3, 1) := by decide +kernel
theorem dX8_choose_33 : decode cX8_choose 33 = .ok (.isub, 1) := by decide +kernel
theorem dX8_choose_34 : decode cX8_choose 34 = .ok (.istore 4, 2) := by decide +kernel
theorem dX8_choose_36 : decode cX8_choose 36 = .ok (.iload_n 2, 1) := by decide +kernel
theorem dX8_choose_37 : decode cX8_choose 37 = .ok (.iload_n 1, 1) := by decide +kernel
theorem dX8_choose_38 : decode cX8_choose 38 = .ok (.if_icmp .le 9, 3) := by decide +kernel
theorem dX8_choose_41 : decode cX8_choose 41 = .ok (.iload_n 2, 1) := by decide +kernel
theorem dX8_choose_42 : decode cX8_choose 42 = .ok (.iload_n 1, 1) := by decide +kernel
theorem dX8_choose_43 : decode cX8_choose 43 = .ok (.isub, 1) := by decide +kernel
theorem dX8_choose_44 : decode cX8_choose 44 = .ok (.goto 6, 3) := by decide +kernel
theorem dX8_choose_47 : decode cX8_choose 47 = .ok (.iload_n 1, 1) := by decide +kernel
theorem dX8_choose_48 : decode cX8_choose 48 = .ok (.iload_n 2, 1) := by decide +kernel
theorem dX8_choose_49 : decode cX8_choose 49 = .ok (.isub, 1) := by decide +kernel
theorem dX8_choose_50 : decode cX8_choose 50 = .ok (.istore 5, 2) := by decide +kernel
theorem dX8_choose_52 : decode cX8_choose 52 = .ok (.aload_n 0, 1) := by decide +kernel
theorem dX8_choose_53 : decode cX8_choose 53 = .ok (.getfield 44, 3) := by decide +kernel
theorem dX8_choose_56 : decode cX8_choose 56 = .ok (.iload_n 3, 1) := by decide +kernel
theorem dX8_choose_57 : decode cX8_choose 57 = .ok (.iconst 1, 1) := by decide +kernel
theorem dX8_choose_58 : decode cX8_choose 58 = .ok (.iadd, 1) := by decide +kernel
theorem dX8_choose_59 : decode cX8_choose 59 = .ok (.iaload, 1) := by decide +kernel
theorem dX8_choose_60 : decode cX8_choose 60 = .ok (.ldc 123, 2) := by decide +kernel
theorem dX8_choose_62 : decode cX8_choose 62 = .ok (.if_icmp .ge 55, 3) := by decide +kernel
theorem dX8_choose_65 : decode cX8_choose 65 = .ok (.iload_n 2, 1) := by decide +kernel
theorem dX8_choose_66 : decode cX8_choose 66 = .ok (.iconst (-1), 1) := by decide +kernel
theorem dX8_choose_67 : decode cX8_choose 67 = .ok (.if_icmp .lt 48, 3) := by decide +kernel
theorem dX8_choose_70 : decode cX8_choose 70 = .ok (.aload_n 0, 1) := by decide +kernel
theorem dX8_choose_71 : decode cX8_choose 71 = .ok (.getfield 44, 3) := by decide +kernel
theorem dX8_choose_74 : decode cX8_choose 74 = .ok (.iload_n 3, 1) := by decide +kernel
theorem dX8_choose_75 : decode cX8_choose 75 = .ok (.iconst 1, 1) := by decide +kernel
theorem dX8_choose_76 : decode cX8_choose 76 = .ok (.iadd, 1) := by decide +kernel
theorem dX8_choose_77 : decode cX8_choose 77 = .ok (.iaload, 1) := by decide +kernel
theorem dX8_choose_78 : decode cX8_choose 78 = .ok (.aload_n 0, 1) := by decide +kernel
theorem dX8_choose_79 : decode cX8_choose 79 = .ok (.getfield 44, 3) := by decide +kernel
theorem dX8_choose_82 : decode cX8_choose 82 = .ok (.iload_n 2, 1) := by decide +kernel
theorem dX8_choose_83 : decode cX8_choose 83 = .ok (.iconst 1, 1) := by decide +kernel
theorem dX8_choose_84 : decode cX8_choose 84 = .ok (.iadd, 1) := by decide +kernel
theorem dX8_choose_85 : decode cX8_choose 85 = .ok (.iaload, 1) := by decide +kernel
theorem dX8_choose_86 : decode cX8_choose 86 = .ok (.if_icmp .lt 29, 3) := by decide +kernel
theorem dX8_choose_89 : decode cX8_choose 89 = .ok (.aload_n 0, 1) := by decide +kernel
theorem dX8_choose_90 : decode cX8_choose 90 = .ok (.getfield 44, 3) := by decide +kernel
theorem dX8_choose_93 : decode cX8_choose 93 = .ok (.iload_n 3, 1) := by decide +kernel
theorem dX8_choose_94 : decode cX8_choose 94 = .ok (.iconst 1, 1) := by decide +kernel
theorem dX8_choose_95 : decode cX8_choose 95 = .ok (.iadd, 1) := by decide +kernel
theorem dX8_choose_96 : decode cX8_choose 96 = .ok (.iaload, 1) := by decide +kernel
theorem dX8_choose_97 : decode cX8_choose 97 = .ok (.aload_n 0, 1) := by decide +kernel
theorem dX8_choose_98 : decode cX8_choose 98 = .ok (.getfield 44, 3) := by decide +kernel
theorem dX8_choose_101 : decode cX8_choose 101 = .ok (.iload_n 2, 1) := by decide +kernel
theorem dX8_choose_102 : decode cX8_choose 102 = .ok (.iconst 1, 1) := by decide +kernel
theorem dX8_choose_103 : decode cX8_choose 103 = .ok (.iadd, 1) := by decide +kernel
theorem dX8_choose_104 : decode cX8_choose 104 = .ok (.iaload, 1) := by decide +kernel
theorem dX8_choose_105 : decode cX8_choose 105 = .ok (.if_icmp .ne 12, 3) := by decide +kernel
theorem dX8_choose_108 : decode cX8_choose 108 = .ok (.iload 4, 2) := by decide +kernel
theorem dX8_choose_110 : decode cX8_choose 110 = .ok (.iload 5, 2) := by decide +kernel
theorem dX8_choose_112 : decode cX8_choose 112 = .ok (.if_icmp .ge 5, 3) := by decide +kernel
theorem dX8_choose_115 : decode cX8_choose 115 = .ok (.iload_n 3, 1) := by decide +kernel
theorem dX8_choose_116 : decode cX8_choose 116 = .ok (.istore_n 2, 1) := by decide +kernel
theorem dX8_choose_117 : decode cX8_choose 117 = .ok (.iinc 3 1, 3) := by decide +kernel
theorem dX8_choose_120 : decode cX8_choose 120 = .ok (.goto (-108), 3) := by decide +kernel
theorem dX8_choose_123 : decode cX8_choose 123 = .ok (.aload_n 0, 1) := by decide +kernel
theorem dX8_choose_124 : decode cX8_choose 124 = .ok (.iload_n 2, 1) := by decide +kernel
theorem dX8_choose_125 : decode cX8_choose 125 = .ok (.putfield 124, 3) := by decide +kernel
theorem dX8_choose_128 : decode cX8_choose 128 = .ok (.iconst (-1), 1) := by decide +kernel
theorem dX8_choose_129 : decode cX8_choose 129 = .ok (.istore_n 3, 1) := by decide +kernel
theorem dX8_choose_130 : decode cX8_choose 130 = .ok (.iload_n 3, 1) := by decide +kernel
theorem dX8_choose_131 : decode cX8_choose 131 = .ok (.aload_n 0, 1) := by decide +kernel
theorem dX8_choose_132 : decode cX8_choose 132 = .ok (.getfield 86, 3) := by decide +kernel
theorem dX8_choose_135 : decode cX8_choose 135 = .ok (.if_icmp .ge 64, 3) := by decide +kernel
theorem dX8_choose_138 : decode cX8_choose 138 = .ok (.iload_n 3, 1) := by decide +kernel
theorem dX8_choose_139 : decode cX8_choose 139 = .ok (.aload_n 0, 1) := by decide +kernel
theorem dX8_choose_140 : decode cX8_choose 140 = .ok (.getfield 124, 3) := by decide +kernel
theorem dX8_choose_143 : decode cX8_choose 143 = .ok (.if_icmp .le 12, 3) := by decide +kernel
theorem dX8_choose_146 : decode cX8_choose 146 = .ok (.iload_n 3, 1) := by decide +kernel
theorem dX8_choose_147 : decode cX8_choose 147 = .ok (.aload_n 0, 1) := by decide +kernel
theorem dX8_choose_148 : decode cX8_choose 148 = .ok (.getfield 124, 3) := by decide +kernel
theorem dX8_choose_151 : decode cX8_choose 151 = .ok (.isub, 1) := by decide +kernel
theorem dX8_choose_152 : decode cX8_choose 152 = .ok (.goto 9, 3) := by decide +kernel
theorem dX8_choose_155 : decode cX8_choose 155 = .ok (.aload_n 0, 1) := by decide +kernel
theorem dX8_choose_156 : decode cX8_choose 156 = .ok (.getfield 124, 3) := by decide +kernel
theorem dX8_choose_159 : decode cX8_choose 159 = .ok (.iload_n 3, 1) := by decide +kernel
theorem dX8_choose_160 : decode cX8_choose 160 = .ok (.isub, 1) := by decide +kernel
theorem dX8_choose_161 : decode cX8_choose 161 = .ok (.istore 4, 2) := by decide +kernel
theorem dX8_choose_163 : decode cX8_choose 163 = .ok (.aload_n 0, 1) := by decide +kernel
theorem dX8_choose_164 : decode cX8_choose 164 = .ok (.getfield 44, 3) := by decide +kernel
theorem dX8_choose_167 : decode cX8_choose 167 = .ok (.iload_n 3, 1) := by decide +kernel
theorem dX8_choose_168 : decode cX8_choose 168 = .ok (.iconst 1, 1) := by decide +kernel
theorem dX8_choose_169 : decode cX8_choose 169 = .ok (.iadd, 1) := by decide +kernel
theorem dX8_choose_170 : decode cX8_choose 170 = .ok (.iload 4, 2) := by decide +kernel
theorem dX8_choose_172 : decode cX8_choose 172 = .ok (.aload_n 0, 1) := by decide +kernel
theorem dX8_choose_173 : decode cX8_choose 173 = .ok (.getfield 92, 3) := by decide +kernel
theorem dX8_choose_176 : decode cX8_choose 176 = .ok (.if_icmp .le 8, 3) := by decide +kernel
theorem dX8_choose_179 : decode cX8_choose 179 = .ok (.ldc 123, 2) := by decide +kernel
theorem dX8_choose_181 : decode cX8_choose 181 = .ok (.goto 11, 3) := by decide +kernel
theorem dX8_choose_184 : decode cX8_choose 184 = .ok (.aload_n 0, 1) := by decide +kernel
theorem dX8_choose_185 : decode cX8_choose 185 = .ok (.getfield 44, 3) := by decide +kernel
theorem dX8_choose_188 : decode cX8_choose 188 = .ok (.iload_n 3, 1) := by decide +kernel
theorem dX8_choose_189 : decode cX8_choose 189 = .ok (.iconst 1, 1) := by decide +kernel
theorem dX8_choose_190 : decode cX8_choose 190 = .ok (.iadd, 1) := by decide +kernel
theorem dX8_choose_191 : decode cX8_choose 191 = .ok (.iaload, 1) := by decide +kernel
theorem dX8_choose_192 : decode cX8_choose 192 = .ok (.iastore, 1) := by decide +kernel
theorem dX8_choose_193 : decode cX8_choose 193 = .ok (.iinc 3 1, 3) := by decide +kernel
theorem dX8_choose_196 : decode cX8_choose 196 = .ok (.goto (-66), 3) := by decide +kernel
theorem dX8_choose_199 : decode cX8_choose 199 = .ok (.return_, 1) := by decide +kernel
theorem dX8_anchor_0 : decode cX8_anchor 0 = .ok (.aload_n 0, 1) := by decide +kernel
theorem dX8_anchor_1 : decode cX8_anchor 1 = .ok (.getfield 124, 3) := by decide +kernel
theorem dX8_anchor_4 : decode cX8_anchor 4 = .ok (.ifCond .lt 21, 3) := by decide +kernel
theorem dX8_anchor_7 : decode cX8_anchor 7 = .ok (.aload_n 0, 1) := by decide +kernel
theorem dX8_anchor_8 : decode cX8_anchor 8 = .ok (.getfield 7, 3) := by decide +kernel
theorem dX8_anchor_11 : decode cX8_anchor 11 = .ok (.aload_n 0, 1) := by decide +kernel
theorem dX8_anchor_12 : decode cX8_anchor 12 = .ok (.getfield 124, 3) := by decide +kernel
theorem dX8_anchor_15 : decode cX8_anchor 15 = .ok (.iaload, 1) := by decide +kernel
theorem dX8_anchor_16 : decode cX8_anchor 16 = .ok (.aload_n 0, 1) := by decide +kernel
theorem dX8_anchor_17 : decode cX8_anchor 17 = .ok (.getfield 38, 3) := by decide +kernel
theorem dX8_anchor_20 : decode cX8_anchor 20 = .ok (.iload_n 1, 1) := by decide +kernel
theorem dX8_anchor_21 : decode cX8_anchor 21 = .ok (.iaload, 1) := by decide +kernel
theorem dX8_anchor_22 : decode cX8_anchor 22 = .ok (.if_icmp .eq 4, 3) := by decide +kernel
theorem dX8_anchor_25 : decode cX8_anchor 25 = .ok (.return_, 1) := by decide +kernel
theorem dX8_anchor_26 : decode cX8_anchor 26 = .ok (.aload_n 0, 1) := by decide +kernel
theorem dX8_anchor_27 : decode cX8_anchor 27 = .ok (.getfield 127, 3) := by decide +kernel
theorem dX8_anchor_30 : decode cX8_anchor 30 = .ok (.ifCond .le 26, 3) := by decide +kernel
theorem dX8_anchor_33 : decode cX8_anchor 33 = .ok (.aload_n 0, 1) := by decide +kernel
theorem dX8_anchor_34 : decode cX8_anchor 34 = .ok (.getfield 124, 3) := by decide +kernel
theorem dX8_anchor_37 : decode cX8_anchor 37 = .ok (.aload_n 0, 1) := by decide +kernel
theorem dX8_anchor_38 : decode cX8_anchor 38 = .ok (.getfield 53, 3) := by decide +kernel
theorem dX8_anchor_41 : decode cX8_anchor 41 = .ok (.aload_n 0, 1) := by decide +kernel
theorem dX8_anchor_42 : decode cX8_anchor 42 = .ok (.getfield 127, 3) := by decide +kernel
theorem dX8_anchor_45 : decode cX8_anchor 45 = .ok (.iconst 1, 1) := by decide +kernel
theorem dX8_anchor_46 : decode cX8_anchor 46 = .ok (.isub, 1) := by decide +kernel
theorem dX8_anchor_47 : decode cX8_anchor 47 = .ok (.iaload, 1) := by decide +kernel
theorem dX8_anchor_48 : decode cX8_anchor 48 = .ok (.if_icmp .gt 8, 3) := by decide +kernel
theorem dX8_anchor_51 : decode cX8_anchor 51 = .ok (.aload_n 0, 1) := by decide +kernel
theorem dX8_anchor_52 : decode cX8_anchor 52 = .ok (.iconst 0, 1) := by decide +kernel
theorem dX8_anchor_53 : decode cX8_anchor 53 = .ok (.putfield 127, 3) := by decide +kernel
theorem dX8_anchor_56 : decode cX8_anchor 56 = .ok (.aload_n 0, 1) := by decide +kernel
theorem dX8_anchor_57 : decode cX8_anchor 57 = .ok (.getfield 53, 3) := by decide +kernel
theorem dX8_anchor_60 : decode cX8_anchor 60 = .ok (.aload_n 0, 1) := by decide +kernel
theorem dX8_anchor_61 : decode cX8_anchor 61 = .ok (.getfield 127, 3) := by decide +kernel
theorem dX8_anchor_64 : decode cX8_anchor 64 = .ok (.aload_n 0, 1) := by decide +kernel
theorem dX8_anchor_65 : decode cX8_anchor 65 = .ok (.getfield 124, 3) := by decide +kernel
theorem dX8_anchor_68 : decode cX8_anchor 68 = .ok (.iastore, 1) := by decide +kernel
theorem dX8_anchor_69 : decode cX8_anchor 69 = .ok (.aload_n 0, 1) := by decide +kernel
theorem dX8_anchor_70 : decode cX8_anchor 70 = .ok (.getfield 56, 3) := by decide +kernel
theorem dX8_anchor_73 : decode cX8_anchor 73 = .ok (.aload_n 0, 1) := by decide +kernel
theorem dX8_anchor_74 : decode cX8_anchor 74 = .ok (.getfield 127, 3) := by decide +kernel
theorem dX8_anchor_77 : decode cX8_anchor 77 = .ok (.aload_n 0, 1) := by decide +kernel
theorem dX8_anchor_78 : decode cX8_anchor 78 = .ok (.getfield 41, 3) := by decide +kernel
theorem dX8_anchor_81 : decode cX8_anchor 81 = .ok (.iload_n 1, 1) := by decide +kernel
theorem dX8_anchor_82 : decode cX8_anchor 82 = .ok (.iaload, 1) := by decide +kernel
theorem dX8_anchor_83 : decode cX8_anchor 83 = .ok (.iastore, 1) := by decide +kernel
theorem dX8_anchor_84 : decode cX8_anchor 84 = .ok (.aload_n 0, 1) := by decide +kernel
theorem dX8_anchor_85 : decode cX8_anchor 85 = .ok (.dup, 1) := by decide +kernel
theorem dX8_anchor_86 : decode cX8_anchor 86 = .ok (.getfield 127, 3) := by decide +kernel
theorem dX8_anchor_89 : decode cX8_anchor 89 = .ok (.iconst 1, 1) := by decide +kernel
theorem dX8_anchor_90 : decode cX8_anchor 90 = .ok (.iadd, 1) := by decide +kernel
theorem dX8_anchor_91 : decode cX8_anchor 91 = .ok (.putfield 127, 3) := by decide +kernel
theorem dX8_anchor_94 : decode cX8_anchor 94 = .ok (.return_, 1) := by decide +kernel
theorem dX8_hear_0 : decode cX8_hear 0 = .ok (.aload_n 0, 1) := by decide +kernel
theorem dX8_hear_1 : decode cX8_hear 1 = .ok (.iconst 0, 1) := by decide +kernel
theorem dX8_hear_2 : decode cX8_hear 2 = .ok (.putfield 83, 3) := by decide +kernel
theorem dX8_hear_5 : decode cX8_hear 5 = .ok (.iload_n 1, 1) := by decide +kernel
theorem dX8_hear_6 : decode cX8_hear 6 = .ok (.ifCond .lt 41, 3) := by decide +kernel
theorem dX8_hear_9 : decode cX8_hear 9 = .ok (.iload_n 1, 1) := by decide +kernel
theorem dX8_hear_10 : decode cX8_hear 10 = .ok (.bipush 127, 2) := by decide +kernel
theorem dX8_hear_12 : decode cX8_hear 12 = .ok (.if_icmp .gt 35, 3) := by decide +kernel
theorem dX8_hear_15 : decode cX8_hear 15 = .ok (.iload_n 2, 1) := by decide +kernel
theorem dX8_hear_16 : decode cX8_hear 16 = .ok (.ifCond .lt 31, 3) := by decide +kernel
theorem dX8_hear_19 : decode cX8_hear 19 = .ok (.iload_n 2, 1) := by decide +kernel
theorem dX8_hear_20 : decode cX8_hear 20 = .ok (.ldc 153, 2) := by decide +kernel
theorem dX8_hear_22 : decode cX8_hear 22 = .ok (.if_icmp .gt 25, 3) := by decide +kernel
theorem dX8_hear_25 : decode cX8_hear 25 = .ok (.aload_n 0, 1) := by decide +kernel
theorem dX8_hear_26 : decode cX8_hear 26 = .ok (.getfield 101, 3) := by decide +kernel
theorem dX8_hear_29 : decode cX8_hear 29 = .ok (.ifCond .le 21, 3) := by decide +kernel
theorem dX8_hear_32 : decode cX8_hear 32 = .ok (.iload_n 2, 1) := by decide +kernel
theorem dX8_hear_33 : decode cX8_hear 33 = .ok (.aload_n 0, 1) := by decide +kernel
theorem dX8_hear_34 : decode cX8_hear 34 = .ok (.getfield 41, 3) := by decide +kernel
theorem dX8_hear_37 : decode cX8_hear 37 = .ok (.aload_n 0, 1) := by decide +kernel
theorem dX8_hear_38 : decode cX8_hear 38 = .ok (.getfield 101, 3) := by decide +kernel
theorem dX8_hear_41 : decode cX8_hear 41 = .ok (.iconst 1, 1) := by decide +kernel
theorem dX8_hear_42 : decode cX8_hear 42 = .ok (.isub, 1) := by decide +kernel
theorem dX8_hear_43 : decode cX8_hear 43 = .ok (.iaload, 1) := by decide +kernel
theorem dX8_hear_44 : decode cX8_hear 44 = .ok (.if_icmp .ge 6, 3) := by decide +kernel
theorem dX8_hear_47 : decode cX8_hear 47 = .ok (.bipush (-2), 2) := by decide +kernel
theorem dX8_hear_49 : decode cX8_hear 49 = .ok (.ireturn, 1) := by decide +kernel
theorem dX8_hear_50 : decode cX8_hear 50 = .ok (.aload_n 0, 1) := by decide +kernel
theorem dX8_hear_51 : decode cX8_hear 51 = .ok (.getfield 86, 3) := by decide +kernel
theorem dX8_hear_54 : decode cX8_hear 54 = .ok (.ifCond .ne 6, 3) := by decide +kernel
theorem dX8_hear_57 : decode cX8_hear 57 = .ok (.bipush (-3), 2) := by decide +kernel
theorem dX8_hear_59 : decode cX8_hear 59 = .ok (.ireturn, 1) := by decide +kernel
theorem dX8_hear_60 : decode cX8_hear 60 = .ok (.aload_n 0, 1) := by decide +kernel
theorem dX8_hear_61 : decode cX8_hear 61 = .ok (.getfield 101, 3) := by decide +kernel
theorem dX8_hear_64 : decode cX8_hear 64 = .ok (.bipush 120, 2) := by decide +kernel
theorem dX8_hear_66 : decode cX8_hear 66 = .ok (.if_icmp .ne 6, 3) := by decide +kernel
theorem dX8_hear_69 : decode cX8_hear 69 = .ok (.bipush (-4), 2) := by decide +kernel
theorem dX8_hear_71 : decode cX8_hear 71 = .ok (.ireturn, 1) := by decide +kernel
theorem dX8_hear_72 : decode cX8_hear 72 = .ok (.aload_n 0, 1) := by decide +kernel
theorem dX8_hear_73 : decode cX8_hear 73 = .ok (.getfield 38, 3) := by decide +kernel
theorem dX8_hear_76 : decode cX8_hear 76 = .ok (.aload_n 0, 1) := by decide +kernel
theorem dX8_hear_77 : decode cX8_hear 77 = .ok (.getfield 101, 3) := by decide +kernel
theorem dX8_hear_80 : decode cX8_hear 80 = .ok (.iload_n 1, 1) := by decide +kernel
theorem dX8_hear_81 : decode cX8_hear 81 = .ok (.iastore, 1) := by decide +kernel
theorem dX8_hear_82 : decode cX8_hear 82 = .ok (.aload_n 0, 1) := by decide +kernel
theorem dX8_hear_83 : decode cX8_hear 83 = .ok (.getfield 41, 3) := by decide +kernel
theorem dX8_hear_86 : decode cX8_hear 86 = .ok (.aload_n 0, 1) := by decide +kernel
theorem dX8_hear_87 : decode cX8_hear 87 = .ok (.getfield 101, 3) := by decide +kernel
theorem dX8_hear_90 : decode cX8_hear 90 = .ok (.iload_n 2, 1) := by decide +kernel
theorem dX8_hear_91 : decode cX8_hear 91 = .ok (.iastore, 1) := by decide +kernel
theorem dX8_hear_92 : decode cX8_hear 92 = .ok (.aload_n 0, 1) := by decide +kernel
theorem dX8_hear_93 : decode cX8_hear 93 = .ok (.dup, 1) := by decide +kernel
theorem dX8_hear_94 : decode cX8_hear 94 = .ok (.getfield 101, 3) := by decide +kernel
theorem dX8_hear_97 : decode cX8_hear 97 = .ok (.iconst 1, 1) := by decide +kernel
theorem dX8_hear_98 : decode cX8_hear 98 = .ok (.iadd, 1) := by decide +kernel
theorem dX8_hear_99 : decode cX8_hear 99 = .ok (.putfield 101, 3) := by decide +kernel
theorem dX8_hear_102 : decode cX8_hear 102 = .ok (.aload_n 0, 1) := by decide +kernel
theorem dX8_hear_103 : decode cX8_hear 103 = .ok (.iconst 0, 1) := by decide +kernel
theorem dX8_hear_104 : decode cX8_hear 104 = .ok (.putfield 104, 3) := by decide +kernel
theorem dX8_hear_107 : decode cX8_hear 107 = .ok (.aload_n 0, 1) := by decide +kernel
theorem dX8_hear_108 : decode cX8_hear 108 = .ok (.aload_n 0, 1) := by decide +kernel
theorem dX8_hear_109 : decode cX8_hear 109 = .ok (.getfield 101, 3) := by decide +kernel
theorem dX8_hear_112 : decode cX8_hear 112 = .ok (.iconst 1, 1) := by decide +kernel
theorem dX8_hear_113 : decode cX8_hear 113 = .ok (.isub, 1) := by decide +kernel
theorem dX8_hear_114 : decode cX8_hear 114 = .ok (.invokevirtual 130, 3) := by decide +kernel
theorem dX8_hear_117 : decode cX8_hear 117 = .ok (.aload_n 0, 1) := by decide +kernel
theorem dX8_hear_118 : decode cX8_hear 118 = .ok (.getfield 124, 3) := by decide +kernel
theorem dX8_hear_121 : decode cX8_hear 121 = .ok (.ireturn, 1) := by decide +kernel
theorem dX8_cut_0 : decode cX8_cut 0 = .ok (.aload_n 0, 1) := by decide +kernel
theorem dX8_cut_1 : decode cX8_cut 1 = .ok (.iconst 0, 1) := by decide +kernel
theorem dX8_cut_2 : decode cX8_cut 2 = .ok (.putfield 83, 3) := by decide +kernel
theorem dX8_cut_5 : decode cX8_cut 5 = .ok (.iload_n 1, 1) := by decide +kernel
theorem dX8_cut_6 : decode cX8_cut 6 = .ok (.ifCond .lt 11, 3) := by decide +kernel
theorem dX8_cut_9 : decode cX8_cut 9 = .ok (.iload_n 1, 1) := by decide +kernel
theorem dX8_cut_10 : decode cX8_cut 10 = .ok (.aload_n 0, 1) := by decide +kernel
theorem dX8_cut_11 : decode cX8_cut 11 = .ok (.getfield 101, 3) := by decide +kernel
theorem dX8_cut_14 : decode cX8_cut 14 = .ok (.if_icmp .le 6, 3) := by decide +kernel
theorem dX8_cut_17 : decode cX8_cut 17 = .ok (.bipush (-2), 2) := by decide +kernel
theorem dX8_cut_19 : decode cX8_cut 19 = .ok (.ireturn, 1) := by decide +kernel
theorem dX8_cut_20 : decode cX8_cut 20 = .ok (.aload_n 0, 1) := by decide +kernel
theorem dX8_cut_21 : decode cX8_cut 21 = .ok (.iload_n 1, 1) := by decide +kernel
theorem dX8_cut_22 : decode cX8_cut 22 = .ok (.putfield 101, 3) := by decide +kernel
theorem dX8_cut_25 : decode cX8_cut 25 = .ok (.aload_n 0, 1) := by decide +kernel
theorem dX8_cut_26 : decode cX8_cut 26 = .ok (.iconst 0, 1) := by decide +kernel
theorem dX8_cut_27 : decode cX8_cut 27 = .ok (.putfield 104, 3) := by decide +kernel
theorem dX8_cut_30 : decode cX8_cut 30 = .ok (.aload_n 0, 1) := by decide +kernel
theorem dX8_cut_31 : decode cX8_cut 31 = .ok (.invokevirtual 108, 3) := by decide +kernel
theorem dX8_cut_34 : decode cX8_cut 34 = .ok (.aload_n 0, 1) := by decide +kernel
theorem dX8_cut_35 : decode cX8_cut 35 = .ok (.getfield 124, 3) := by decide +kernel
theorem dX8_cut_38 : decode cX8_cut 38 = .ok (.ireturn, 1) := by decide +kernel
theorem dX8_valueOf_0 : decode cX8_valueOf 0 = .ok (.aload_n 0, 1) := by decide +kernel
theorem dX8_valueOf_1 : decode cX8_valueOf 1 = .ok (.iconst 0, 1) := by decide +kernel
theorem dX8_valueOf_2 : decode cX8_valueOf 2 = .ok (.putfield 83, 3) := by decide +kernel
theorem dX8_valueOf_5 : decode cX8_valueOf 5 = .ok (.iload_n 1, 1) := by decide +kernel
theorem dX8_valueOf_6 : decode cX8_valueOf 6 = .ok (.iconst (-1), 1) := by decide +kernel
theorem dX8_valueOf_7 : decode cX8_valueOf 7 = .ok (.if_icmp .lt 11, 3) := by decide +kernel
theorem dX8_valueOf_10 : decode cX8_valueOf 10 = .ok (.iload_n 1, 1) := by decide +kernel
theorem dX8_valueOf_11 : decode cX8_valueOf 11 = .ok (.aload_n 0, 1) := by decide +kernel
theorem dX8_valueOf_12 : decode cX8_valueOf 12 = .ok (.getfield 86, 3) := by decide +kernel
theorem dX8_valueOf_15 : decode cX8_valueOf 15 = .ok (.if_icmp .lt 6, 3) := by decide +kernel
theorem dX8_valueOf_18 : decode cX8_valueOf 18 = .ok (.bipush (-2), 2) := by decide +kernel
theorem dX8_valueOf_20 : decode cX8_valueOf 20 = .ok (.ireturn, 1) := by decide +kernel
theorem dX8_valueOf_21 : decode cX8_valueOf 21 = .ok (.aload_n 0, 1) := by decide +kernel
theorem dX8_valueOf_22 : decode cX8_valueOf 22 = .ok (.getfield 44, 3) := by decide +kernel
theorem dX8_valueOf_25 : decode cX8_valueOf 25 = .ok (.iload_n 1, 1) := by decide +kernel
theorem dX8_valueOf_26 : decode cX8_valueOf 26 = .ok (.iconst 1, 1) := by decide +kernel
theorem dX8_valueOf_27 : decode cX8_valueOf 27 = .ok (.iadd, 1) := by decide +kernel
theorem dX8_valueOf_28 : decode cX8_valueOf 28 = .ok (.iaload, 1) := by decide +kernel
theorem dX8_valueOf_29 : decode cX8_valueOf 29 = .ok (.ldc 123, 2) := by decide +kernel
theorem dX8_valueOf_31 : decode cX8_valueOf 31 = .ok (.if_icmp .ge 14, 3) := by decide +kernel
theorem dX8_valueOf_34 : decode cX8_valueOf 34 = .ok (.aload_n 0, 1) := by decide +kernel
theorem dX8_valueOf_35 : decode cX8_valueOf 35 = .ok (.getfield 44, 3) := by decide +kernel
theorem dX8_valueOf_38 : decode cX8_valueOf 38 = .ok (.iload_n 1, 1) := by decide +kernel
theorem dX8_valueOf_39 : decode cX8_valueOf 39 = .ok (.iconst 1, 1) := by decide +kernel
theorem dX8_valueOf_40 : decode cX8_valueOf 40 = .ok (.iadd, 1) := by decide +kernel
theorem dX8_valueOf_41 : decode cX8_valueOf 41 = .ok (.iaload, 1) := by decide +kernel
theorem dX8_valueOf_42 : decode cX8_valueOf 42 = .ok (.goto 4, 3) := by decide +kernel
theorem dX8_valueOf_45 : decode cX8_valueOf 45 = .ok (.iconst (-1), 1) := by decide +kernel
theorem dX8_valueOf_46 : decode cX8_valueOf 46 = .ok (.ireturn, 1) := by decide +kernel
theorem dX8_common_0 : decode cX8_common 0 = .ok (.iload_n 0, 1) := by decide +kernel
theorem dX8_common_1 : decode cX8_common 1 = .ok (.istore_n 2, 1) := by decide +kernel
theorem dX8_common_2 : decode cX8_common 2 = .ok (.iload_n 1, 1) := by decide +kernel
theorem dX8_common_3 : decode cX8_common 3 = .ok (.istore_n 3, 1) := by decide +kernel
theorem dX8_common_4 : decode cX8_common 4 = .ok (.iload_n 3, 1) := by decide +kernel
theorem dX8_common_5 : decode cX8_common 5 = .ok (.ifCond .eq 16, 3) := by decide +kernel
theorem dX8_common_8 : decode cX8_common 8 = .ok (.iload_n 2, 1) := by decide +kernel
theorem dX8_common_9 : decode cX8_common 9 = .ok (.iload_n 3, 1) := by decide +kernel
theorem dX8_common_10 : decode cX8_common 10 = .ok (.irem, 1) := by decide +kernel
theorem dX8_common_11 : decode cX8_common 11 = .ok (.istore 4, 2) := by decide +kernel
theorem dX8_common_13 : decode cX8_common 13 = .ok (.iload_n 3, 1) := by decide +kernel
theorem dX8_common_14 : decode cX8_common 14 = .ok (.istore_n 2, 1) := by decide +kernel
theorem dX8_common_15 : decode cX8_common 15 = .ok (.iload 4, 2) := by decide +kernel
theorem dX8_common_17 : decode cX8_common 17 = .ok (.istore_n 3, 1) := by decide +kernel
theorem dX8_common_18 : decode cX8_common 18 = .ok (.goto (-14), 3) := by decide +kernel
theorem dX8_common_21 : decode cX8_common 21 = .ok (.iload_n 2, 1) := by decide +kernel
theorem dX8_common_22 : decode cX8_common 22 = .ok (.ireturn, 1) := by decide +kernel
theorem dX8_tempoOf_0 : decode cX8_tempoOf 0 = .ok (.aload_n 0, 1) := by decide +kernel
theorem dX8_tempoOf_1 : decode cX8_tempoOf 1 = .ok (.getfield 127, 3) := by decide +kernel
theorem dX8_tempoOf_4 : decode cX8_tempoOf 4 = .ok (.iconst 2, 1) := by decide +kernel
theorem dX8_tempoOf_5 : decode cX8_tempoOf 5 = .ok (.if_icmp .ge 5, 3) := by decide +kernel
theorem dX8_tempoOf_8 : decode cX8_tempoOf 8 = .ok (.iconst 1, 1) := by decide +kernel
theorem dX8_tempoOf_9 : decode cX8_tempoOf 9 = .ok (.ireturn, 1) := by decide +kernel
theorem dX8_tempoOf_10 : decode cX8_tempoOf 10 = .ok (.aload_n 0, 1) := by decide +kernel
theorem dX8_tempoOf_11 : decode cX8_tempoOf 11 = .ok (.getfield 127, 3) := by decide +kernel
theorem dX8_tempoOf_14 : decode cX8_tempoOf 14 = .ok (.iconst 4, 1) := by decide +kernel
theorem dX8_tempoOf_15 : decode cX8_tempoOf 15 = .ok (.if_icmp .le 12, 3) := by decide +kernel
theorem dX8_tempoOf_18 : decode cX8_tempoOf 18 = .ok (.aload_n 0, 1) := by decide +kernel
theorem dX8_tempoOf_19 : decode cX8_tempoOf 19 = .ok (.getfield 127, 3) := by decide +kernel
theorem dX8_tempoOf_22 : decode cX8_tempoOf 22 = .ok (.iconst 4, 1) := by decide +kernel
theorem dX8_tempoOf_23 : decode cX8_tempoOf 23 = .ok (.isub, 1) := by decide +kernel
theorem dX8_tempoOf_24 : decode cX8_tempoOf 24 = .ok (.goto 4, 3) := by decide +kernel
theorem dX8_tempoOf_27 : decode cX8_tempoOf 27 = .ok (.iconst 0, 1) := by decide +kernel
theorem dX8_tempoOf_28 : decode cX8_tempoOf 28 = .ok (.istore_n 2, 1) := by decide +kernel
theorem dX8_tempoOf_29 : decode cX8_tempoOf 29 = .ok (.aload_n 0, 1) := by decide +kernel
theorem dX8_tempoOf_30 : decode cX8_tempoOf 30 = .ok (.getfield 56, 3) := by decide +kernel
theorem dX8_tempoOf_33 : decode cX8_tempoOf 33 = .ok (.aload_n 0, 1) := by decide +kernel
theorem dX8_tempoOf_34 : decode cX8_tempoOf 34 = .ok (.getfield 127, 3) := by decide +kernel
theorem dX8_tempoOf_37 : decode cX8_tempoOf 37 = .ok (.iconst 1, 1) := by decide +kernel
theorem dX8_tempoOf_38 : decode cX8_tempoOf 38 = .ok (.isub, 1) := by decide +kernel
theorem dX8_tempoOf_39 : decode cX8_tempoOf 39 = .ok (.iaload, 1) := by decide +kernel
theorem dX8_tempoOf_40 : decode cX8_tempoOf 40 = .ok (.aload_n 0, 1) := by decide +kernel
theorem dX8_tempoOf_41 : decode cX8_tempoOf 41 = .ok (.getfield 56, 3) := by decide +kernel
theorem dX8_tempoOf_44 : decode cX8_tempoOf 44 = .ok (.iload_n 2, 1) := by decide +kernel
theorem dX8_tempoOf_45 : decode cX8_tempoOf 45 = .ok (.iaload, 1) := by decide +kernel
theorem dX8_tempoOf_46 : decode cX8_tempoOf 46 = .ok (.isub, 1) := by decide +kernel
theorem dX8_tempoOf_47 : decode cX8_tempoOf 47 = .ok (.istore_n 3, 1) := by decide +kernel
theorem dX8_tempoOf_48 : decode cX8_tempoOf 48 = .ok (.aload_n 0, 1) := by decide +kernel
theorem dX8_tempoOf_49 : decode cX8_tempoOf 49 = .ok (.getfield 13, 3) := by decide +kernel
theorem dX8_tempoOf_52 : decode cX8_tempoOf 52 = .ok (.aload_n 0, 1) := by decide +kernel
theorem dX8_tempoOf_53 : decode cX8_tempoOf 53 = .ok (.getfield 53, 3) := by decide +kernel
theorem dX8_tempoOf_56 : decode cX8_tempoOf 56 = .ok (.aload_n 0, 1) := by decide +kernel
theorem dX8_tempoOf_57 : decode cX8_tempoOf 57 = .ok (.getfield 127, 3) := by decide +kernel
theorem dX8_tempoOf_60 : decode cX8_tempoOf 60 = .ok (.iconst 1, 1) := by decide +kernel
theorem dX8_tempoOf_61 : decode cX8_tempoOf 61 = .ok (.isub, 1) := by decide +kernel
theorem dX8_tempoOf_62 : decode cX8_tempoOf 62 = .ok (.iaload, 1) := by decide +kernel
theorem dX8_tempoOf_63 : decode cX8_tempoOf 63 = .ok (.iaload, 1) := by decide +kernel
theorem dX8_tempoOf_64 : decode cX8_tempoOf 64 = .ok (.aload_n 0, 1) := by decide +kernel
theorem dX8_tempoOf_65 : decode cX8_tempoOf 65 = .ok (.getfield 13, 3) := by decide +kernel
theorem dX8_tempoOf_68 : decode cX8_tempoOf 68 = .ok (.aload_n 0, 1) := by decide +kernel
theorem dX8_tempoOf_69 : decode cX8_tempoOf 69 = .ok (.getfield 53, 3) := by decide +kernel
theorem dX8_tempoOf_72 : decode cX8_tempoOf 72 = .ok (.iload_n 2, 1) := by decide +kernel
theorem dX8_tempoOf_73 : decode cX8_tempoOf 73 = .ok (.iaload, 1) := by decide +kernel
theorem dX8_tempoOf_74 : decode cX8_tempoOf 74 = .ok (.iaload, 1) := by decide +kernel
theorem dX8_tempoOf_75 : decode cX8_tempoOf 75 = .ok (.isub, 1) := by decide +kernel
theorem dX8_tempoOf_76 : decode cX8_tempoOf 76 = .ok (.istore 4, 2) := by decide +kernel
theorem dX8_tempoOf_78 : decode cX8_tempoOf 78 = .ok (.iload_n 3, 1) := by decide +kernel
theorem dX8_tempoOf_79 : decode cX8_tempoOf 79 = .ok (.iload 4, 2) := by decide +kernel
theorem dX8_tempoOf_81 : decode cX8_tempoOf 81 = .ok (.invokestatic 154, 3) := by decide +kernel
theorem dX8_tempoOf_84 : decode cX8_tempoOf 84 = .ok (.istore 5, 2) := by decide +kernel
theorem dX8_tempoOf_86 : decode cX8_tempoOf 86 = .ok (.iload_n 1, 1) := by decide +kernel
theorem dX8_tempoOf_87 : decode cX8_tempoOf 87 = .ok (.ifCond .ne 10, 3) := by decide +kernel
theorem dX8_tempoOf_90 : decode cX8_tempoOf 90 = .ok (.iload_n 3, 1) := by decide +kernel
theorem dX8_tempoOf_91 : decode cX8_tempoOf 91 = .ok (.iload 5, 2) := by decide +kernel
theorem dX8_tempoOf_93 : decode cX8_tempoOf 93 = .ok (.idiv, 1) := by decide +kernel
theorem dX8_tempoOf_94 : decode cX8_tempoOf 94 = .ok (.goto 8, 3) := by decide +kernel
theorem dX8_tempoOf_97 : decode cX8_tempoOf 97 = .ok (.iload 4, 2) := by decide +kernel
theorem dX8_tempoOf_99 : decode cX8_tempoOf 99 = .ok (.iload 5, 2) := by decide +kernel
theorem dX8_tempoOf_101 : decode cX8_tempoOf 101 = .ok (.idiv, 1) := by decide +kernel
theorem dX8_tempoOf_102 : decode cX8_tempoOf 102 = .ok (.ireturn, 1) := by decide +kernel
theorem dX8_tempo_0 : decode cX8_tempo 0 = .ok (.aload_n 0, 1) := by decide +kernel
theorem dX8_tempo_1 : decode cX8_tempo 1 = .ok (.iconst 0, 1) := by decide +kernel
theorem dX8_tempo_2 : decode cX8_tempo 2 = .ok (.putfield 83, 3) := by decide +kernel
theorem dX8_tempo_5 : decode cX8_tempo 5 = .ok (.iload_n 1, 1) := by decide +kernel
theorem dX8_tempo_6 : decode cX8_tempo 6 = .ok (.ifCond .eq 8, 3) := by decide +kernel
theorem dX8_tempo_9 : decode cX8_tempo 9 = .ok (.iload_n 1, 1) := by decide +kernel
theorem dX8_tempo_10 : decode cX8_tempo 10 = .ok (.iconst 1, 1) := by decide +kernel
theorem dX8_tempo_11 : decode cX8_tempo 11 = .ok (.if_icmp .ne 11, 3) := by decide +kernel
theorem dX8_tempo_14 : decode cX8_tempo 14 = .ok (.aload_n 0, 1) := by decide +kernel
theorem dX8_tempo_15 : decode cX8_tempo 15 = .ok (.iload_n 1, 1) := by decide +kernel
theorem dX8_tempo_16 : decode cX8_tempo 16 = .ok (.invokevirtual 157, 3) := by decide +kernel
theorem dX8_tempo_19 : decode cX8_tempo 19 = .ok (.goto 5, 3) := by decide +kernel
theorem dX8_tempo_22 : decode cX8_tempo 22 = .ok (.bipush (-2), 2) := by decide +kernel
theorem dX8_tempo_24 : decode cX8_tempo 24 = .ok (.ireturn, 1) := by decide +kernel
theorem dX8_ahead_0 : decode cX8_ahead 0 = .ok (.aload_n 0, 1) := by decide +kernel
theorem dX8_ahead_1 : decode cX8_ahead 1 = .ok (.iconst 0, 1) := by decide +kernel
theorem dX8_ahead_2 : decode cX8_ahead 2 = .ok (.putfield 83, 3) := by decide +kernel
theorem dX8_ahead_5 : decode cX8_ahead 5 = .ok (.iload_n 1, 1) := by decide +kernel
theorem dX8_ahead_6 : decode cX8_ahead 6 = .ok (.ifCond .lt 11, 3) := by decide +kernel
theorem dX8_ahead_9 : decode cX8_ahead 9 = .ok (.iload_n 1, 1) := by decide +kernel
theorem dX8_ahead_10 : decode cX8_ahead 10 = .ok (.aload_n 0, 1) := by decide +kernel
theorem dX8_ahead_11 : decode cX8_ahead 11 = .ok (.getfield 86, 3) := by decide +kernel
theorem dX8_ahead_14 : decode cX8_ahead 14 = .ok (.if_icmp .lt 7, 3) := by decide +kernel
theorem dX8_ahead_17 : decode cX8_ahead 17 = .ok (.ldc2_w 161, 3) := by decide +kernel
theorem dX8_ahead_20 : decode cX8_ahead 20 = .ok (.lreturn, 1) := by decide +kernel
theorem dX8_ahead_21 : decode cX8_ahead 21 = .ok (.aload_n 0, 1) := by decide +kernel
theorem dX8_ahead_22 : decode cX8_ahead 22 = .ok (.getfield 127, 3) := by decide +kernel
theorem dX8_ahead_25 : decode cX8_ahead 25 = .ok (.ifCond .ne 7, 3) := by decide +kernel
theorem dX8_ahead_28 : decode cX8_ahead 28 = .ok (.ldc2_w 163, 3) := by decide +kernel
theorem dX8_ahead_31 : decode cX8_ahead 31 = .ok (.lreturn, 1) := by decide +kernel
theorem dX8_ahead_32 : decode cX8_ahead 32 = .ok (.aload_n 0, 1) := by decide +kernel
theorem dX8_ahead_33 : decode cX8_ahead 33 = .ok (.getfield 13, 3) := by decide +kernel
theorem dX8_ahead_36 : decode cX8_ahead 36 = .ok (.iload_n 1, 1) := by decide +kernel
theorem dX8_ahead_37 : decode cX8_ahead 37 = .ok (.iaload, 1) := by decide +kernel
theorem dX8_ahead_38 : decode cX8_ahead 38 = .ok (.aload_n 0, 1) := by decide +kernel
theorem dX8_ahead_39 : decode cX8_ahead 39 = .ok (.getfield 13, 3) := by decide +kernel
theorem dX8_ahead_42 : decode cX8_ahead 42 = .ok (.aload_n 0, 1) := by decide +kernel
theorem dX8_ahead_43 : decode cX8_ahead 43 = .ok (.getfield 53, 3) := by decide +kernel
theorem dX8_ahead_46 : decode cX8_ahead 46 = .ok (.aload_n 0, 1) := by decide +kernel
theorem dX8_ahead_47 : decode cX8_ahead 47 = .ok (.getfield 127, 3) := by decide +kernel
theorem dX8_ahead_50 : decode cX8_ahead 50 = .ok (.iconst 1, 1) := by decide +kernel
theorem dX8_ahead_51 : decode cX8_ahead 51 = .ok (.isub, 1) := by decide +kernel
theorem dX8_ahead_52 : decode cX8_ahead 52 = .ok (.iaload, 1) := by decide +kernel
theorem dX8_ahead_53 : decode cX8_ahead 53 = .ok (.iaload, 1) := by decide +kernel
theorem dX8_ahead_54 : decode cX8_ahead 54 = .ok (.isub, 1) := by decide +kernel
theorem dX8_ahead_55 : decode cX8_ahead 55 = .ok (.i2l, 1) := by decide +kernel
theorem dX8_ahead_56 : decode cX8_ahead 56 = .ok (.aload_n 0, 1) := by decide +kernel
theorem dX8_ahead_57 : decode cX8_ahead 57 = .ok (.iconst 0, 1) := by decide +kernel
theorem dX8_ahead_58 : decode cX8_ahead 58 = .ok (.invokevirtual 157, 3) := by decide +kernel
theorem dX8_ahead_61 : decode cX8_ahead 61 = .ok (.i2l, 1) := by decide +kernel
theorem dX8_ahead_62 : decode cX8_ahead 62 = .ok (.lmul, 1) := by decide +kernel
theorem dX8_ahead_63 : decode cX8_ahead 63 = .ok (.lstore_n 2, 1) := by decide +kernel
theorem dX8_ahead_64 : decode cX8_ahead 64 = .ok (.aload_n 0, 1) := by decide +kernel
theorem dX8_ahead_65 : decode cX8_ahead 65 = .ok (.iconst 1, 1) := by decide +kernel
theorem dX8_ahead_66 : decode cX8_ahead 66 = .ok (.invokevirtual 157, 3) := by decide +kernel
theorem dX8_ahead_69 : decode cX8_ahead 69 = .ok (.i2l, 1) := by decide +kernel
theorem dX8_ahead_70 : decode cX8_ahead 70 = .ok (.lstore 4, 2) := by decide +kernel
theorem dX8_ahead_72 : decode cX8_ahead 72 = .ok (.lload_n 2, 1) := by decide +kernel
theorem dX8_ahead_73 : decode cX8_ahead 73 = .ok (.lload 4, 2) := by decide +kernel
theorem dX8_ahead_75 : decode cX8_ahead 75 = .ok (.ldiv, 1) := by decide +kernel
theorem dX8_ahead_76 : decode cX8_ahead 76 = .ok (.lstore 6, 2) := by decide +kernel
theorem dX8_ahead_78 : decode cX8_ahead 78 = .ok (.lload 6, 2) := by decide +kernel
theorem dX8_ahead_80 : decode cX8_ahead 80 = .ok (.lload 4, 2) := by decide +kernel
theorem dX8_ahead_82 : decode cX8_ahead 82 = .ok (.lmul, 1) := by decide +kernel
theorem dX8_ahead_83 : decode cX8_ahead 83 = .ok (.lload_n 2, 1) := by decide +kernel
theorem dX8_ahead_84 : decode cX8_ahead 84 = .ok (.lcmp, 1) := by decide +kernel
theorem dX8_ahead_85 : decode cX8_ahead 85 = .ok (.ifCond .le 9, 3) := by decide +kernel
theorem dX8_ahead_88 : decode cX8_ahead 88 = .ok (.lload 6, 2) := by decide +kernel
theorem dX8_ahead_90 : decode cX8_ahead 90 = .ok (.lconst 1, 1) := by decide +kernel
theorem dX8_ahead_91 : decode cX8_ahead 91 = .ok (.lsub, 1) := by decide +kernel
theorem dX8_ahead_92 : decode cX8_ahead 92 = .ok (.lstore 6, 2) := by decide +kernel
theorem dX8_ahead_94 : decode cX8_ahead 94 = .ok (.aload_n 0, 1) := by decide +kernel
theorem dX8_ahead_95 : decode cX8_ahead 95 = .ok (.getfield 56, 3) := by decide +kernel
theorem dX8_ahead_98 : decode cX8_ahead 98 = .ok (.aload_n 0, 1) := by decide +kernel
theorem dX8_ahead_99 : decode cX8_ahead 99 = .ok (.getfield 127, 3) := by decide +kernel
theorem dX8_ahead_102 : decode cX8_ahead 102 = .ok (.iconst 1, 1) := by decide +kernel
theorem dX8_ahead_103 : decode cX8_ahead 103 = .ok (.isub, 1) := by decide +kernel
theorem dX8_ahead_104 : decode cX8_ahead 104 = .ok (.iaload, 1) := by decide +kernel
theorem dX8_ahead_105 : decode cX8_ahead 105 = .ok (.i2l, 1) := by decide +kernel
theorem dX8_ahead_106 : decode cX8_ahead 106 = .ok (.lload 6, 2) := by decide +kernel
theorem dX8_ahead_108 : decode cX8_ahead 108 = .ok (.ladd, 1) := by decide +kernel
theorem dX8_ahead_109 : decode cX8_ahead 109 = .ok (.lreturn, 1) := by decide +kernel
theorem dX8_at_0 : decode cX8_at 0 = .ok (.bipush 61, 2) := by decide +kernel
theorem dX8_at_2 : decode cX8_at 2 = .ok (.iload_n 1, 1) := by decide +kernel
theorem dX8_at_3 : decode cX8_at 3 = .ok (.imul, 1) := by decide +kernel
theorem dX8_at_4 : decode cX8_at 4 = .ok (.iload_n 2, 1) := by decide +kernel
theorem dX8_at_5 : decode cX8_at 5 = .ok (.iadd, 1) := by decide +kernel
theorem dX8_at_6 : decode cX8_at 6 = .ok (.iconst 1, 1) := by decide +kernel
theorem dX8_at_7 : decode cX8_at 7 = .ok (.iadd, 1) := by decide +kernel
theorem dX8_at_8 : decode cX8_at 8 = .ok (.ireturn, 1) := by decide +kernel
theorem dX8_left_0 : decode cX8_left 0 = .ok (.iconst (-1), 1) := by decide +kernel
theorem dX8_left_1 : decode cX8_left 1 = .ok (.istore_n 2, 1) := by decide +kernel
theorem dX8_left_2 : decode cX8_left 2 = .ok (.iload_n 2, 1) := by decide +kernel
theorem dX8_left_3 : decode cX8_left 3 = .ok (.aload_n 0, 1) := by decide +kernel
theorem dX8_left_4 : decode cX8_left 4 = .ok (.getfield 86, 3) := by decide +kernel
theorem dX8_left_7 : decode cX8_left 7 = .ok (.if_icmp .ge 216, 3) := by decide +kernel
theorem dX8_left_10 : decode cX8_left 10 = .ok (.iload_n 1, 1) := by decide +kernel
theorem dX8_left_11 : decode cX8_left 11 = .ok (.aload_n 0, 1) := by decide +kernel
theorem dX8_left_12 : decode cX8_left 12 = .ok (.getfield 101, 3) := by decide +kernel
theorem dX8_left_15 : decode cX8_left 15 = .ok (.if_icmp .ne 7, 3) := by decide +kernel
theorem dX8_left_18 : decode cX8_left 18 = .ok (.iconst 0, 1) := by decide +kernel
theorem dX8_left_19 : decode cX8_left 19 = .ok (.goto 23, 3) := by decide +kernel
theorem dX8_left_22 : decode cX8_left 22 = .ok (.aload_n 0, 1) := by decide +kernel
theorem dX8_left_23 : decode cX8_left 23 = .ok (.getfield 35, 3) := by decide +kernel
theorem dX8_left_26 : decode cX8_left 26 = .ok (.iconst 1, 1) := by decide +kernel
theorem dX8_left_27 : decode cX8_left 27 = .ok (.iaload, 1) := by decide +kernel
theorem dX8_left_28 : decode cX8_left 28 = .ok (.aload_n 0, 1) := by decide +kernel
theorem dX8_left_29 : decode cX8_left 29 = .ok (.getfield 65, 3) := by decide +kernel
theorem dX8_left_32 : decode cX8_left 32 = .ok (.aload_n 0, 1) := by decide +kernel
theorem dX8_left_33 : decode cX8_left 33 = .ok (.iload_n 1, 1) := by decide +kernel
theorem dX8_left_34 : decode cX8_left 34 = .ok (.iconst 1, 1) := by decide +kernel
theorem dX8_left_35 : decode cX8_left 35 = .ok (.iadd, 1) := by decide +kernel
theorem dX8_left_36 : decode cX8_left 36 = .ok (.iload_n 2, 1) := by decide +kernel
theorem dX8_left_37 : decode cX8_left 37 = .ok (.invokevirtual 165, 3) := by decide +kernel
theorem dX8_left_40 : decode cX8_left 40 = .ok (.iaload, 1) := by decide +kernel
theorem dX8_left_41 : decode cX8_left 41 = .ok (.iadd, 1) := by decide +kernel
theorem dX8_left_42 : decode cX8_left 42 = .ok (.istore_n 3, 1) := by decide +kernel
theorem dX8_left_43 : decode cX8_left 43 = .ok (.iload_n 1, 1) := by decide +kernel
theorem dX8_left_44 : decode cX8_left 44 = .ok (.aload_n 0, 1) := by decide +kernel
theorem dX8_left_45 : decode cX8_left 45 = .ok (.getfield 101, 3) := by decide +kernel
theorem dX8_left_48 : decode cX8_left 48 = .ok (.if_icmp .ge 157, 3) := by decide +kernel
theorem dX8_left_51 : decode cX8_left 51 = .ok (.aload_n 0, 1) := by decide +kernel
theorem dX8_left_52 : decode cX8_left 52 = .ok (.iload_n 2, 1) := by decide +kernel
theorem dX8_left_53 : decode cX8_left 53 = .ok (.invokevirtual 146, 3) := by decide +kernel
theorem dX8_left_56 : decode cX8_left 56 = .ok (.iconst 0, 1) := by decide +kernel
theorem dX8_left_57 : decode cX8_left 57 = .ok (.istore 4, 2) := by decide +kernel
theorem dX8_left_59 : decode cX8_left 59 = .ok (.iload 4, 2) := by decide +kernel
theorem dX8_left_61 : decode cX8_left 61 = .ok (.aload_n 0, 1) := by decide +kernel
theorem dX8_left_62 : decode cX8_left 62 = .ok (.getfield 112, 3) := by decide +kernel
theorem dX8_left_65 : decode cX8_left 65 = .ok (.if_icmp .ge 64, 3) := by decide +kernel
theorem dX8_left_68 : decode cX8_left 68 = .ok (.aload_n 0, 1) := by decide +kernel
theorem dX8_left_69 : decode cX8_left 69 = .ok (.getfield 62, 3) := by decide +kernel
theorem dX8_left_72 : decode cX8_left 72 = .ok (.iload 4, 2) := by decide +kernel
theorem dX8_left_74 : decode cX8_left 74 = .ok (.iaload, 1) := by decide +kernel
theorem dX8_left_75 : decode cX8_left 75 = .ok (.aload_n 0, 1) := by decide +kernel
theorem dX8_left_76 : decode cX8_left 76 = .ok (.aload_n 0, 1) := by decide +kernel
theorem dX8_left_77 : decode cX8_left 77 = .ok (.getfield 59, 3) := by decide +kernel
theorem dX8_left_80 : decode cX8_left 80 = .ok (.iload 4, 2) := by decide +kernel
theorem dX8_left_82 : decode cX8_left 82 = .ok (.iaload, 1) := by decide +kernel
theorem dX8_left_83 : decode cX8_left 83 = .ok (.iload_n 1, 1) := by decide +kernel
theorem dX8_left_84 : decode cX8_left 84 = .ok (.invokevirtual 149, 3) := by decide +kernel
theorem dX8_left_87 : decode cX8_left 87 = .ok (.iadd, 1) := by decide +kernel
theorem dX8_left_88 : decode cX8_left 88 = .ok (.aload_n 0, 1) := by decide +kernel
theorem dX8_left_89 : decode cX8_left 89 = .ok (.getfield 65, 3) := by decide +kernel
theorem dX8_left_92 : decode cX8_left 92 = .ok (.aload_n 0, 1) := by decide +kernel
theorem dX8_left_93 : decode cX8_left 93 = .ok (.iload_n 1, 1) := by decide +kernel
theorem dX8_left_94 : decode cX8_left 94 = .ok (.iconst 1, 1) := by decide +kernel
theorem dX8_left_95 : decode cX8_left 95 = .ok (.iadd, 1) := by decide +kernel
theorem dX8_left_96 : decode cX8_left 96 = .ok (.aload_n 0, 1) := by decide +kernel
theorem dX8_left_97 : decode cX8_left 97 = .ok (.getfield 59, 3) := by decide +kernel
theorem dX8_left_100 : decode cX8_left 100 = .ok (.iload 4, 2) := by decide +kernel
theorem dX8_left_102 : decode cX8_left 102 = .ok (.iaload, 1) := by decide +kernel
theorem dX8_left_103 : decode cX8_left 103 = .ok (.invokevirtual 165, 3) := by decide +kernel
theorem dX8_left_106 : decode cX8_left 106 = .ok (.iaload, 1) := by decide +kernel
theorem dX8_left_107 : decode cX8_left 107 = .ok (.iadd, 1) := by decide +kernel
theorem dX8_left_108 : decode cX8_left 108 = .ok (.istore 5, 2) := by decide +kernel
theorem dX8_left_110 : decode cX8_left 110 = .ok (.iload 5, 2) := by decide +kernel
theorem dX8_left_112 : decode cX8_left 112 = .ok (.iload_n 3, 1) := by decide +kernel
theorem dX8_left_113 : decode cX8_left 113 = .ok (.if_icmp .ge 8, 3) := by decide +kernel
theorem dX8_left_116 : decode cX8_left 116 = .ok (.iload 5, 2) := by decide +kernel
theorem dX8_left_118 : decode cX8_left 118 = .ok (.goto 4, 3) := by decide +kernel
theorem dX8_left_121 : decode cX8_left 121 = .ok (.iload_n 3, 1) := by decide +kernel
theorem dX8_left_122 : decode cX8_left 122 = .ok (.istore_n 3, 1) := by decide +kernel
theorem dX8_left_123 : decode cX8_left 123 = .ok (.iinc 4 1, 3) := by decide +kernel
theorem dX8_left_126 : decode cX8_left 126 = .ok (.goto (-67), 3) := by decide +kernel
theorem dX8_left_129 : decode cX8_left 129 = .ok (.iconst 0, 1) := by decide +kernel
theorem dX8_left_130 : decode cX8_left 130 = .ok (.istore 4, 2) := by decide +kernel
theorem dX8_left_132 : decode cX8_left 132 = .ok (.iload 4, 2) := by decide +kernel
theorem dX8_left_134 : decode cX8_left 134 = .ok (.aload_n 0, 1) := by decide +kernel
theorem dX8_left_135 : decode cX8_left 135 = .ok (.getfield 86, 3) := by decide +kernel
theorem dX8_left_138 : decode cX8_left 138 = .ok (.if_icmp .ge 67, 3) := by decide +kernel
theorem dX8_left_141 : decode cX8_left 141 = .ok (.aload_n 0, 1) := by decide +kernel
theorem dX8_left_142 : decode cX8_left 142 = .ok (.iload 4, 2) := by decide +kernel
theorem dX8_left_144 : decode cX8_left 144 = .ok (.invokevirtual 115, 3) := by decide +kernel
theorem dX8_left_147 : decode cX8_left 147 = .ok (.ifCond .eq 35, 3) := by decide +kernel
theorem dX8_left_150 : decode cX8_left 150 = .ok (.aload_n 0, 1) := by decide +kernel
theorem dX8_left_151 : decode cX8_left 151 = .ok (.getfield 35, 3) := by decide +kernel
theorem dX8_left_154 : decode cX8_left 154 = .ok (.iconst 4, 1) := by decide +kernel
theorem dX8_left_155 : decode cX8_left 155 = .ok (.iaload, 1) := by decide +kernel
theorem dX8_left_156 : decode cX8_left 156 = .ok (.aload_n 0, 1) := by decide +kernel
theorem dX8_left_157 : decode cX8_left 157 = .ok (.iload 4, 2) := by decide +kernel
theorem dX8_left_159 : decode cX8_left 159 = .ok (.iload_n 1, 1) := by decide +kernel
theorem dX8_left_160 : decode cX8_left 160 = .ok (.invokevirtual 149, 3) := by decide +kernel
theorem dX8_left_163 : decode cX8_left 163 = .ok (.iadd, 1) := by decide +kernel
theorem dX8_left_164 : decode cX8_left 164 = .ok (.aload_n 0, 1) := by decide +kernel
theorem dX8_left_165 : decode cX8_left 165 = .ok (.getfield 65, 3) := by decide +kernel
theorem dX8_left_168 : decode cX8_left 168 = .ok (.aload_n 0, 1) := by decide +kernel
theorem dX8_left_169 : decode cX8_left 169 = .ok (.iload_n 1, 1) := by decide +kernel
theorem dX8_left_170 : decode cX8_left 170 = .ok (.iconst 1, 1) := by decide +kernel
theorem dX8_left_171 : decode cX8_left 171 = .ok (.iadd, 1) := by decide +kernel
theorem dX8_left_172 : decode cX8_left 172 = .ok (.iload 4, 2) := by decide +kernel
theorem dX8_left_174 : decode cX8_left 174 = .ok (.invokevirtual 165, 3) := by decide +kernel
theorem dX8_left_177 : decode cX8_left 177 = .ok (.iaload, 1) := by decide +kernel
theorem dX8_left_178 : decode cX8_left 178 = .ok (.iadd, 1) := by decide +kernel
theorem dX8_left_179 : decode cX8_left 179 = .ok (.goto 5, 3) := by decide +kernel
theorem dX8_left_182 : decode cX8_left 182 = .ok (.ldc 123, 2) := by decide +kernel
theorem dX8_left_184 : decode cX8_left 184 = .ok (.istore 5, 2) := by decide +kernel
theorem dX8_left_186 : decode cX8_left 186 = .ok (.iload 5, 2) := by decide +kernel
theorem dX8_left_188 : decode cX8_left 188 = .ok (.iload_n 3, 1) := by decide +kernel
theorem dX8_left_189 : decode cX8_left 189 = .ok (.if_icmp .ge 8, 3) := by decide +kernel
theorem dX8_left_192 : decode cX8_left 192 = .ok (.iload 5, 2) := by decide +kernel
theorem dX8_left_194 : decode cX8_left 194 = .ok (.goto 4, 3) := by decide +kernel
theorem dX8_left_197 : decode cX8_left 197 = .ok (.iload_n 3, 1) := by decide +kernel
theorem dX8_left_198 : decode cX8_left 198 = .ok (.istore_n 3, 1) := by decide +kernel
theorem dX8_left_199 : decode cX8_left 199 = .ok (.iinc 4 1, 3) := by decide +kernel
theorem dX8_left_202 : decode cX8_left 202 = .ok (.goto (-70), 3) := by decide +kernel
theorem dX8_left_205 : decode cX8_left 205 = .ok (.aload_n 0, 1) := by decide +kernel
theorem dX8_left_206 : decode cX8_left 206 = .ok (.getfield 65, 3) := by decide +kernel
theorem dX8_left_209 : decode cX8_left 209 = .ok (.aload_n 0, 1) := by decide +kernel
theorem dX8_left_210 : decode cX8_left 210 = .ok (.iload_n 1, 1) := by decide +kernel
theorem dX8_left_211 : decode cX8_left 211 = .ok (.iload_n 2, 1) := by decide +kernel
theorem dX8_left_212 : decode cX8_left 212 = .ok (.invokevirtual 165, 3) := by decide +kernel
theorem dX8_left_215 : decode cX8_left 215 = .ok (.iload_n 3, 1) := by decide +kernel
theorem dX8_left_216 : decode cX8_left 216 = .ok (.iastore, 1) := by decide +kernel
theorem dX8_left_217 : decode cX8_left 217 = .ok (.iinc 2 1, 3) := by decide +kernel
theorem dX8_left_220 : decode cX8_left 220 = .ok (.goto (-218), 3) := by decide +kernel
theorem dX8_left_223 : decode cX8_left 223 = .ok (.iconst 1, 1) := by decide +kernel
theorem dX8_left_224 : decode cX8_left 224 = .ok (.istore_n 2, 1) := by decide +kernel
theorem dX8_left_225 : decode cX8_left 225 = .ok (.iload_n 2, 1) := by decide +kernel
theorem dX8_left_226 : decode cX8_left 226 = .ok (.ifCond .eq 148, 3) := by decide +kernel
theorem dX8_left_229 : decode cX8_left 229 = .ok (.iconst 0, 1) := by decide +kernel
theorem dX8_left_230 : decode cX8_left 230 = .ok (.istore_n 2, 1) := by decide +kernel
theorem dX8_left_231 : decode cX8_left 231 = .ok (.iconst (-1), 1) := by decide +kernel
theorem dX8_left_232 : decode cX8_left 232 = .ok (.istore_n 3, 1) := by decide +kernel
theorem dX8_left_233 : decode cX8_left 233 = .ok (.iload_n 3, 1) := by decide +kernel
theorem dX8_left_234 : decode cX8_left 234 = .ok (.aload_n 0, 1) := by decide +kernel
theorem dX8_left_235 : decode cX8_left 235 = .ok (.getfield 86, 3) := by decide +kernel
theorem dX8_left_238 : decode cX8_left 238 = .ok (.if_icmp .ge 133, 3) := by decide +kernel
theorem dX8_left_241 : decode cX8_left 241 = .ok (.aload_n 0, 1) := by decide +kernel
theorem dX8_left_242 : decode cX8_left 242 = .ok (.iload_n 3, 1) := by decide +kernel
theorem dX8_left_243 : decode cX8_left 243 = .ok (.invokevirtual 146, 3) := by decide +kernel
theorem dX8_left_246 : decode cX8_left 246 = .ok (.iconst 0, 1) := by decide +kernel
theorem dX8_left_247 : decode cX8_left 247 = .ok (.istore 4, 2) := by decide +kernel
theorem dX8_left_249 : decode cX8_left 249 = .ok (.iload 4, 2) := by decide +kernel
theorem dX8_left_251 : decode cX8_left 251 = .ok (.aload_n 0, 1) := by decide +kernel
theorem dX8_left_252 : decode cX8_left 252 = .ok (.getfield 112, 3) := by decide +kernel
theorem dX8_left_255 : decode cX8_left 255 = .ok (.if_icmp .ge 110, 3) := by decide +kernel
theorem dX8_left_258 : decode cX8_left 258 = .ok (.aload_n 0, 1) := by decide +kernel
theorem dX8_left_259 : decode cX8_left 259 = .ok (.getfield 62, 3) := by decide +kernel
theorem dX8_left_262 : decode cX8_left 262 = .ok (.iload 4, 2) := by decide +kernel
theorem dX8_left_264 : decode cX8_left 264 = .ok (.iaload, 1) := by decide +kernel
theorem dX8_left_265 : decode cX8_left 265 = .ok (.aload_n 0, 1) := by decide +kernel
theorem dX8_left_266 : decode cX8_left 266 = .ok (.getfield 35, 3) := by decide +kernel
theorem dX8_left_269 : decode cX8_left 269 = .ok (.iconst 2, 1) := by decide +kernel
theorem dX8_left_270 : decode cX8_left 270 = .ok (.iaload, 1) := by decide +kernel
theorem dX8_left_271 : decode cX8_left 271 = .ok (.iadd, 1) := by decide +kernel
theorem dX8_left_272 : decode cX8_left 272 = .ok (.aload_n 0, 1) := by decide +kernel
theorem dX8_left_273 : decode cX8_left 273 = .ok (.getfield 65, 3) := by decide +kernel
theorem dX8_left_276 : decode cX8_left 276 = .ok (.aload_n 0, 1) := by decide +kernel
theorem dX8_left_277 : decode cX8_left 277 = .ok (.iload_n 1, 1) := by decide +kernel
theorem dX8_left_278 : decode cX8_left 278 = .ok (.aload_n 0, 1) := by decide +kernel
theorem dX8_left_279 : decode cX8_left 279 = .ok (.getfield 59, 3) := by decide +kernel
theorem dX8_left_282 : decode cX8_left 282 = .ok (.iload 4, 2) := by decide +kernel
theorem dX8_left_284 : decode cX8_left 284 = .ok (.iaload, 1) := by decide +kernel
theorem dX8_left_285 : decode cX8_left 285 = .ok (.invokevirtual 165, 3) := by decide +kernel
theorem dX8_left_288 : decode cX8_left 288 = .ok (.iaload, 1) := by decide +kernel
theorem dX8_left_289 : decode cX8_left 289 = .ok (.iadd, 1) := by decide +kernel
theorem dX8_left_290 : decode cX8_left 290 = .ok (.istore 5, 2) := by decide +kernel
theorem dX8_left_292 : decode cX8_left 292 = .ok (.iload_n 2, 1) := by decide +kernel
theorem dX8_left_293 : decode cX8_left 293 = .ok (.iload 5, 2) := by decide +kernel
theorem dX8_left_295 : decode cX8_left 295 = .ok (.aload_n 0, 1) := by decide +kernel
theorem dX8_left_296 : decode cX8_left 296 = .ok (.getfield 65, 3) := by decide +kernel
theorem dX8_left_299 : decode cX8_left 299 = .ok (.aload_n 0, 1) := by decide +kernel
theorem dX8_left_300 : decode cX8_left 300 = .ok (.iload_n 1, 1) := by decide +kernel
theorem dX8_left_301 : decode cX8_left 301 = .ok (.iload_n 3, 1) := by decide +kernel
theorem dX8_left_302 : decode cX8_left 302 = .ok (.invokevirtual 165, 3) := by decide +kernel
theorem dX8_left_305 : decode cX8_left 305 = .ok (.iaload, 1) := by decide +kernel
theorem dX8_left_306 : decode cX8_left 306 = .ok (.if_icmp .ge 7, 3) := by decide +kernel
theorem dX8_left_309 : decode cX8_left 309 = .ok (.iconst 1, 1) := by decide +kernel
theorem dX8_left_310 : decode cX8_left 310 = .ok (.goto 4, 3) := by decide +kernel
theorem dX8_left_313 : decode cX8_left 313 = .ok (.iconst 0, 1) := by decide +kernel
theorem dX8_left_314 : decode cX8_left 314 = .ok (.ior, 1) := by decide +kernel
theorem dX8_left_315 : decode cX8_left 315 = .ok (.istore_n 2, 1) := by decide +kernel
theorem dX8_left_316 : decode cX8_left 316 = .ok (.aload_n 0, 1) := by decide +kernel
theorem dX8_left_317 : decode cX8_left 317 = .ok (.getfield 65, 3) := by decide +kernel
theorem dX8_left_320 : decode cX8_left 320 = .ok (.aload_n 0, 1) := by decide +kernel
theorem dX8_left_321 : decode cX8_left 321 = .ok (.iload_n 1, 1) := by decide +kernel
theorem dX8_left_322 : decode cX8_left 322 = .ok (.iload_n 3, 1) := by decide +kernel
theorem dX8_left_323 : decode cX8_left 323 = .ok (.invokevirtual 165, 3) := by decide +kernel
theorem dX8_left_326 : decode cX8_left 326 = .ok (.iload 5, 2) := by decide +kernel
theorem dX8_left_328 : decode cX8_left 328 = .ok (.aload_n 0, 1) := by decide +kernel
theorem dX8_left_329 : decode cX8_left 329 = .ok (.getfield 65, 3) := by decide +kernel
theorem dX8_left_332 : decode cX8_left 332 = .ok (.aload_n 0, 1) := by decide +kernel
theorem dX8_left_333 : decode cX8_left 333 = .ok (.iload_n 1, 1) := by decide +kernel
theorem dX8_left_334 : decode cX8_left 334 = .ok (.iload_n 3, 1) := by decide +kernel
theorem dX8_left_335 : decode cX8_left 335 = .ok (.invokevirtual 165, 3) := by decide +kernel
theorem dX8_left_338 : decode cX8_left 338 = .ok (.iaload, 1) := by decide +kernel
theorem dX8_left_339 : decode cX8_left 339 = .ok (.if_icmp .ge 8, 3) := by decide +kernel
theorem dX8_left_342 : decode cX8_left 342 = .ok (.iload 5, 2) := by decide +kernel
theorem dX8_left_344 : decode cX8_left 344 = .ok (.goto 14, 3) := by decide +kernel
theorem dX8_left_347 : decode cX8_left 347 = .ok (.aload_n 0, 1) := by decide +kernel
theorem dX8_left_348 : decode cX8_left 348 = .ok (.getfield 65, 3) := by decide +kernel
theorem dX8_left_351 : decode cX8_left 351 = .ok (.aload_n 0, 1) := by decide +kernel
theorem dX8_left_352 : decode cX8_left 352 = .ok (.iload_n 1, 1) := by decide +kernel
theorem dX8_left_353 : decode cX8_left 353 = .ok (.iload_n 3, 1) := by decide +kernel
theorem dX8_left_354 : decode cX8_left 354 = .ok (.invokevirtual 165, 3) := by decide +kernel
theorem dX8_left_357 : decode cX8_left 357 = .ok (.iaload, 1) := by decide +kernel
theorem dX8_left_358 : decode cX8_left 358 = .ok (.iastore, 1) := by decide +kernel
theorem dX8_left_359 : decode cX8_left 359 = .ok (.iinc 4 1, 3) := by decide +kernel
theorem dX8_left_362 : decode cX8_left 362 = .ok (.goto (-113), 3) := by decide +kernel
theorem dX8_left_365 : decode cX8_left 365 = .ok (.iinc 3 1, 3) := by decide +kernel
theorem dX8_left_368 : decode cX8_left 368 = .ok (.goto (-135), 3) := by decide +kernel
theorem dX8_left_371 : decode cX8_left 371 = .ok (.goto (-146), 3) := by decide +kernel
theorem dX8_left_374 : decode cX8_left 374 = .ok (.return_, 1) := by decide +kernel
theorem dX8_put_0 : decode cX8_put 0 = .ok (.aload_n 0, 1) := by decide +kernel
theorem dX8_put_1 : decode cX8_put 1 = .ok (.getfield 68, 3) := by decide +kernel
theorem dX8_put_4 : decode cX8_put 4 = .ok (.aload_n 0, 1) := by decide +kernel
theorem dX8_put_5 : decode cX8_put 5 = .ok (.getfield 168, 3) := by decide +kernel
theorem dX8_put_8 : decode cX8_put 8 = .ok (.iload_n 1, 1) := by decide +kernel
theorem dX8_put_9 : decode cX8_put 9 = .ok (.iastore, 1) := by decide +kernel
theorem dX8_put_10 : decode cX8_put 10 = .ok (.aload_n 0, 1) := by decide +kernel
theorem dX8_put_11 : decode cX8_put 11 = .ok (.getfield 71, 3) := by decide +kernel
theorem dX8_put_14 : decode cX8_put 14 = .ok (.aload_n 0, 1) := by decide +kernel
theorem dX8_put_15 : decode cX8_put 15 = .ok (.getfield 168, 3) := by decide +kernel
theorem dX8_put_18 : decode cX8_put 18 = .ok (.iload_n 2, 1) := by decide +kernel
theorem dX8_put_19 : decode cX8_put 19 = .ok (.iastore, 1) := by decide +kernel
theorem dX8_put_20 : decode cX8_put 20 = .ok (.aload_n 0, 1) := by decide +kernel
theorem dX8_put_21 : decode cX8_put 21 = .ok (.getfield 74, 3) := by decide +kernel
theorem dX8_put_24 : decode cX8_put 24 = .ok (.aload_n 0, 1) := by decide +kernel
theorem dX8_put_25 : decode cX8_put 25 = .ok (.getfield 168, 3) := by decide +kernel
theorem dX8_put_28 : decode cX8_put 28 = .ok (.iload_n 3, 1) := by decide +kernel
theorem dX8_put_29 : decode cX8_put 29 = .ok (.iastore, 1) := by decide +kernel
theorem dX8_put_30 : decode cX8_put 30 = .ok (.aload_n 0, 1) := by decide +kernel
theorem dX8_put_31 : decode cX8_put 31 = .ok (.getfield 77, 3) := by decide +kernel
theorem dX8_put_34 : decode cX8_put 34 = .ok (.aload_n 0, 1) := by decide +kernel
theorem dX8_put_35 : decode cX8_put 35 = .ok (.getfield 168, 3) := by decide +kernel
theorem dX8_put_38 : decode cX8_put 38 = .ok (.iload 4, 2) := by decide +kernel
theorem dX8_put_40 : decode cX8_put 40 = .ok (.iastore, 1) := by decide +kernel
theorem dX8_put_41 : decode cX8_put 41 = .ok (.aload_n 0, 1) := by decide +kernel
theorem dX8_put_42 : decode cX8_put 42 = .ok (.dup, 1) := by decide +kernel
theorem dX8_put_43 : decode cX8_put 43 = .ok (.getfield 168, 3) := by decide +kernel
theorem dX8_put_46 : decode cX8_put 46 = .ok (.iconst 1, 1) := by decide +kernel
theorem dX8_put_47 : decode cX8_put 47 = .ok (.iadd, 1) := by decide +kernel
theorem dX8_put_48 : decode cX8_put 48 = .ok (.putfield 168, 3) := by decide +kernel
theorem dX8_put_51 : decode cX8_put 51 = .ok (.return_, 1) := by decide +kernel
theorem dX8_choose__0 : decode cX8_choose_ 0 = .ok (.aload_n 0, 1) := by decide +kernel
theorem dX8_choose__1 : decode cX8_choose_ 1 = .ok (.getfield 65, 3) := by decide +kernel
theorem dX8_choose__4 : decode cX8_choose_ 4 = .ok (.aload_n 0, 1) := by decide +kernel
theorem dX8_choose__5 : decode cX8_choose_ 5 = .ok (.iload_n 1, 1) := by decide +kernel
theorem dX8_choose__6 : decode cX8_choose_ 6 = .ok (.iload_n 2, 1) := by decide +kernel
theorem dX8_choose__7 : decode cX8_choose_ 7 = .ok (.invokevirtual 165, 3) := by decide +kernel
theorem dX8_choose__10 : decode cX8_choose_ 10 = .ok (.iaload, 1) := by decide +kernel
theorem dX8_choose__11 : decode cX8_choose_ 11 = .ok (.istore_n 3, 1) := by decide +kernel
theorem dX8_choose__12 : decode cX8_choose_ 12 = .ok (.aload_n 0, 1) := by decide +kernel
theorem dX8_choose__13 : decode cX8_choose_ 13 = .ok (.iload_n 2, 1) := by decide +kernel
theorem dX8_choose__14 : decode cX8_choose_ 14 = .ok (.invokevirtual 146, 3) := by decide +kernel
theorem dX8_choose__17 : decode cX8_choose_ 17 = .ok (.iconst 0, 1) := by decide +kernel
theorem dX8_choose__18 : decode cX8_choose_ 18 = .ok (.istore 4, 2) := by decide +kernel
theorem dX8_choose__20 : decode cX8_choose_ 20 = .ok (.iload 4, 2) := by decide +kernel
theorem dX8_choose__22 : decode cX8_choose_ 22 = .ok (.aload_n 0, 1) := by decide +kernel
theorem dX8_choose__23 : decode cX8_choose_ 23 = .ok (.getfield 112, 3) := by decide +kernel
theorem dX8_choose__26 : decode cX8_choose_ 26 = .ok (.if_icmp .ge 73, 3) := by decide +kernel
theorem dX8_choose__29 : decode cX8_choose_ 29 = .ok (.aload_n 0, 1) := by decide +kernel
theorem dX8_choose__30 : decode cX8_choose_ 30 = .ok (.getfield 62, 3) := by decide +kernel
theorem dX8_choose__33 : decode cX8_choose_ 33 = .ok (.iload 4, 2) := by decide +kernel
theorem dX8_choose__35 : decode cX8_choose_ 35 = .ok (.iaload, 1) := by decide +kernel
theorem dX8_choose__36 : decode cX8_choose_ 36 = .ok (.aload_n 0, 1) := by decide +kernel
theorem dX8_choose__37 : decode cX8_choose_ 37 = .ok (.aload_n 0, 1) := by decide +kernel
theorem dX8_choose__38 : decode cX8_choose_ 38 = .ok (.getfield 59, 3) := by decide +kernel
theorem dX8_choose__41 : decode cX8_choose_ 41 = .ok (.iload 4, 2) := by decide +kernel
theorem dX8_choose__43 : decode cX8_choose_ 43 = .ok (.iaload, 1) := by decide +kernel
theorem dX8_choose__44 : decode cX8_choose_ 44 = .ok (.iload_n 1, 1) := by decide +kernel
theorem dX8_choose__45 : decode cX8_choose_ 45 = .ok (.invokevirtual 149, 3) := by decide +kernel
theorem dX8_choose__48 : decode cX8_choose_ 48 = .ok (.iadd, 1) := by decide +kernel
theorem dX8_choose__49 : decode cX8_choose_ 49 = .ok (.istore 5, 2) := by decide +kernel
theorem dX8_choose__51 : decode cX8_choose_ 51 = .ok (.iload 5, 2) := by decide +kernel
theorem dX8_choose__53 : decode cX8_choose_ 53 = .ok (.aload_n 0, 1) := by decide +kernel
theorem dX8_choose__54 : decode cX8_choose_ 54 = .ok (.getfield 65, 3) := by decide +kernel
theorem dX8_choose__57 : decode cX8_choose_ 57 = .ok (.aload_n 0, 1) := by decide +kernel
theorem dX8_choose__58 : decode cX8_choose_ 58 = .ok (.iload_n 1, 1) := by decide +kernel
theorem dX8_choose__59 : decode cX8_choose_ 59 = .ok (.iconst 1, 1) := by decide +kernel
theorem dX8_choose__60 : decode cX8_choose_ 60 = .ok (.iadd, 1) := by decide +kernel
theorem dX8_choose__61 : decode cX8_choose_ 61 = .ok (.aload_n 0, 1) := by decide +kernel
theorem dX8_choose__62 : decode cX8_choose_ 62 = .ok (.getfield 59, 3) := by decide +kernel
theorem dX8_choose__65 : decode cX8_choose_ 65 = .ok (.iload 4, 2) := by decide +kernel
theorem dX8_choose__67 : decode cX8_choose_ 67 = .ok (.iaload, 1) := by decide +kernel
theorem dX8_choose__68 : decode cX8_choose_ 68 = .ok (.invokevirtual 165, 3) := by decide +kernel
theorem dX8_choose__71 : decode cX8_choose_ 71 = .ok (.iaload, 1) := by decide +kernel
theorem dX8_choose__72 : decode cX8_choose_ 72 = .ok (.iadd, 1) := by decide +kernel
theorem dX8_choose__73 : decode cX8_choose_ 73 = .ok (.iload_n 3, 1) := by decide +kernel
theorem dX8_choose__74 : decode cX8_choose_ 74 = .ok (.if_icmp .ne 19, 3) := by decide +kernel
theorem dX8_choose__77 : decode cX8_choose_ 77 = .ok (.aload_n 0, 1) := by decide +kernel
theorem dX8_choose__78 : decode cX8_choose_ 78 = .ok (.iconst 0, 1) := by decide +kernel
theorem dX8_choose__79 : decode cX8_choose_ 79 = .ok (.aload_n 0, 1) := by decide +kernel
theorem dX8_choose__80 : decode cX8_choose_ 80 = .ok (.getfield 59, 3) := by decide +kernel
theorem dX8_choose__83 : decode cX8_choose_ 83 = .ok (.iload 4, 2) := by decide +kernel
theorem dX8_choose__85 : decode cX8_choose_ 85 = .ok (.iaload, 1) := by decide +kernel
theorem dX8_choose__86 : decode cX8_choose_ 86 = .ok (.iload_n 1, 1) := by decide +kernel
theorem dX8_choose__87 : decode cX8_choose_ 87 = .ok (.iload 5, 2) := by decide +kernel
theorem dX8_choose__89 : decode cX8_choose_ 89 = .ok (.invokevirtual 171, 3) := by decide +kernel
theorem dX8_choose__92 : decode cX8_choose_ 92 = .ok (.return_, 1) := by decide +kernel
theorem dX8_choose__93 : decode cX8_choose_ 93 = .ok (.iinc 4 1, 3) := by decide +kernel
theorem dX8_choose__96 : decode cX8_choose_ 96 = .ok (.goto (-76), 3) := by decide +kernel
theorem dX8_choose__99 : decode cX8_choose_ 99 = .ok (.aload_n 0, 1) := by decide +kernel
theorem dX8_choose__100 : decode cX8_choose_ 100 = .ok (.getfield 35, 3) := by decide +kernel
theorem dX8_choose__103 : decode cX8_choose_ 103 = .ok (.iconst 1, 1) := by decide +kernel
theorem dX8_choose__104 : decode cX8_choose_ 104 = .ok (.iaload, 1) := by decide +kernel
theorem dX8_choose__105 : decode cX8_choose_ 105 = .ok (.aload_n 0, 1) := by decide +kernel
theorem dX8_choose__106 : decode cX8_choose_ 106 = .ok (.getfield 65, 3) := by decide +kernel
theorem dX8_choose__109 : decode cX8_choose_ 109 = .ok (.aload_n 0, 1) := by decide +kernel
theorem dX8_choose__110 : decode cX8_choose_ 110 = .ok (.iload_n 1, 1) := by decide +kernel
theorem dX8_choose__111 : decode cX8_choose_ 111 = .ok (.iconst 1, 1) := by decide +kernel
theorem dX8_choose__112 : decode cX8_choose_ 112 = .ok (.iadd, 1) := by decide +kernel
theorem dX8_choose__113 : decode cX8_choose_ 113 = .ok (.iload_n 2, 1) := by decide +kernel
theorem dX8_choose__114 : decode cX8_choose_ 114 = .ok (.invokevirtual 165, 3) := by decide +kernel
theorem dX8_choose__117 : decode cX8_choose_ 117 = .ok (.iaload, 1) := by decide +kernel
theorem dX8_choose__118 : decode cX8_choose_ 118 = .ok (.iadd, 1) := by decide +kernel
theorem dX8_choose__119 : decode cX8_choose_ 119 = .ok (.iload_n 3, 1) := by decide +kernel
theorem dX8_choose__120 : decode cX8_choose_ 120 = .ok (.if_icmp .ne 17, 3) := by decide +kernel
theorem dX8_choose__123 : decode cX8_choose_ 123 = .ok (.aload_n 0, 1) := by decide +kernel
theorem dX8_choose__124 : decode cX8_choose_ 124 = .ok (.iconst 1, 1) := by decide +kernel
theorem dX8_choose__125 : decode cX8_choose_ 125 = .ok (.iload_n 2, 1) := by decide +kernel
theorem dX8_choose__126 : decode cX8_choose_ 126 = .ok (.iload_n 1, 1) := by decide +kernel
theorem dX8_choose__127 : decode cX8_choose_ 127 = .ok (.aload_n 0, 1) := by decide +kernel
theorem dX8_choose__128 : decode cX8_choose_ 128 = .ok (.getfield 35, 3) := by decide +kernel
theorem dX8_choose__131 : decode cX8_choose_ 131 = .ok (.iconst 1, 1) := by decide +kernel
theorem dX8_choose__132 : decode cX8_choose_ 132 = .ok (.iaload, 1) := by decide +kernel
theorem dX8_choose__133 : decode cX8_choose_ 133 = .ok (.invokevirtual 171, 3) := by decide +kernel
theorem dX8_choose__136 : decode cX8_choose_ 136 = .ok (.return_, 1) := by decide +kernel
theorem dX8_choose__137 : decode cX8_choose_ 137 = .ok (.iconst 0, 1) := by decide +kernel
theorem dX8_choose__138 : decode cX8_choose_ 138 = .ok (.istore 4, 2) := by decide +kernel
theorem dX8_choose__140 : decode cX8_choose_ 140 = .ok (.iload 4, 2) := by decide +kernel
theorem dX8_choose__142 : decode cX8_choose_ 142 = .ok (.aload_n 0, 1) := by decide +kernel
theorem dX8_choose__143 : decode cX8_choose_ 143 = .ok (.getfield 112, 3) := by decide +kernel
theorem dX8_choose__146 : decode cX8_choose_ 146 = .ok (.if_icmp .ge 65, 3) := by decide +kernel
theorem dX8_choose__149 : decode cX8_choose_ 149 = .ok (.aload_n 0, 1) := by decide +kernel
theorem dX8_choose__150 : decode cX8_choose_ 150 = .ok (.getfield 62, 3) := by decide +kernel
theorem dX8_choose__153 : decode cX8_choose_ 153 = .ok (.iload 4, 2) := by decide +kernel
theorem dX8_choose__155 : decode cX8_choose_ 155 = .ok (.iaload, 1) := by decide +kernel
theorem dX8_choose__156 : decode cX8_choose_ 156 = .ok (.aload_n 0, 1) := by decide +kernel
theorem dX8_choose__157 : decode cX8_choose_ 157 = .ok (.getfield 35, 3) := by decide +kernel
theorem dX8_choose__160 : decode cX8_choose_ 160 = .ok (.iconst 2, 1) := by decide +kernel
theorem dX8_choose__161 : decode cX8_choose_ 161 = .ok (.iaload, 1) := by decide +kernel
theorem dX8_choose__162 : decode cX8_choose_ 162 = .ok (.iadd, 1) := by decide +kernel
theorem dX8_choose__163 : decode cX8_choose_ 163 = .ok (.istore 5, 2) := by decide +kernel
theorem dX8_choose__165 : decode cX8_choose_ 165 = .ok (.iload 5, 2) := by decide +kernel
theorem dX8_choose__167 : decode cX8_choose_ 167 = .ok (.aload_n 0, 1) := by decide +kernel
theorem dX8_choose__168 : decode cX8_choose_ 168 = .ok (.getfield 65, 3) := by decide +kernel
theorem dX8_choose__171 : decode cX8_choose_ 171 = .ok (.aload_n 0, 1) := by decide +kernel
theorem dX8_choose__172 : decode cX8_choose_ 172 = .ok (.iload_n 1, 1) := by decide +kernel
theorem dX8_choose__173 : decode cX8_choose_ 173 = .ok (.aload_n 0, 1) := by decide +kernel
theorem dX8_choose__174 : decode cX8_choose_ 174 = .ok (.getfield 59, 3) := by decide +kernel
theorem dX8_choose__177 : decode cX8_choose_ 177 = .ok (.iload 4, 2) := by decide +kernel
theorem dX8_choose__179 : decode cX8_choose_ 179 = .ok (.iaload, 1) := by decide +kernel
theorem dX8_choose__180 : decode cX8_choose_ 180 = .ok (.invokevirtual 165, 3) := by decide +kernel
theorem dX8_choose__183 : decode cX8_choose_ 183 = .ok (.iaload, 1) := by decide +kernel
theorem dX8_choose__184 : decode cX8_choose_ 184 = .ok (.iadd, 1) := by decide +kernel
theorem dX8_choose__185 : decode cX8_choose_ 185 = .ok (.iload_n 3, 1) := by decide +kernel
theorem dX8_choose__186 : decode cX8_choose_ 186 = .ok (.if_icmp .ne 19, 3) := by decide +kernel
theorem dX8_choose__189 : decode cX8_choose_ 189 = .ok (.aload_n 0, 1) := by decide +kernel
theorem dX8_choose__190 : decode cX8_choose_ 190 = .ok (.iconst 2, 1) := by decide +kernel
theorem dX8_choose__191 : decode cX8_choose_ 191 = .ok (.aload_n 0, 1) := by decide +kernel
theorem dX8_choose__192 : decode cX8_choose_ 192 = .ok (.getfield 59, 3) := by decide +kernel
theorem dX8_choose__195 : decode cX8_choose_ 195 = .ok (.iload 4, 2) := by decide +kernel
theorem dX8_choose__197 : decode cX8_choose_ 197 = .ok (.iaload, 1) := by decide +kernel
theorem dX8_choose__198 : decode cX8_choose_ 198 = .ok (.iconst (-1), 1) := by decide +kernel
theorem dX8_choose__199 : decode cX8_choose_ 199 = .ok (.iload 5, 2) := by decide +kernel
theorem dX8_choose__201 : decode cX8_choose_ 201 = .ok (.invokevirtual 171, 3) := by decide +kernel
theorem dX8_choose__204 : decode cX8_choose_ 204 = .ok (.return_, 1) := by decide +kernel
theorem dX8_choose__205 : decode cX8_choose_ 205 = .ok (.iinc 4 1, 3) := by decide +kernel
theorem dX8_choose__208 : decode cX8_choose_ 208 = .ok (.goto (-68), 3) := by decide +kernel
theorem dX8_choose__211 : decode cX8_choose_ 211 = .ok (.iconst 0, 1) := by decide +kernel
theorem dX8_choose__212 : decode cX8_choose_ 212 = .ok (.istore 4, 2) := by decide +kernel
theorem dX8_choose__214 : decode cX8_choose_ 214 = .ok (.iload 4, 2) := by decide +kernel
theorem dX8_choose__216 : decode cX8_choose_ 216 = .ok (.aload_n 0, 1) := by decide +kernel
theorem dX8_choose__217 : decode cX8_choose_ 217 = .ok (.getfield 86, 3) := by decide +kernel
theorem dX8_choose__220 : decode cX8_choose_ 220 = .ok (.if_icmp .ge 78, 3) := by decide +kernel
theorem dX8_choose__223 : decode cX8_choose_ 223 = .ok (.aload_n 0, 1) := by decide +kernel
theorem dX8_choose__224 : decode cX8_choose_ 224 = .ok (.iload 4, 2) := by decide +kernel
theorem dX8_choose__226 : decode cX8_choose_ 226 = .ok (.invokevirtual 115, 3) := by decide +kernel
theorem dX8_choose__229 : decode cX8_choose_ 229 = .ok (.ifCond .eq 20, 3) := by decide +kernel
theorem dX8_choose__232 : decode cX8_choose_ 232 = .ok (.aload_n 0, 1) := by decide +kernel
theorem dX8_choose__233 : decode cX8_choose_ 233 = .ok (.getfield 35, 3) := by decide +kernel
theorem dX8_choose__236 : decode cX8_choose_ 236 = .ok (.iconst 4, 1) := by decide +kernel
theorem dX8_choose__237 : decode cX8_choose_ 237 = .ok (.iaload, 1) := by decide +kernel
theorem dX8_choose__238 : decode cX8_choose_ 238 = .ok (.aload_n 0, 1) := by decide +kernel
theorem dX8_choose__239 : decode cX8_choose_ 239 = .ok (.iload 4, 2) := by decide +kernel
theorem dX8_choose__241 : decode cX8_choose_ 241 = .ok (.iload_n 1, 1) := by decide +kernel
theorem dX8_choose__242 : decode cX8_choose_ 242 = .ok (.invokevirtual 149, 3) := by decide +kernel
theorem dX8_choose__245 : decode cX8_choose_ 245 = .ok (.iadd, 1) := by decide +kernel
theorem dX8_choose__246 : decode cX8_choose_ 246 = .ok (.goto 5, 3) := by decide +kernel
theorem dX8_choose__249 : decode cX8_choose_ 249 = .ok (.ldc 123, 2) := by decide +kernel
theorem dX8_choose__251 : decode cX8_choose_ 251 = .ok (.istore 5, 2) := by decide +kernel
theorem dX8_choose__253 : decode cX8_choose_ 253 = .ok (.iload 5, 2) := by decide +kernel
theorem dX8_choose__255 : decode cX8_choose_ 255 = .ok (.ldc 123, 2) := by decide +kernel
theorem dX8_choose__257 : decode cX8_choose_ 257 = .ok (.if_icmp .ge 35, 3) := by decide +kernel
theorem dX8_choose__260 : decode cX8_choose_ 260 = .ok (.iload 5, 2) := by decide +kernel
theorem dX8_choose__262 : decode cX8_choose_ 262 = .ok (.aload_n 0, 1) := by decide +kernel
theorem dX8_choose__263 : decode cX8_choose_ 263 = .ok (.getfield 65, 3) := by decide +kernel
theorem dX8_choose__266 : decode cX8_choose_ 266 = .ok (.aload_n 0, 1) := by decide +kernel
theorem dX8_choose__267 : decode cX8_choose_ 267 = .ok (.iload_n 1, 1) := by decide +kernel
theorem dX8_choose__268 : decode cX8_choose_ 268 = .ok (.iconst 1, 1) := by decide +kernel
theorem dX8_choose__269 : decode cX8_choose_ 269 = .ok (.iadd, 1) := by decide +kernel
theorem dX8_choose__270 : decode cX8_choose_ 270 = .ok (.iload 4, 2) := by decide +kernel
theorem dX8_choose__272 : decode cX8_choose_ 272 = .ok (.invokevirtual 165, 3) := by decide +kernel
theorem dX8_choose__275 : decode cX8_choose_ 275 = .ok (.iaload, 1) := by decide +kernel
theorem dX8_choose__276 : decode cX8_choose_ 276 = .ok (.iadd, 1) := by decide +kernel
theorem dX8_choose__277 : decode cX8_choose_ 277 = .ok (.iload_n 3, 1) := by decide +kernel
theorem dX8_choose__278 : decode cX8_choose_ 278 = .ok (.if_icmp .ne 14, 3) := by decide +kernel
theorem dX8_choose__281 : decode cX8_choose_ 281 = .ok (.aload_n 0, 1) := by decide +kernel
theorem dX8_choose__282 : decode cX8_choose_ 282 = .ok (.iconst 3, 1) := by decide +kernel
theorem dX8_choose__283 : decode cX8_choose_ 283 = .ok (.iload 4, 2) := by decide +kernel
theorem dX8_choose__285 : decode cX8_choose_ 285 = .ok (.iload_n 1, 1) := by decide +kernel
theorem dX8_choose__286 : decode cX8_choose_ 286 = .ok (.iload 5, 2) := by decide +kernel
theorem dX8_choose__288 : decode cX8_choose_ 288 = .ok (.invokevirtual 171, 3) := by decide +kernel
theorem dX8_choose__291 : decode cX8_choose_ 291 = .ok (.return_, 1) := by decide +kernel
theorem dX8_choose__292 : decode cX8_choose_ 292 = .ok (.iinc 4 1, 3) := by decide +kernel
theorem dX8_choose__295 : decode cX8_choose_ 295 = .ok (.goto (-81), 3) := by decide +kernel
theorem dX8_choose__298 : decode cX8_choose_ 298 = .ok (.return_, 1) := by decide +kernel
theorem dX8_align_0 : decode cX8_align 0 = .ok (.aload_n 0, 1) := by decide +kernel
theorem dX8_align_1 : decode cX8_align 1 = .ok (.iconst 0, 1) := by decide +kernel
theorem dX8_align_2 : decode cX8_align 2 = .ok (.putfield 83, 3) := by decide +kernel
theorem dX8_align_5 : decode cX8_align 5 = .ok (.aload_n 0, 1) := by decide +kernel
theorem dX8_align_6 : decode cX8_align 6 = .ok (.getfield 86, 3) := by decide +kernel
theorem dX8_align_9 : decode cX8_align 9 = .ok (.ifCond .ne 6, 3) := by decide +kernel
theorem dX8_align_12 : decode cX8_align 12 = .ok (.bipush (-3), 2) := by decide +kernel
theorem dX8_align_14 : decode cX8_align 14 = .ok (.ireturn, 1) := by decide +kernel
theorem dX8_align_15 : decode cX8_align 15 = .ok (.aload_n 0, 1) := by decide +kernel
theorem dX8_align_16 : decode cX8_align 16 = .ok (.getfield 101, 3) := by decide +kernel
theorem dX8_align_19 : decode cX8_align 19 = .ok (.istore_n 1, 1) := by decide +kernel
theorem dX8_align_20 : decode cX8_align 20 = .ok (.iload_n 1, 1) := by decide +kernel
theorem dX8_align_21 : decode cX8_align 21 = .ok (.ifCond .lt 14, 3) := by decide +kernel
theorem dX8_align_24 : decode cX8_align 24 = .ok (.aload_n 0, 1) := by decide +kernel
theorem dX8_align_25 : decode cX8_align 25 = .ok (.iload_n 1, 1) := by decide +kernel
theorem dX8_align_26 : decode cX8_align 26 = .ok (.invokevirtual 175, 3) := by decide +kernel
theorem dX8_align_29 : decode cX8_align 29 = .ok (.iinc 1 (-1), 3) := by decide +kernel
theorem dX8_align_32 : decode cX8_align 32 = .ok (.goto (-12), 3) := by decide +kernel
theorem dX8_align_35 : decode cX8_align 35 = .ok (.aload_n 0, 1) := by decide +kernel
theorem dX8_align_36 : decode cX8_align 36 = .ok (.iconst 0, 1) := by decide +kernel
theorem dX8_align_37 : decode cX8_align 37 = .ok (.putfield 168, 3) := by decide +kernel
theorem dX8_align_40 : decode cX8_align 40 = .ok (.aload_n 0, 1) := by decide +kernel
theorem dX8_align_41 : decode cX8_align 41 = .ok (.aload_n 0, 1) := by decide +kernel
theorem dX8_align_42 : decode cX8_align 42 = .ok (.getfield 65, 3) := by decide +kernel
theorem dX8_align_45 : decode cX8_align 45 = .ok (.aload_n 0, 1) := by decide +kernel
theorem dX8_align_46 : decode cX8_align 46 = .ok (.iconst 0, 1) := by decide +kernel
theorem dX8_align_47 : decode cX8_align 47 = .ok (.iconst (-1), 1) := by decide +kernel
theorem dX8_align_48 : decode cX8_align 48 = .ok (.invokevirtual 165, 3) := by decide +kernel
theorem dX8_align_51 : decode cX8_align 51 = .ok (.iaload, 1) := by decide +kernel
theorem dX8_align_52 : decode cX8_align 52 = .ok (.putfield 178, 3) := by decide +kernel
theorem dX8_align_55 : decode cX8_align 55 = .ok (.iconst 0, 1) := by decide +kernel
theorem dX8_align_56 : decode cX8_align 56 = .ok (.istore_n 1, 1) := by decide +kernel
theorem dX8_align_57 : decode cX8_align 57 = .ok (.iconst (-1), 1) := by decide +kernel
theorem dX8_align_58 : decode cX8_align 58 = .ok (.istore_n 2, 1) := by decide +kernel
theorem dX8_align_59 : decode cX8_align 59 = .ok (.iload_n 1, 1) := by decide +kernel
theorem dX8_align_60 : decode cX8_align 60 = .ok (.aload_n 0, 1) := by decide +kernel
theorem dX8_align_61 : decode cX8_align 61 = .ok (.getfield 101, 3) := by decide +kernel
theorem dX8_align_64 : decode cX8_align 64 = .ok (.if_icmp .ge 46, 3) := by decide +kernel
theorem dX8_align_67 : decode cX8_align 67 = .ok (.aload_n 0, 1) := by decide +kernel
theorem dX8_align_68 : decode cX8_align 68 = .ok (.iload_n 1, 1) := by decide +kernel
theorem dX8_align_69 : decode cX8_align 69 = .ok (.iload_n 2, 1) := by decide +kernel
theorem dX8_align_70 : decode cX8_align 70 = .ok (.invokevirtual 181, 3) := by decide +kernel
theorem dX8_align_73 : decode cX8_align 73 = .ok (.aload_n 0, 1) := by decide +kernel
theorem dX8_align_74 : decode cX8_align 74 = .ok (.getfield 71, 3) := by decide +kernel
theorem dX8_align_77 : decode cX8_align 77 = .ok (.aload_n 0, 1) := by decide +kernel
theorem dX8_align_78 : decode cX8_align 78 = .ok (.getfield 168, 3) := by decide +kernel
theorem dX8_align_81 : decode cX8_align 81 = .ok (.iconst 1, 1) := by decide +kernel
theorem dX8_align_82 : decode cX8_align 82 = .ok (.isub, 1) := by decide +kernel
theorem dX8_align_83 : decode cX8_align 83 = .ok (.iaload, 1) := by decide +kernel
theorem dX8_align_84 : decode cX8_align 84 = .ok (.istore_n 2, 1) := by decide +kernel
theorem dX8_align_85 : decode cX8_align 85 = .ok (.iload_n 1, 1) := by decide +kernel
theorem dX8_align_86 : decode cX8_align 86 = .ok (.aload_n 0, 1) := by decide +kernel
theorem dX8_align_87 : decode cX8_align 87 = .ok (.getfield 74, 3) := by decide +kernel
theorem dX8_align_90 : decode cX8_align 90 = .ok (.aload_n 0, 1) := by decide +kernel
theorem dX8_align_91 : decode cX8_align 91 = .ok (.getfield 168, 3) := by decide +kernel
theorem dX8_align_94 : decode cX8_align 94 = .ok (.iconst 1, 1) := by decide +kernel
theorem dX8_align_95 : decode cX8_align 95 = .ok (.isub, 1) := by decide +kernel
theorem dX8_align_96 : decode cX8_align 96 = .ok (.iaload, 1) := by decide +kernel
theorem dX8_align_97 : decode cX8_align 97 = .ok (.ifCond .lt 7, 3) := by decide +kernel
theorem dX8_align_100 : decode cX8_align 100 = .ok (.iconst 1, 1) := by decide +kernel
theorem dX8_align_101 : decode cX8_align 101 = .ok (.goto 4, 3) := by decide +kernel
theorem dX8_align_104 : decode cX8_align 104 = .ok (.iconst 0, 1) := by decide +kernel
theorem dX8_align_105 : decode cX8_align 105 = .ok (.iadd, 1) := by decide +kernel
theorem dX8_align_106 : decode cX8_align 106 = .ok (.istore_n 1, 1) := by decide +kernel
theorem dX8_align_107 : decode cX8_align 107 = .ok (.goto (-48), 3) := by decide +kernel
theorem dX8_align_110 : decode cX8_align 110 = .ok (.aload_n 0, 1) := by decide +kernel
theorem dX8_align_111 : decode cX8_align 111 = .ok (.iconst 1, 1) := by decide +kernel
theorem dX8_align_112 : decode cX8_align 112 = .ok (.putfield 104, 3) := by decide +kernel
theorem dX8_align_115 : decode cX8_align 115 = .ok (.aload_n 0, 1) := by decide +kernel
theorem dX8_align_116 : decode cX8_align 116 = .ok (.getfield 178, 3) := by decide +kernel
theorem dX8_align_119 : decode cX8_align 119 = .ok (.ireturn, 1) := by decide +kernel
theorem dX8_step_0 : decode cX8_step 0 = .ok (.aload_n 0, 1) := by decide +kernel
theorem dX8_step_1 : decode cX8_step 1 = .ok (.iconst 0, 1) := by decide +kernel
theorem dX8_step_2 : decode cX8_step 2 = .ok (.putfield 83, 3) := by decide +kernel
theorem dX8_step_5 : decode cX8_step 5 = .ok (.iload_n 1, 1) := by decide +kernel
theorem dX8_step_6 : decode cX8_step 6 = .ok (.ifCond .lt 27, 3) := by decide +kernel
theorem dX8_step_9 : decode cX8_step 9 = .ok (.iload_n 2, 1) := by decide +kernel
theorem dX8_step_10 : decode cX8_step 10 = .ok (.ifCond .lt 23, 3) := by decide +kernel
theorem dX8_step_13 : decode cX8_step 13 = .ok (.iload_n 2, 1) := by decide +kernel
theorem dX8_step_14 : decode cX8_step 14 = .ok (.iconst 3, 1) := by decide +kernel
theorem dX8_step_15 : decode cX8_step 15 = .ok (.if_icmp .gt 18, 3) := by decide +kernel
theorem dX8_step_18 : decode cX8_step 18 = .ok (.aload_n 0, 1) := by decide +kernel
theorem dX8_step_19 : decode cX8_step 19 = .ok (.getfield 104, 3) := by decide +kernel
theorem dX8_step_22 : decode cX8_step 22 = .ok (.ifCond .eq 14, 3) := by decide +kernel
theorem dX8_step_25 : decode cX8_step 25 = .ok (.iload_n 1, 1) := by decide +kernel
theorem dX8_step_26 : decode cX8_step 26 = .ok (.aload_n 0, 1) := by decide +kernel
theorem dX8_step_27 : decode cX8_step 27 = .ok (.getfield 168, 3) := by decide +kernel
theorem dX8_step_30 : decode cX8_step 30 = .ok (.if_icmp .lt 6, 3) := by decide +kernel
theorem dX8_step_33 : decode cX8_step 33 = .ok (.bipush (-2), 2) := by decide +kernel
theorem dX8_step_35 : decode cX8_step 35 = .ok (.ireturn, 1) := by decide +kernel
theorem dX8_step_36 : decode cX8_step 36 = .ok (.aload_n 0, 1) := by decide +kernel
theorem dX8_step_37 : decode cX8_step 37 = .ok (.getfield 104, 3) := by decide +kernel
theorem dX8_step_40 : decode cX8_step 40 = .ok (.ifCond .ne 6, 3) := by decide +kernel
theorem dX8_step_43 : decode cX8_step 43 = .ok (.bipush (-3), 2) := by decide +kernel
theorem dX8_step_45 : decode cX8_step 45 = .ok (.ireturn, 1) := by decide +kernel
theorem dX8_step_46 : decode cX8_step 46 = .ok (.iload_n 2, 1) := by decide +kernel
theorem dX8_step_47 : decode cX8_step 47 = .ok (.ifCond .ne 12, 3) := by decide +kernel
theorem dX8_step_50 : decode cX8_step 50 = .ok (.aload_n 0, 1) := by decide +kernel
theorem dX8_step_51 : decode cX8_step 51 = .ok (.getfield 68, 3) := by decide +kernel
theorem dX8_step_54 : decode cX8_step 54 = .ok (.iload_n 1, 1) := by decide +kernel
theorem dX8_step_55 : decode cX8_step 55 = .ok (.iaload, 1) := by decide +kernel
theorem dX8_step_56 : decode cX8_step 56 = .ok (.goto 37, 3) := by decide +kernel
theorem dX8_step_59 : decode cX8_step 59 = .ok (.iload_n 2, 1) := by decide +kernel
theorem dX8_step_60 : decode cX8_step 60 = .ok (.iconst 1, 1) := by decide +kernel
theorem dX8_step_61 : decode cX8_step 61 = .ok (.if_icmp .ne 12, 3) := by decide +kernel
theorem dX8_step_64 : decode cX8_step 64 = .ok (.aload_n 0, 1) := by decide +kernel
theorem dX8_step_65 : decode cX8_step 65 = .ok (.getfield 71, 3) := by decide +kernel
theorem dX8_step_68 : decode cX8_step 68 = .ok (.iload_n 1, 1) := by decide +kernel
theorem dX8_step_69 : decode cX8_step 69 = .ok (.iaload, 1) := by decide +kernel
theorem dX8_step_70 : decode cX8_step 70 = .ok (.goto 23, 3) := by decide +kernel
theorem dX8_step_73 : decode cX8_step 73 = .ok (.iload_n 2, 1) := by decide +kernel
theorem dX8_step_74 : decode cX8_step 74 = .ok (.iconst 2, 1) := by decide +kernel
theorem dX8_step_75 : decode cX8_step 75 = .ok (.if_icmp .ne 12, 3) := by decide +kernel
theorem dX8_step_78 : decode cX8_step 78 = .ok (.aload_n 0, 1) := by decide +kernel
theorem dX8_step_79 : decode cX8_step 79 = .ok (.getfield 74, 3) := by decide +kernel
theorem dX8_step_82 : decode cX8_step 82 = .ok (.iload_n 1, 1) := by decide +kernel
theorem dX8_step_83 : decode cX8_step 83 = .ok (.iaload, 1) := by decide +kernel
theorem dX8_step_84 : decode cX8_step 84 = .ok (.goto 9, 3) := by decide +kernel
theorem dX8_step_87 : decode cX8_step 87 = .ok (.aload_n 0, 1) := by decide +kernel
theorem dX8_step_88 : decode cX8_step 88 = .ok (.getfield 77, 3) := by decide +kernel
theorem dX8_step_91 : decode cX8_step 91 = .ok (.iload_n 1, 1) := by decide +kernel
theorem dX8_step_92 : decode cX8_step 92 = .ok (.iaload, 1) := by decide +kernel
theorem dX8_step_93 : decode cX8_step 93 = .ok (.ireturn, 1) := by decide +kernel
theorem dX8_steps_0 : decode cX8_steps 0 = .ok (.aload_n 0, 1) := by decide +kernel
theorem dX8_steps_1 : decode cX8_steps 1 = .ok (.iconst 0, 1) := by decide +kernel
theorem dX8_steps_2 : decode cX8_steps 2 = .ok (.putfield 83, 3) := by decide +kernel
theorem dX8_steps_5 : decode cX8_steps 5 = .ok (.aload_n 0, 1) := by decide +kernel
theorem dX8_steps_6 : decode cX8_steps 6 = .ok (.getfield 104, 3) := by decide +kernel
theorem dX8_steps_9 : decode cX8_steps 9 = .ok (.ifCond .eq 10, 3) := by decide +kernel
theorem dX8_steps_12 : decode cX8_steps 12 = .ok (.aload_n 0, 1) := by decide +kernel
theorem dX8_steps_13 : decode cX8_steps 13 = .ok (.getfield 168, 3) := by decide +kernel
theorem dX8_steps_16 : decode cX8_steps 16 = .ok (.goto 5, 3) := by decide +kernel
theorem dX8_steps_19 : decode cX8_steps 19 = .ok (.bipush (-3), 2) := by decide +kernel
theorem dX8_steps_21 : decode cX8_steps 21 = .ok (.ireturn, 1) := by decide +kernel
theorem dX8_matched_0 : decode cX8_matched 0 = .ok (.aload_n 0, 1) := by decide +kernel
theorem dX8_matched_1 : decode cX8_matched 1 = .ok (.iconst 0, 1) := by decide +kernel
theorem dX8_matched_2 : decode cX8_matched 2 = .ok (.putfield 83, 3) := by decide +kernel
theorem dX8_matched_5 : decode cX8_matched 5 = .ok (.iload_n 1, 1) := by decide +kernel
theorem dX8_matched_6 : decode cX8_matched 6 = .ok (.ifCond .lt 11, 3) := by decide +kernel
theorem dX8_matched_9 : decode cX8_matched 9 = .ok (.iload_n 1, 1) := by decide +kernel
theorem dX8_matched_10 : decode cX8_matched 10 = .ok (.aload_n 0, 1) := by decide +kernel
theorem dX8_matched_11 : decode cX8_matched 11 = .ok (.getfield 101, 3) := by decide +kernel
theorem dX8_matched_14 : decode cX8_matched 14 = .ok (.if_icmp .lt 6, 3) := by decide +kernel
theorem dX8_matched_17 : decode cX8_matched 17 = .ok (.bipush (-2), 2) := by decide +kernel
theorem dX8_matched_19 : decode cX8_matched 19 = .ok (.ireturn, 1) := by decide +kernel
theorem dX8_matched_20 : decode cX8_matched 20 = .ok (.aload_n 0, 1) := by decide +kernel
theorem dX8_matched_21 : decode cX8_matched 21 = .ok (.getfield 104, 3) := by decide +kernel
theorem dX8_matched_24 : decode cX8_matched 24 = .ok (.ifCond .ne 6, 3) := by decide +kernel
theorem dX8_matched_27 : decode cX8_matched 27 = .ok (.bipush (-3), 2) := by decide +kernel
theorem dX8_matched_29 : decode cX8_matched 29 = .ok (.ireturn, 1) := by decide +kernel
theorem dX8_matched_30 : decode cX8_matched 30 = .ok (.iconst (-1), 1) := by decide +kernel
theorem dX8_matched_31 : decode cX8_matched 31 = .ok (.istore_n 2, 1) := by decide +kernel
theorem dX8_matched_32 : decode cX8_matched 32 = .ok (.iconst 0, 1) := by decide +kernel
theorem dX8_matched_33 : decode cX8_matched 33 = .ok (.istore_n 3, 1) := by decide +kernel
theorem dX8_matched_34 : decode cX8_matched 34 = .ok (.iload_n 3, 1) := by decide +kernel
theorem dX8_matched_35 : decode cX8_matched 35 = .ok (.aload_n 0, 1) := by decide +kernel
theorem dX8_matched_36 : decode cX8_matched 36 = .ok (.getfield 168, 3) := by decide +kernel
theorem dX8_matched_39 : decode cX8_matched 39 = .ok (.if_icmp .ge 40, 3) := by decide +kernel
theorem dX8_matched_42 : decode cX8_matched 42 = .ok (.aload_n 0, 1) := by decide +kernel
theorem dX8_matched_43 : decode cX8_matched 43 = .ok (.getfield 74, 3) := by decide +kernel
theorem dX8_matched_46 : decode cX8_matched 46 = .ok (.iload_n 3, 1) := by decide +kernel
theorem dX8_matched_47 : decode cX8_matched 47 = .ok (.iaload, 1) := by decide +kernel
theorem dX8_matched_48 : decode cX8_matched 48 = .ok (.iload_n 1, 1) := by decide +kernel
theorem dX8_matched_49 : decode cX8_matched 49 = .ok (.if_icmp .ne 22, 3) := by decide +kernel
theorem dX8_matched_52 : decode cX8_matched 52 = .ok (.aload_n 0, 1) := by decide +kernel
theorem dX8_matched_53 : decode cX8_matched 53 = .ok (.getfield 68, 3) := by decide +kernel
theorem dX8_matched_56 : decode cX8_matched 56 = .ok (.iload_n 3, 1) := by decide +kernel
theorem dX8_matched_57 : decode cX8_matched 57 = .ok (.iaload, 1) := by decide +kernel
theorem dX8_matched_58 : decode cX8_matched 58 = .ok (.iconst 1, 1) := by decide +kernel
theorem dX8_matched_59 : decode cX8_matched 59 = .ok (.if_icmp .eq 12, 3) := by decide +kernel
theorem dX8_matched_62 : decode cX8_matched 62 = .ok (.aload_n 0, 1) := by decide +kernel
theorem dX8_matched_63 : decode cX8_matched 63 = .ok (.getfield 71, 3) := by decide +kernel
theorem dX8_matched_66 : decode cX8_matched 66 = .ok (.iload_n 3, 1) := by decide +kernel
theorem dX8_matched_67 : decode cX8_matched 67 = .ok (.iaload, 1) := by decide +kernel
theorem dX8_matched_68 : decode cX8_matched 68 = .ok (.goto 4, 3) := by decide +kernel
theorem dX8_matched_71 : decode cX8_matched 71 = .ok (.iload_n 2, 1) := by decide +kernel
theorem dX8_matched_72 : decode cX8_matched 72 = .ok (.istore_n 2, 1) := by decide +kernel
theorem dX8_matched_73 : decode cX8_matched 73 = .ok (.iinc 3 1, 3) := by decide +kernel
theorem dX8_matched_76 : decode cX8_matched 76 = .ok (.goto (-42), 3) := by decide +kernel
theorem dX8_matched_79 : decode cX8_matched 79 = .ok (.iload_n 2, 1) := by decide +kernel
theorem dX8_matched_80 : decode cX8_matched 80 = .ok (.ireturn, 1) := by decide +kernel
theorem dX8_count_0 : decode cX8_count 0 = .ok (.iconst 0, 1) := by decide +kernel
theorem dX8_count_1 : decode cX8_count 1 = .ok (.istore_n 3, 1) := by decide +kernel
theorem dX8_count_2 : decode cX8_count 2 = .ok (.iconst 0, 1) := by decide +kernel
theorem dX8_count_3 : decode cX8_count 3 = .ok (.istore 4, 2) := by decide +kernel
theorem dX8_count_5 : decode cX8_count 5 = .ok (.iload 4, 2) := by decide +kernel
theorem dX8_count_7 : decode cX8_count 7 = .ok (.aload_n 0, 1) := by decide +kernel
theorem dX8_count_8 : decode cX8_count 8 = .ok (.getfield 168, 3) := by decide +kernel
theorem dX8_count_11 : decode cX8_count 11 = .ok (.if_icmp .ge 122, 3) := by decide +kernel
theorem dX8_count_14 : decode cX8_count 14 = .ok (.aload_n 0, 1) := by decide +kernel
theorem dX8_count_15 : decode cX8_count 15 = .ok (.getfield 68, 3) := by decide +kernel
theorem dX8_count_18 : decode cX8_count 18 = .ok (.iload 4, 2) := by decide +kernel
theorem dX8_count_20 : decode cX8_count 20 = .ok (.iaload, 1) := by decide +kernel
theorem dX8_count_21 : decode cX8_count 21 = .ok (.ifCond .eq 14, 3) := by decide +kernel
theorem dX8_count_24 : decode cX8_count 24 = .ok (.aload_n 0, 1) := by decide +kernel
theorem dX8_count_25 : decode cX8_count 25 = .ok (.getfield 68, 3) := by decide +kernel
theorem dX8_count_28 : decode cX8_count 28 = .ok (.iload 4, 2) := by decide +kernel
theorem dX8_count_30 : decode cX8_count 30 = .ok (.iaload, 1) := by decide +kernel
theorem dX8_count_31 : decode cX8_count 31 = .ok (.iconst 3, 1) := by decide +kernel
theorem dX8_count_32 : decode cX8_count 32 = .ok (.if_icmp .ne 7, 3) := by decide +kernel
theorem dX8_count_35 : decode cX8_count 35 = .ok (.iconst 1, 1) := by decide +kernel
theorem dX8_count_36 : decode cX8_count 36 = .ok (.goto 4, 3) := by decide +kernel
theorem dX8_count_39 : decode cX8_count 39 = .ok (.iconst 0, 1) := by decide +kernel
theorem dX8_count_40 : decode cX8_count 40 = .ok (.istore 5, 2) := by decide +kernel
theorem dX8_count_42 : decode cX8_count 42 = .ok (.iload_n 2, 1) := by decide +kernel
theorem dX8_count_43 : decode cX8_count 43 = .ok (.iconst 2, 1) := by decide +kernel
theorem dX8_count_44 : decode cX8_count 44 = .ok (.if_icmp .ne 22, 3) := by decide +kernel
theorem dX8_count_47 : decode cX8_count 47 = .ok (.aload_n 0, 1) := by decide +kernel
theorem dX8_count_48 : decode cX8_count 48 = .ok (.getfield 68, 3) := by decide +kernel
theorem dX8_count_51 : decode cX8_count 51 = .ok (.iload 4, 2) := by decide +kernel
theorem dX8_count_53 : decode cX8_count 53 = .ok (.iaload, 1) := by decide +kernel
theorem dX8_count_54 : decode cX8_count 54 = .ok (.iconst 2, 1) := by decide +kernel
theorem dX8_count_55 : decode cX8_count 55 = .ok (.if_icmp .ne 7, 3) := by decide +kernel
theorem dX8_count_58 : decode cX8_count 58 = .ok (.iconst 1, 1) := by decide +kernel
theorem dX8_count_59 : decode cX8_count 59 = .ok (.goto 42, 3) := by decide +kernel
theorem dX8_count_62 : decode cX8_count 62 = .ok (.iconst 0, 1) := by decide +kernel
theorem dX8_count_63 : decode cX8_count 63 = .ok (.goto 38, 3) := by decide +kernel
theorem dX8_count_66 : decode cX8_count 66 = .ok (.iload 5, 2) := by decide +kernel
theorem dX8_count_68 : decode cX8_count 68 = .ok (.ifCond .eq 32, 3) := by decide +kernel
theorem dX8_count_71 : decode cX8_count 71 = .ok (.iload_n 2, 1) := by decide +kernel
theorem dX8_count_72 : decode cX8_count 72 = .ok (.ifCond .eq 24, 3) := by decide +kernel
theorem dX8_count_75 : decode cX8_count 75 = .ok (.aload_n 0, 1) := by decide +kernel
theorem dX8_count_76 : decode cX8_count 76 = .ok (.getfield 38, 3) := by decide +kernel
theorem dX8_count_79 : decode cX8_count 79 = .ok (.aload_n 0, 1) := by decide +kernel
theorem dX8_count_80 : decode cX8_count 80 = .ok (.getfield 74, 3) := by decide +kernel
theorem dX8_count_83 : decode cX8_count 83 = .ok (.iload 4, 2) := by decide +kernel
theorem dX8_count_85 : decode cX8_count 85 = .ok (.iaload, 1) := by decide +kernel
theorem dX8_count_86 : decode cX8_count 86 = .ok (.iaload, 1) := by decide +kernel
theorem dX8_count_87 : decode cX8_count 87 = .ok (.aload_n 0, 1) := by decide +kernel
theorem dX8_count_88 : decode cX8_count 88 = .ok (.getfield 7, 3) := by decide +kernel
theorem dX8_count_91 : decode cX8_count 91 = .ok (.iload_n 1, 1) := by decide +kernel
theorem dX8_count_92 : decode cX8_count 92 = .ok (.iaload, 1) := by decide +kernel
theorem dX8_count_93 : decode cX8_count 93 = .ok (.if_icmp .ne 7, 3) := by decide +kernel
theorem dX8_count_96 : decode cX8_count 96 = .ok (.iconst 1, 1) := by decide +kernel
theorem dX8_count_97 : decode cX8_count 97 = .ok (.goto 4, 3) := by decide +kernel
theorem dX8_count_100 : decode cX8_count 100 = .ok (.iconst 0, 1) := by decide +kernel
theorem dX8_count_101 : decode cX8_count 101 = .ok (.istore 6, 2) := by decide +kernel
theorem dX8_count_103 : decode cX8_count 103 = .ok (.iload_n 3, 1) := by decide +kernel
theorem dX8_count_104 : decode cX8_count 104 = .ok (.iload 6, 2) := by decide +kernel
theorem dX8_count_106 : decode cX8_count 106 = .ok (.ifCond .eq 18, 3) := by decide +kernel
theorem dX8_count_109 : decode cX8_count 109 = .ok (.aload_n 0, 1) := by decide +kernel
theorem dX8_count_110 : decode cX8_count 110 = .ok (.getfield 71, 3) := by decide +kernel
theorem dX8_count_113 : decode cX8_count 113 = .ok (.iload 4, 2) := by decide +kernel
theorem dX8_count_115 : decode cX8_count 115 = .ok (.iaload, 1) := by decide +kernel
theorem dX8_count_116 : decode cX8_count 116 = .ok (.iload_n 1, 1) := by decide +kernel
theorem dX8_count_117 : decode cX8_count 117 = .ok (.if_icmp .ne 7, 3) := by decide +kernel
theorem dX8_count_120 : decode cX8_count 120 = .ok (.iconst 1, 1) := by decide +kernel
theorem dX8_count_121 : decode cX8_count 121 = .ok (.goto 4, 3) := by decide +kernel
theorem dX8_count_124 : decode cX8_count 124 = .ok (.iconst 0, 1) := by decide +kernel
theorem dX8_count_125 : decode cX8_count 125 = .ok (.iadd, 1) := by decide +kernel
theorem dX8_count_126 : decode cX8_count 126 = .ok (.istore_n 3, 1) := by decide +kernel
theorem dX8_count_127 : decode cX8_count 127 = .ok (.iinc 4 1, 3) := by decide +kernel
theorem dX8_count_130 : decode cX8_count 130 = .ok (.goto (-125), 3) := by decide +kernel
theorem dX8_count_133 : decode cX8_count 133 = .ok (.iload_n 3, 1) := by decide +kernel
theorem dX8_count_134 : decode cX8_count 134 = .ok (.ireturn, 1) := by decide +kernel
theorem dX8_grade_0 : decode cX8_grade 0 = .ok (.aload_n 0, 1) := by decide +kernel
theorem dX8_grade_1 : decode cX8_grade 1 = .ok (.iconst 0, 1) := by decide +kernel
theorem dX8_grade_2 : decode cX8_grade 2 = .ok (.putfield 83, 3) := by decide +kernel
theorem dX8_grade_5 : decode cX8_grade 5 = .ok (.iload_n 1, 1) := by decide +kernel
theorem dX8_grade_6 : decode cX8_grade 6 = .ok (.ifCond .lt 20, 3) := by decide +kernel
theorem dX8_grade_9 : decode cX8_grade 9 = .ok (.iload_n 1, 1) := by decide +kernel
theorem dX8_grade_10 : decode cX8_grade 10 = .ok (.aload_n 0, 1) := by decide +kernel
theorem dX8_grade_11 : decode cX8_grade 11 = .ok (.getfield 86, 3) := by decide +kernel
theorem dX8_grade_14 : decode cX8_grade 14 = .ok (.if_icmp .ge 12, 3) := by decide +kernel
theorem dX8_grade_17 : decode cX8_grade 17 = .ok (.iload_n 2, 1) := by decide +kernel
theorem dX8_grade_18 : decode cX8_grade 18 = .ok (.ifCond .lt 8, 3) := by decide +kernel
theorem dX8_grade_21 : decode cX8_grade 21 = .ok (.iload_n 2, 1) := by decide +kernel
theorem dX8_grade_22 : decode cX8_grade 22 = .ok (.iconst 2, 1) := by decide +kernel
theorem dX8_grade_23 : decode cX8_grade 23 = .ok (.if_icmp .le 6, 3) := by decide +kernel
theorem dX8_grade_26 : decode cX8_grade 26 = .ok (.bipush (-2), 2) := by decide +kernel
theorem dX8_grade_28 : decode cX8_grade 28 = .ok (.ireturn, 1) := by decide +kernel
theorem dX8_grade_29 : decode cX8_grade 29 = .ok (.aload_n 0, 1) := by decide +kernel
theorem dX8_grade_30 : decode cX8_grade 30 = .ok (.getfield 104, 3) := by decide +kernel
theorem dX8_grade_33 : decode cX8_grade 33 = .ok (.ifCond .eq 12, 3) := by decide +kernel
theorem dX8_grade_36 : decode cX8_grade 36 = .ok (.aload_n 0, 1) := by decide +kernel
theorem dX8_grade_37 : decode cX8_grade 37 = .ok (.iload_n 1, 1) := by decide +kernel
theorem dX8_grade_38 : decode cX8_grade 38 = .ok (.iload_n 2, 1) := by decide +kernel
theorem dX8_grade_39 : decode cX8_grade 39 = .ok (.invokevirtual 183, 3) := by decide +kernel
theorem dX8_grade_42 : decode cX8_grade 42 = .ok (.goto 5, 3) := by decide +kernel
theorem dX8_grade_45 : decode cX8_grade 45 = .ok (.bipush (-3), 2) := by decide +kernel
theorem dX8_grade_47 : decode cX8_grade 47 = .ok (.ireturn, 1) := by decide +kernel
theorem dX8_mean_0 : decode cX8_mean 0 = .ok (.aload_n 0, 1) := by decide +kernel
theorem dX8_mean_1 : decode cX8_mean 1 = .ok (.iconst 0, 1) := by decide +kernel
theorem dX8_mean_2 : decode cX8_mean 2 = .ok (.putfield 83, 3) := by decide +kernel
theorem dX8_mean_5 : decode cX8_mean 5 = .ok (.iload_n 1, 1) := by decide +kernel
theorem dX8_mean_6 : decode cX8_mean 6 = .ok (.ifCond .eq 11, 3) := by decide +kernel
theorem dX8_mean_9 : decode cX8_mean 9 = .ok (.iload_n 1, 1) := by decide +kernel
theorem dX8_mean_10 : decode cX8_mean 10 = .ok (.iconst 1, 1) := by decide +kernel
theorem dX8_mean_11 : decode cX8_mean 11 = .ok (.if_icmp .eq 6, 3) := by decide +kernel
theorem dX8_mean_14 : decode cX8_mean 14 = .ok (.bipush (-2), 2) := by decide +kernel
theorem dX8_mean_16 : decode cX8_mean 16 = .ok (.ireturn, 1) := by decide +kernel
theorem dX8_mean_17 : decode cX8_mean 17 = .ok (.aload_n 0, 1) := by decide +kernel
theorem dX8_mean_18 : decode cX8_mean 18 = .ok (.getfield 104, 3) := by decide +kernel
theorem dX8_mean_21 : decode cX8_mean 21 = .ok (.ifCond .ne 6, 3) := by decide +kernel
theorem dX8_mean_24 : decode cX8_mean 24 = .ok (.bipush (-3), 2) := by decide +kernel
theorem dX8_mean_26 : decode cX8_mean 26 = .ok (.ireturn, 1) := by decide +kernel
theorem dX8_mean_27 : decode cX8_mean 27 = .ok (.iconst 0, 1) := by decide +kernel
theorem dX8_mean_28 : decode cX8_mean 28 = .ok (.istore_n 2, 1) := by decide +kernel
theorem dX8_mean_29 : decode cX8_mean 29 = .ok (.iconst 0, 1) := by decide +kernel
theorem dX8_mean_30 : decode cX8_mean 30 = .ok (.istore_n 3, 1) := by decide +kernel
theorem dX8_mean_31 : decode cX8_mean 31 = .ok (.iconst 0, 1) := by decide +kernel
theorem dX8_mean_32 : decode cX8_mean 32 = .ok (.istore 4, 2) := by decide +kernel
theorem dX8_mean_34 : decode cX8_mean 34 = .ok (.iload 4, 2) := by decide +kernel
theorem dX8_mean_36 : decode cX8_mean 36 = .ok (.aload_n 0, 1) := by decide +kernel
theorem dX8_mean_37 : decode cX8_mean 37 = .ok (.getfield 86, 3) := by decide +kernel
theorem dX8_mean_40 : decode cX8_mean 40 = .ok (.if_icmp .ge 29, 3) := by decide +kernel
theorem dX8_mean_43 : decode cX8_mean 43 = .ok (.iload_n 2, 1) := by decide +kernel
theorem dX8_mean_44 : decode cX8_mean 44 = .ok (.aload_n 0, 1) := by decide +kernel
theorem dX8_mean_45 : decode cX8_mean 45 = .ok (.iload 4, 2) := by decide +kernel
theorem dX8_mean_47 : decode cX8_mean 47 = .ok (.iconst 0, 1) := by decide +kernel
theorem dX8_mean_48 : decode cX8_mean 48 = .ok (.invokevirtual 183, 3) := by decide +kernel
theorem dX8_mean_51 : decode cX8_mean 51 = .ok (.iadd, 1) := by decide +kernel
theorem dX8_mean_52 : decode cX8_mean 52 = .ok (.istore_n 2, 1) := by decide +kernel
theorem dX8_mean_53 : decode cX8_mean 53 = .ok (.iload_n 3, 1) := by decide +kernel
theorem dX8_mean_54 : decode cX8_mean 54 = .ok (.aload_n 0, 1) := by decide +kernel
theorem dX8_mean_55 : decode cX8_mean 55 = .ok (.iload 4, 2) := by decide +kernel
theorem dX8_mean_57 : decode cX8_mean 57 = .ok (.iconst 1, 1) := by decide +kernel
theorem dX8_mean_58 : decode cX8_mean 58 = .ok (.invokevirtual 183, 3) := by decide +kernel
theorem dX8_mean_61 : decode cX8_mean 61 = .ok (.iadd, 1) := by decide +kernel
theorem dX8_mean_62 : decode cX8_mean 62 = .ok (.istore_n 3, 1) := by decide +kernel
theorem dX8_mean_63 : decode cX8_mean 63 = .ok (.iinc 4 1, 3) := by decide +kernel
theorem dX8_mean_66 : decode cX8_mean 66 = .ok (.goto (-32), 3) := by decide +kernel
theorem dX8_mean_69 : decode cX8_mean 69 = .ok (.iload_n 2, 1) := by decide +kernel
theorem dX8_mean_70 : decode cX8_mean 70 = .ok (.ifCond .ne 10, 3) := by decide +kernel
theorem dX8_mean_73 : decode cX8_mean 73 = .ok (.aload_n 0, 1) := by decide +kernel
theorem dX8_mean_74 : decode cX8_mean 74 = .ok (.iconst 1, 1) := by decide +kernel
theorem dX8_mean_75 : decode cX8_mean 75 = .ok (.putfield 83, 3) := by decide +kernel
theorem dX8_mean_78 : decode cX8_mean 78 = .ok (.iconst 0, 1) := by decide +kernel
theorem dX8_mean_79 : decode cX8_mean 79 = .ok (.ireturn, 1) := by decide +kernel
theorem dX8_mean_80 : decode cX8_mean 80 = .ok (.iload_n 3, 1) := by decide +kernel
theorem dX8_mean_81 : decode cX8_mean 81 = .ok (.iload_n 2, 1) := by decide +kernel
theorem dX8_mean_82 : decode cX8_mean 82 = .ok (.invokestatic 154, 3) := by decide +kernel
theorem dX8_mean_85 : decode cX8_mean 85 = .ok (.istore 4, 2) := by decide +kernel
theorem dX8_mean_87 : decode cX8_mean 87 = .ok (.iload_n 1, 1) := by decide +kernel
theorem dX8_mean_88 : decode cX8_mean 88 = .ok (.ifCond .ne 10, 3) := by decide +kernel
theorem dX8_mean_91 : decode cX8_mean 91 = .ok (.iload_n 3, 1) := by decide +kernel
theorem dX8_mean_92 : decode cX8_mean 92 = .ok (.iload 4, 2) := by decide +kernel
theorem dX8_mean_94 : decode cX8_mean 94 = .ok (.idiv, 1) := by decide +kernel
theorem dX8_mean_95 : decode cX8_mean 95 = .ok (.goto 7, 3) := by decide +kernel
theorem dX8_mean_98 : decode cX8_mean 98 = .ok (.iload_n 2, 1) := by decide +kernel
theorem dX8_mean_99 : decode cX8_mean 99 = .ok (.iload 4, 2) := by decide +kernel
theorem dX8_mean_101 : decode cX8_mean 101 = .ok (.idiv, 1) := by decide +kernel
theorem dX8_mean_102 : decode cX8_mean 102 = .ok (.ireturn, 1) := by decide +kernel
theorem dX8_end_0 : decode cX8_end 0 = .ok (.aload_n 0, 1) := by decide +kernel
theorem dX8_end_1 : decode cX8_end 1 = .ok (.iconst 0, 1) := by decide +kernel
theorem dX8_end_2 : decode cX8_end 2 = .ok (.putfield 83, 3) := by decide +kernel
theorem dX8_end_5 : decode cX8_end 5 = .ok (.aload_n 0, 1) := by decide +kernel
theorem dX8_end_6 : decode cX8_end 6 = .ok (.getfield 104, 3) := by decide +kernel
theorem dX8_end_9 : decode cX8_end 9 = .ok (.ifCond .eq 10, 3) := by decide +kernel
theorem dX8_end_12 : decode cX8_end 12 = .ok (.aload_n 0, 1) := by decide +kernel
theorem dX8_end_13 : decode cX8_end 13 = .ok (.getfield 101, 3) := by decide +kernel
theorem dX8_end_16 : decode cX8_end 16 = .ok (.ifCond .ne 6, 3) := by decide +kernel
theorem dX8_end_19 : decode cX8_end 19 = .ok (.bipush (-3), 2) := by decide +kernel
theorem dX8_end_21 : decode cX8_end 21 = .ok (.ireturn, 1) := by decide +kernel
theorem dX8_end_22 : decode cX8_end 22 = .ok (.iconst 0, 1) := by decide +kernel
theorem dX8_end_23 : decode cX8_end 23 = .ok (.istore_n 1, 1) := by decide +kernel
theorem dX8_end_24 : decode cX8_end 24 = .ok (.iload_n 1, 1) := by decide +kernel
theorem dX8_end_25 : decode cX8_end 25 = .ok (.aload_n 0, 1) := by decide +kernel
theorem dX8_end_26 : decode cX8_end 26 = .ok (.getfield 86, 3) := by decide +kernel
theorem dX8_end_29 : decode cX8_end 29 = .ok (.if_icmp .ge 118, 3) := by decide +kernel
theorem dX8_end_32 : decode cX8_end 32 = .ok (.aload_n 0, 1) := by decide +kernel
theorem dX8_end_33 : decode cX8_end 33 = .ok (.iload_n 1, 1) := by decide +kernel
theorem dX8_end_34 : decode cX8_end 34 = .ok (.iconst 0, 1) := by decide +kernel
theorem dX8_end_35 : decode cX8_end 35 = .ok (.invokevirtual 183, 3) := by decide +kernel
theorem dX8_end_38 : decode cX8_end 38 = .ok (.istore_n 2, 1) := by decide +kernel
theorem dX8_end_39 : decode cX8_end 39 = .ok (.aload_n 0, 1) := by decide +kernel
theorem dX8_end_40 : decode cX8_end 40 = .ok (.iload_n 1, 1) := by decide +kernel
theorem dX8_end_41 : decode cX8_end 41 = .ok (.iconst 2, 1) := by decide +kernel
theorem dX8_end_42 : decode cX8_end 42 = .ok (.invokevirtual 183, 3) := by decide +kernel
theorem dX8_end_45 : decode cX8_end 45 = .ok (.istore_n 3, 1) := by decide +kernel
theorem dX8_end_46 : decode cX8_end 46 = .ok (.iload_n 2, 1) := by decide +kernel
theorem dX8_end_47 : decode cX8_end 47 = .ok (.ifCond .le 67, 3) := by decide +kernel
theorem dX8_end_50 : decode cX8_end 50 = .ok (.aload_n 0, 1) := by decide +kernel
theorem dX8_end_51 : decode cX8_end 51 = .ok (.iload_n 1, 1) := by decide +kernel
theorem dX8_end_52 : decode cX8_end 52 = .ok (.iconst 1, 1) := by decide +kernel
theorem dX8_end_53 : decode cX8_end 53 = .ok (.invokevirtual 183, 3) := by decide +kernel
theorem dX8_end_56 : decode cX8_end 56 = .ok (.iload_n 2, 1) := by decide +kernel
theorem dX8_end_57 : decode cX8_end 57 = .ok (.if_icmp .ne 57, 3) := by decide +kernel
theorem dX8_end_60 : decode cX8_end 60 = .ok (.iload_n 3, 1) := by decide +kernel
theorem dX8_end_61 : decode cX8_end 61 = .ok (.ifCond .ne 53, 3) := by decide +kernel
theorem dX8_end_64 : decode cX8_end 64 = .ok (.aload_n 0, 1) := by decide +kernel
theorem dX8_end_65 : decode cX8_end 65 = .ok (.getfield 16, 3) := by decide +kernel
theorem dX8_end_68 : decode cX8_end 68 = .ok (.iload_n 1, 1) := by decide +kernel
theorem dX8_end_69 : decode cX8_end 69 = .ok (.aload_n 0, 1) := by decide +kernel
theorem dX8_end_70 : decode cX8_end 70 = .ok (.getfield 16, 3) := by decide +kernel
theorem dX8_end_73 : decode cX8_end 73 = .ok (.iload_n 1, 1) := by decide +kernel
theorem dX8_end_74 : decode cX8_end 74 = .ok (.iaload, 1) := by decide +kernel
theorem dX8_end_75 : decode cX8_end 75 = .ok (.iconst 5, 1) := by decide +kernel
theorem dX8_end_76 : decode cX8_end 76 = .ok (.if_icmp .ge 14, 3) := by decide +kernel
theorem dX8_end_79 : decode cX8_end 79 = .ok (.aload_n 0, 1) := by decide +kernel
theorem dX8_end_80 : decode cX8_end 80 = .ok (.getfield 16, 3) := by decide +kernel
theorem dX8_end_83 : decode cX8_end 83 = .ok (.iload_n 1, 1) := by decide +kernel
theorem dX8_end_84 : decode cX8_end 84 = .ok (.iaload, 1) := by decide +kernel
theorem dX8_end_85 : decode cX8_end 85 = .ok (.iconst 1, 1) := by decide +kernel
theorem dX8_end_86 : decode cX8_end 86 = .ok (.iadd, 1) := by decide +kernel
theorem dX8_end_87 : decode cX8_end 87 = .ok (.goto 4, 3) := by decide +kernel
theorem dX8_end_90 : decode cX8_end 90 = .ok (.iconst 5, 1) := by decide +kernel
theorem dX8_end_91 : decode cX8_end 91 = .ok (.iastore, 1) := by decide +kernel
theorem dX8_end_92 : decode cX8_end 92 = .ok (.aload_n 0, 1) := by decide +kernel
theorem dX8_end_93 : decode cX8_end 93 = .ok (.getfield 19, 3) := by decide +kernel
theorem dX8_end_96 : decode cX8_end 96 = .ok (.iload_n 1, 1) := by decide +kernel
theorem dX8_end_97 : decode cX8_end 97 = .ok (.aload_n 0, 1) := by decide +kernel
theorem dX8_end_98 : decode cX8_end 98 = .ok (.getfield 95, 3) := by decide +kernel
theorem dX8_end_101 : decode cX8_end 101 = .ok (.iconst 1, 1) := by decide +kernel
theorem dX8_end_102 : decode cX8_end 102 = .ok (.aload_n 0, 1) := by decide +kernel
theorem dX8_end_103 : decode cX8_end 103 = .ok (.getfield 16, 3) := by decide +kernel
theorem dX8_end_106 : decode cX8_end 106 = .ok (.iload_n 1, 1) := by decide +kernel
theorem dX8_end_107 : decode cX8_end 107 = .ok (.iaload, 1) := by decide +kernel
theorem dX8_end_108 : decode cX8_end 108 = .ok (.ishl, 1) := by decide +kernel
theorem dX8_end_109 : decode cX8_end 109 = .ok (.iadd, 1) := by decide +kernel
theorem dX8_end_110 : decode cX8_end 110 = .ok (.iastore, 1) := by decide +kernel
theorem dX8_end_111 : decode cX8_end 111 = .ok (.goto 30, 3) := by decide +kernel
theorem dX8_end_114 : decode cX8_end 114 = .ok (.iload_n 2, 1) := by decide +kernel
theorem dX8_end_115 : decode cX8_end 115 = .ok (.ifCond .gt 7, 3) := by decide +kernel
theorem dX8_end_118 : decode cX8_end 118 = .ok (.iload_n 3, 1) := by decide +kernel
theorem dX8_end_119 : decode cX8_end 119 = .ok (.ifCond .le 22, 3) := by decide +kernel
theorem dX8_end_122 : decode cX8_end 122 = .ok (.aload_n 0, 1) := by decide +kernel
theorem dX8_end_123 : decode cX8_end 123 = .ok (.getfield 16, 3) := by decide +kernel
theorem dX8_end_126 : decode cX8_end 126 = .ok (.iload_n 1, 1) := by decide +kernel
theorem dX8_end_127 : decode cX8_end 127 = .ok (.iconst 0, 1) := by decide +kernel
theorem dX8_end_128 : decode cX8_end 128 = .ok (.iastore, 1) := by decide +kernel
theorem dX8_end_129 : decode cX8_end 129 = .ok (.aload_n 0, 1) := by decide +kernel
theorem dX8_end_130 : decode cX8_end 130 = .ok (.getfield 19, 3) := by decide +kernel
theorem dX8_end_133 : decode cX8_end 133 = .ok (.iload_n 1, 1) := by decide +kernel
theorem dX8_end_134 : decode cX8_end 134 = .ok (.aload_n 0, 1) := by decide +kernel
theorem dX8_end_135 : decode cX8_end 135 = .ok (.getfield 95, 3) := by decide +kernel
theorem dX8_end_138 : decode cX8_end 138 = .ok (.iconst 1, 1) := by decide +kernel
theorem dX8_end_139 : decode cX8_end 139 = .ok (.iadd, 1) := by decide +kernel
theorem dX8_end_140 : decode cX8_end 140 = .ok (.iastore, 1) := by decide +kernel
theorem dX8_end_141 : decode cX8_end 141 = .ok (.iinc 1 1, 3) := by decide +kernel
theorem dX8_end_144 : decode cX8_end 144 = .ok (.goto (-120), 3) := by decide +kernel
theorem dX8_end_147 : decode cX8_end 147 = .ok (.aload_n 0, 1) := by decide +kernel
theorem dX8_end_148 : decode cX8_end 148 = .ok (.dup, 1) := by decide +kernel
theorem dX8_end_149 : decode cX8_end 149 = .ok (.getfield 95, 3) := by decide +kernel
theorem dX8_end_152 : decode cX8_end 152 = .ok (.iconst 1, 1) := by decide +kernel
theorem dX8_end_153 : decode cX8_end 153 = .ok (.iadd, 1) := by decide +kernel
theorem dX8_end_154 : decode cX8_end 154 = .ok (.putfield 95, 3) := by decide +kernel
theorem dX8_end_157 : decode cX8_end 157 = .ok (.aload_n 0, 1) := by decide +kernel
theorem dX8_end_158 : decode cX8_end 158 = .ok (.invokevirtual 98, 3) := by decide +kernel
theorem dX8_end_161 : decode cX8_end 161 = .ok (.iconst 0, 1) := by decide +kernel
theorem dX8_end_162 : decode cX8_end 162 = .ok (.istore_n 1, 1) := by decide +kernel
theorem dX8_end_163 : decode cX8_end 163 = .ok (.iconst 0, 1) := by decide +kernel
theorem dX8_end_164 : decode cX8_end 164 = .ok (.istore_n 2, 1) := by decide +kernel
theorem dX8_end_165 : decode cX8_end 165 = .ok (.iload_n 2, 1) := by decide +kernel
theorem dX8_end_166 : decode cX8_end 166 = .ok (.aload_n 0, 1) := by decide +kernel
theorem dX8_end_167 : decode cX8_end 167 = .ok (.getfield 86, 3) := by decide +kernel
theorem dX8_end_170 : decode cX8_end 170 = .ok (.if_icmp .ge 30, 3) := by decide +kernel
theorem dX8_end_173 : decode cX8_end 173 = .ok (.iload_n 1, 1) := by decide +kernel
theorem dX8_end_174 : decode cX8_end 174 = .ok (.aload_n 0, 1) := by decide +kernel
theorem dX8_end_175 : decode cX8_end 175 = .ok (.getfield 19, 3) := by decide +kernel
theorem dX8_end_178 : decode cX8_end 178 = .ok (.iload_n 2, 1) := by decide +kernel
theorem dX8_end_179 : decode cX8_end 179 = .ok (.iaload, 1) := by decide +kernel
theorem dX8_end_180 : decode cX8_end 180 = .ok (.aload_n 0, 1) := by decide +kernel
theorem dX8_end_181 : decode cX8_end 181 = .ok (.getfield 95, 3) := by decide +kernel
theorem dX8_end_184 : decode cX8_end 184 = .ok (.if_icmp .gt 7, 3) := by decide +kernel
theorem dX8_end_187 : decode cX8_end 187 = .ok (.iconst 1, 1) := by decide +kernel
theorem dX8_end_188 : decode cX8_end 188 = .ok (.goto 4, 3) := by decide +kernel
theorem dX8_end_191 : decode cX8_end 191 = .ok (.iconst 0, 1) := by decide +kernel
theorem dX8_end_192 : decode cX8_end 192 = .ok (.iadd, 1) := by decide +kernel
theorem dX8_end_193 : decode cX8_end 193 = .ok (.istore_n 1, 1) := by decide +kernel
theorem dX8_end_194 : decode cX8_end 194 = .ok (.iinc 2 1, 3) := by decide +kernel
theorem dX8_end_197 : decode cX8_end 197 = .ok (.goto (-32), 3) := by decide +kernel
theorem dX8_end_200 : decode cX8_end 200 = .ok (.iload_n 1, 1) := by decide +kernel
theorem dX8_end_201 : decode cX8_end 201 = .ok (.ireturn, 1) := by decide +kernel
theorem dX8_due_0 : decode cX8_due 0 = .ok (.aload_n 0, 1) := by decide +kernel
theorem dX8_due_1 : decode cX8_due 1 = .ok (.iconst 0, 1) := by decide +kernel
theorem dX8_due_2 : decode cX8_due 2 = .ok (.putfield 83, 3) := by decide +kernel
theorem dX8_due_5 : decode cX8_due 5 = .ok (.iload_n 1, 1) := by decide +kernel
theorem dX8_due_6 : decode cX8_due 6 = .ok (.ifCond .ge 6, 3) := by decide +kernel
theorem dX8_due_9 : decode cX8_due 9 = .ok (.bipush (-2), 2) := by decide +kernel
theorem dX8_due_11 : decode cX8_due 11 = .ok (.ireturn, 1) := by decide +kernel
theorem dX8_due_12 : decode cX8_due 12 = .ok (.iload_n 1, 1) := by decide +kernel
theorem dX8_due_13 : decode cX8_due 13 = .ok (.istore_n 2, 1) := by decide +kernel
theorem dX8_due_14 : decode cX8_due 14 = .ok (.iconst (-1), 1) := by decide +kernel
theorem dX8_due_15 : decode cX8_due 15 = .ok (.istore_n 3, 1) := by decide +kernel
theorem dX8_due_16 : decode cX8_due 16 = .ok (.iconst 0, 1) := by decide +kernel
theorem dX8_due_17 : decode cX8_due 17 = .ok (.istore 4, 2) := by decide +kernel
theorem dX8_due_19 : decode cX8_due 19 = .ok (.iload 4, 2) := by decide +kernel
theorem dX8_due_21 : decode cX8_due 21 = .ok (.iconst 5, 1) := by decide +kernel
theorem dX8_due_22 : decode cX8_due 22 = .ok (.if_icmp .gt 67, 3) := by decide +kernel
theorem dX8_due_25 : decode cX8_due 25 = .ok (.iconst 0, 1) := by decide +kernel
theorem dX8_due_26 : decode cX8_due 26 = .ok (.istore 5, 2) := by decide +kernel
theorem dX8_due_28 : decode cX8_due 28 = .ok (.iload 5, 2) := by decide +kernel
theorem dX8_due_30 : decode cX8_due 30 = .ok (.aload_n 0, 1) := by decide +kernel
theorem dX8_due_31 : decode cX8_due 31 = .ok (.getfield 86, 3) := by decide +kernel
theorem dX8_due_34 : decode cX8_due 34 = .ok (.if_icmp .ge 49, 3) := by decide +kernel
theorem dX8_due_37 : decode cX8_due 37 = .ok (.aload_n 0, 1) := by decide +kernel
theorem dX8_due_38 : decode cX8_due 38 = .ok (.getfield 16, 3) := by decide +kernel
theorem dX8_due_41 : decode cX8_due 41 = .ok (.iload 5, 2) := by decide +kernel
theorem dX8_due_43 : decode cX8_due 43 = .ok (.iaload, 1) := by decide +kernel
theorem dX8_due_44 : decode cX8_due 44 = .ok (.iload 4, 2) := by decide +kernel
theorem dX8_due_46 : decode cX8_due 46 = .ok (.if_icmp .ne 31, 3) := by decide +kernel
theorem dX8_due_49 : decode cX8_due 49 = .ok (.aload_n 0, 1) := by decide +kernel
theorem dX8_due_50 : decode cX8_due 50 = .ok (.getfield 19, 3) := by decide +kernel
theorem dX8_due_53 : decode cX8_due 53 = .ok (.iload 5, 2) := by decide +kernel
theorem dX8_due_55 : decode cX8_due 55 = .ok (.iaload, 1) := by decide +kernel
theorem dX8_due_56 : decode cX8_due 56 = .ok (.aload_n 0, 1) := by decide +kernel
theorem dX8_due_57 : decode cX8_due 57 = .ok (.getfield 95, 3) := by decide +kernel
theorem dX8_due_60 : decode cX8_due 60 = .ok (.if_icmp .gt 17, 3) := by decide +kernel
theorem dX8_due_63 : decode cX8_due 63 = .ok (.iload_n 2, 1) := by decide +kernel
theorem dX8_due_64 : decode cX8_due 64 = .ok (.ifCond .ne 8, 3) := by decide +kernel
theorem dX8_due_67 : decode cX8_due 67 = .ok (.iload 5, 2) := by decide +kernel
theorem dX8_due_69 : decode cX8_due 69 = .ok (.goto 4, 3) := by decide +kernel
theorem dX8_due_72 : decode cX8_due 72 = .ok (.iload_n 3, 1) := by decide +kernel
theorem dX8_due_73 : decode cX8_due 73 = .ok (.istore_n 3, 1) := by decide +kernel
theorem dX8_due_74 : decode cX8_due 74 = .ok (.iinc 2 (-1), 3) := by decide +kernel
theorem dX8_due_77 : decode cX8_due 77 = .ok (.iinc 5 1, 3) := by decide +kernel
theorem dX8_due_80 : decode cX8_due 80 = .ok (.goto (-52), 3) := by decide +kernel
theorem dX8_due_83 : decode cX8_due 83 = .ok (.iinc 4 1, 3) := by decide +kernel
theorem dX8_due_86 : decode cX8_due 86 = .ok (.goto (-67), 3) := by decide +kernel
theorem dX8_due_89 : decode cX8_due 89 = .ok (.iload_n 3, 1) := by decide +kernel
theorem dX8_due_90 : decode cX8_due 90 = .ok (.ireturn, 1) := by decide +kernel
theorem dX8_of_0 : decode cX8_of 0 = .ok (.aload_n 0, 1) := by decide +kernel
theorem dX8_of_1 : decode cX8_of 1 = .ok (.iconst 0, 1) := by decide +kernel
theorem dX8_of_2 : decode cX8_of 2 = .ok (.putfield 83, 3) := by decide +kernel
theorem dX8_of_5 : decode cX8_of 5 = .ok (.iload_n 1, 1) := by decide +kernel
theorem dX8_of_6 : decode cX8_of 6 = .ok (.ifCond .lt 20, 3) := by decide +kernel
theorem dX8_of_9 : decode cX8_of 9 = .ok (.iload_n 1, 1) := by decide +kernel
theorem dX8_of_10 : decode cX8_of 10 = .ok (.aload_n 0, 1) := by decide +kernel
theorem dX8_of_11 : decode cX8_of 11 = .ok (.getfield 86, 3) := by decide +kernel
theorem dX8_of_14 : decode cX8_of 14 = .ok (.if_icmp .ge 12, 3) := by decide +kernel
theorem dX8_of_17 : decode cX8_of 17 = .ok (.iload_n 2, 1) := by decide +kernel
theorem dX8_of_18 : decode cX8_of 18 = .ok (.ifCond .lt 8, 3) := by decide +kernel
theorem dX8_of_21 : decode cX8_of 21 = .ok (.iload_n 2, 1) := by decide +kernel
theorem dX8_of_22 : decode cX8_of 22 = .ok (.iconst 3, 1) := by decide +kernel
theorem dX8_of_23 : decode cX8_of 23 = .ok (.if_icmp .le 6, 3) := by decide +kernel
theorem dX8_of_26 : decode cX8_of 26 = .ok (.bipush (-2), 2) := by decide +kernel
theorem dX8_of_28 : decode cX8_of 28 = .ok (.ireturn, 1) := by decide +kernel
theorem dX8_of_29 : decode cX8_of 29 = .ok (.iload_n 2, 1) := by decide +kernel
theorem dX8_of_30 : decode cX8_of 30 = .ok (.ifCond .ne 12, 3) := by decide +kernel
theorem dX8_of_33 : decode cX8_of 33 = .ok (.aload_n 0, 1) := by decide +kernel
theorem dX8_of_34 : decode cX8_of 34 = .ok (.getfield 7, 3) := by decide +kernel
theorem dX8_of_37 : decode cX8_of 37 = .ok (.iload_n 1, 1) := by decide +kernel
theorem dX8_of_38 : decode cX8_of 38 = .ok (.iaload, 1) := by decide +kernel
theorem dX8_of_39 : decode cX8_of 39 = .ok (.goto 37, 3) := by decide +kernel
theorem dX8_of_42 : decode cX8_of 42 = .ok (.iload_n 2, 1) := by decide +kernel
theorem dX8_of_43 : decode cX8_of 43 = .ok (.iconst 1, 1) := by decide +kernel
theorem dX8_of_44 : decode cX8_of 44 = .ok (.if_icmp .ne 12, 3) := by decide +kernel
theorem dX8_of_47 : decode cX8_of 47 = .ok (.aload_n 0, 1) := by decide +kernel
theorem dX8_of_48 : decode cX8_of 48 = .ok (.getfield 13, 3) := by decide +kernel
theorem dX8_of_51 : decode cX8_of 51 = .ok (.iload_n 1, 1) := by decide +kernel
theorem dX8_of_52 : decode cX8_of 52 = .ok (.iaload, 1) := by decide +kernel
theorem dX8_of_53 : decode cX8_of 53 = .ok (.goto 23, 3) := by decide +kernel
theorem dX8_of_56 : decode cX8_of 56 = .ok (.iload_n 2, 1) := by decide +kernel
theorem dX8_of_57 : decode cX8_of 57 = .ok (.iconst 2, 1) := by decide +kernel
theorem dX8_of_58 : decode cX8_of 58 = .ok (.if_icmp .ne 12, 3) := by decide +kernel
theorem dX8_of_61 : decode cX8_of 61 = .ok (.aload_n 0, 1) := by decide +kernel
theorem dX8_of_62 : decode cX8_of 62 = .ok (.getfield 16, 3) := by decide +kernel
theorem dX8_of_65 : decode cX8_of 65 = .ok (.iload_n 1, 1) := by decide +kernel
theorem dX8_of_66 : decode cX8_of 66 = .ok (.iaload, 1) := by decide +kernel
theorem dX8_of_67 : decode cX8_of 67 = .ok (.goto 9, 3) := by decide +kernel
theorem dX8_of_70 : decode cX8_of 70 = .ok (.aload_n 0, 1) := by decide +kernel
theorem dX8_of_71 : decode cX8_of 71 = .ok (.getfield 19, 3) := by decide +kernel
theorem dX8_of_74 : decode cX8_of 74 = .ok (.iload_n 1, 1) := by decide +kernel
theorem dX8_of_75 : decode cX8_of 75 = .ok (.iaload, 1) := by decide +kernel
theorem dX8_of_76 : decode cX8_of 76 = .ok (.ireturn, 1) := by decide +kernel
theorem dX8_told_0 : decode cX8_told 0 = .ok (.aload_n 0, 1) := by decide +kernel
theorem dX8_told_1 : decode cX8_told 1 = .ok (.iconst 0, 1) := by decide +kernel
theorem dX8_told_2 : decode cX8_told 2 = .ok (.putfield 83, 3) := by decide +kernel
theorem dX8_told_5 : decode cX8_told 5 = .ok (.iload_n 1, 1) := by decide +kernel
theorem dX8_told_6 : decode cX8_told 6 = .ok (.ifCond .lt 9, 3) := by decide +kernel
theorem dX8_told_9 : decode cX8_told 9 = .ok (.iload_n 1, 1) := by decide +kernel
theorem dX8_told_10 : decode cX8_told 10 = .ok (.bipush 8, 2) := by decide +kernel
theorem dX8_told_12 : decode cX8_told 12 = .ok (.if_icmp .le 6, 3) := by decide +kernel
theorem dX8_told_15 : decode cX8_told 15 = .ok (.bipush (-2), 2) := by decide +kernel
theorem dX8_told_17 : decode cX8_told 17 = .ok (.ireturn, 1) := by decide +kernel
theorem dX8_told_18 : decode cX8_told 18 = .ok (.iload_n 1, 1) := by decide +kernel
theorem dX8_told_19 : decode cX8_told 19 = .ok (.ifCond .ne 10, 3) := by decide +kernel
theorem dX8_told_22 : decode cX8_told 22 = .ok (.aload_n 0, 1) := by decide +kernel
theorem dX8_told_23 : decode cX8_told 23 = .ok (.getfield 86, 3) := by decide +kernel
theorem dX8_told_26 : decode cX8_told 26 = .ok (.goto 93, 3) := by decide +kernel
theorem dX8_told_29 : decode cX8_told 29 = .ok (.iload_n 1, 1) := by decide +kernel
theorem dX8_told_30 : decode cX8_told 30 = .ok (.iconst 1, 1) := by decide +kernel
theorem dX8_told_31 : decode cX8_told 31 = .ok (.if_icmp .ne 10, 3) := by decide +kernel
theorem dX8_told_34 : decode cX8_told 34 = .ok (.aload_n 0, 1) := by decide +kernel
theorem dX8_told_35 : decode cX8_told 35 = .ok (.getfield 89, 3) := by decide +kernel
theorem dX8_told_38 : decode cX8_told 38 = .ok (.goto 81, 3) := by decide +kernel
theorem dX8_told_41 : decode cX8_told 41 = .ok (.iload_n 1, 1) := by decide +kernel
theorem dX8_told_42 : decode cX8_told 42 = .ok (.iconst 2, 1) := by decide +kernel
theorem dX8_told_43 : decode cX8_told 43 = .ok (.if_icmp .ne 10, 3) := by decide +kernel
theorem dX8_told_46 : decode cX8_told 46 = .ok (.aload_n 0, 1) := by decide +kernel
theorem dX8_told_47 : decode cX8_told 47 = .ok (.getfield 101, 3) := by decide +kernel
theorem dX8_told_50 : decode cX8_told 50 = .ok (.goto 69, 3) := by decide +kernel
theorem dX8_told_53 : decode cX8_told 53 = .ok (.iload_n 1, 1) := by decide +kernel
theorem dX8_told_54 : decode cX8_told 54 = .ok (.iconst 3, 1) := by decide +kernel
theorem dX8_told_55 : decode cX8_told 55 = .ok (.if_icmp .ne 10, 3) := by decide +kernel
theorem dX8_told_58 : decode cX8_told 58 = .ok (.aload_n 0, 1) := by decide +kernel
theorem dX8_told_59 : decode cX8_told 59 = .ok (.getfield 124, 3) := by decide +kernel
theorem dX8_told_62 : decode cX8_told 62 = .ok (.goto 57, 3) := by decide +kernel
theorem dX8_told_65 : decode cX8_told 65 = .ok (.iload_n 1, 1) := by decide +kernel
theorem dX8_told_66 : decode cX8_told 66 = .ok (.iconst 4, 1) := by decide +kernel
theorem dX8_told_67 : decode cX8_told 67 = .ok (.if_icmp .ne 10, 3) := by decide +kernel
theorem dX8_told_70 : decode cX8_told 70 = .ok (.aload_n 0, 1) := by decide +kernel
theorem dX8_told_71 : decode cX8_told 71 = .ok (.getfield 95, 3) := by decide +kernel
theorem dX8_told_74 : decode cX8_told 74 = .ok (.goto 45, 3) := by decide +kernel
theorem dX8_told_77 : decode cX8_told 77 = .ok (.iload_n 1, 1) := by decide +kernel
theorem dX8_told_78 : decode cX8_told 78 = .ok (.iconst 5, 1) := by decide +kernel
theorem dX8_told_79 : decode cX8_told 79 = .ok (.if_icmp .ne 10, 3) := by decide +kernel
theorem dX8_told_82 : decode cX8_told 82 = .ok (.aload_n 0, 1) := by decide +kernel
theorem dX8_told_83 : decode cX8_told 83 = .ok (.getfield 127, 3) := by decide +kernel
theorem dX8_told_86 : decode cX8_told 86 = .ok (.goto 33, 3) := by decide +kernel
theorem dX8_told_89 : decode cX8_told 89 = .ok (.iload_n 1, 1) := by decide +kernel
theorem dX8_told_90 : decode cX8_told 90 = .ok (.bipush 6, 2) := by decide +kernel
theorem dX8_told_92 : decode cX8_told 92 = .ok (.if_icmp .ne 10, 3) := by decide +kernel
theorem dX8_told_95 : decode cX8_told 95 = .ok (.aload_n 0, 1) := by decide +kernel
theorem dX8_told_96 : decode cX8_told 96 = .ok (.getfield 28, 3) := by decide +kernel
theorem dX8_told_99 : decode cX8_told 99 = .ok (.goto 20, 3) := by decide +kernel
theorem dX8_told_102 : decode cX8_told 102 = .ok (.iload_n 1, 1) := by decide +kernel
theorem dX8_told_103 : decode cX8_told 103 = .ok (.bipush 7, 2) := by decide +kernel
theorem dX8_told_105 : decode cX8_told 105 = .ok (.if_icmp .ne 10, 3) := by decide +kernel
theorem dX8_told_108 : decode cX8_told 108 = .ok (.aload_n 0, 1) := by decide +kernel
theorem dX8_told_109 : decode cX8_told 109 = .ok (.getfield 32, 3) := by decide +kernel
theorem dX8_told_112 : decode cX8_told 112 = .ok (.goto 7, 3) := by decide +kernel
theorem dX8_told_115 : decode cX8_told 115 = .ok (.aload_n 0, 1) := by decide +kernel
theorem dX8_told_116 : decode cX8_told 116 = .ok (.getfield 92, 3) := by decide +kernel
theorem dX8_told_119 : decode cX8_told 119 = .ok (.ireturn, 1) := by decide +kernel
end
section
theorem dL_mean_0 : decode cL_mean 0 = .ok (.aload_n 2, 1) := by decide +kernel
theorem dL_mean_1 : decode cL_mean 1 = .ok (.iconst 0, 1) := by decide +kernel
theorem dL_mean_2 : decode cL_mean 2 = .ok (.aload_n 0, 1) := by decide +kernel
theorem dL_mean_3 : decode cL_mean 3 = .ok (.iload_n 1, 1) := by decide +kernel
theorem dL_mean_4 : decode cL_mean 4 = .ok (.invokevirtual 7, 3) := by decide +kernel
theorem dL_mean_7 : decode cL_mean 7 = .ok (.i2l, 1) := by decide +kernel
theorem dL_mean_8 : decode cL_mean 8 = .ok (.lastore, 1) := by decide +kernel
theorem dL_mean_9 : decode cL_mean 9 = .ok (.goto 6, 3) := by decide +kernel
theorem dL_mean_12 : decode cL_mean 12 = .ok (.astore_n 3, 1) := by decide +kernel
theorem dL_mean_13 : decode cL_mean 13 = .ok (.iconst 1, 1) := by decide +kernel
theorem dL_mean_14 : decode cL_mean 14 = .ok (.ireturn, 1) := by decide +kernel
theorem dL_mean_15 : decode cL_mean 15 = .ok (.iconst 0, 1) := by decide +kernel
theorem dL_mean_16 : decode cL_mean 16 = .ok (.ireturn, 1) := by decide +kernel
theorem dL_law_0 : decode cL_law 0 = .ok (.new 8, 3) := by decide +kernel
theorem dL_law_3 : decode cL_law 3 = .ok (.dup, 1) := by decide +kernel
theorem dL_law_4 : decode cL_law 4 = .ok (.invokespecial 15, 3) := by decide +kernel
theorem dL_law_7 : decode cL_law 7 = .ok (.astore_n 1, 1) := by decide +kernel
theorem dL_law_8 : decode cL_law 8 = .ok (.new 16, 3) := by decide +kernel
theorem dL_law_11 : decode cL_law 11 = .ok (.dup, 1) := by decide +kernel
theorem dL_law_12 : decode cL_law 12 = .ok (.invokespecial 18, 3) := by decide +kernel
theorem dL_law_15 : decode cL_law 15 = .ok (.astore_n 2, 1) := by decide +kernel
theorem dL_law_16 : decode cL_law 16 = .ok (.iconst 1, 1) := by decide +kernel
theorem dL_law_17 : decode cL_law 17 = .ok (.newarray .long, 2) := by decide +kernel
theorem dL_law_19 : decode cL_law 19 = .ok (.astore_n 3, 1) := by decide +kernel
theorem dL_law_20 : decode cL_law 20 = .ok (.iconst 0, 1) := by decide +kernel
theorem dL_law_21 : decode cL_law 21 = .ok (.istore 4, 2) := by decide +kernel
theorem dL_law_23 : decode cL_law 23 = .ok (.iload 4, 2) := by decide +kernel
theorem dL_law_25 : decode cL_law 25 = .ok (.aload_n 0, 1) := by decide +kernel
theorem dL_law_26 : decode cL_law 26 = .ok (.arraylength, 1) := by decide +kernel
theorem dL_law_27 : decode cL_law 27 = .ok (.iconst 3, 1) := by decide +kernel
theorem dL_law_28 : decode cL_law 28 = .ok (.isub, 1) := by decide +kernel
theorem dL_law_29 : decode cL_law 29 = .ok (.if_icmp .gt 716, 3) := by decide +kernel
theorem dL_law_32 : decode cL_law 32 = .ok (.aload_n 0, 1) := by decide +kernel
theorem dL_law_33 : decode cL_law 33 = .ok (.iload 4, 2) := by decide +kernel
theorem dL_law_35 : decode cL_law 35 = .ok (.iaload, 1) := by decide +kernel
theorem dL_law_36 : decode cL_law 36 = .ok (.bipush 31, 2) := by decide +kernel
theorem dL_law_38 : decode cL_law 38 = .ok (.iand, 1) := by decide +kernel
theorem dL_law_39 : decode cL_law 39 = .ok (.tableswitch 700 0 20 #[97, 108, 145, 182, 219, 256, 281, 318, 343, 368, 393, 419, 432, 469, 482, 507, 544, 600, 613, 638, 675], 97) := by decide +kernel
theorem dL_law_136 : decode cL_law 136 = .ok (.aload_n 1, 1) := by decide +kernel
theorem dL_law_137 : decode cL_law 137 = .ok (.invokevirtual 19, 3) := by decide +kernel
theorem dL_law_140 : decode cL_law 140 = .ok (.aload_n 2, 1) := by decide +kernel
theorem dL_law_141 : decode cL_law 141 = .ok (.invokevirtual 22, 3) := by decide +kernel
theorem dL_law_144 : decode cL_law 144 = .ok (.goto 595, 3) := by decide +kernel
theorem dL_law_147 : decode cL_law 147 = .ok (.aload_n 1, 1) := by decide +kernel
theorem dL_law_148 : decode cL_law 148 = .ok (.aload_n 0, 1) := by decide +kernel
theorem dL_law_149 : decode cL_law 149 = .ok (.iload 4, 2) := by decide +kernel
theorem dL_law_151 : decode cL_law 151 = .ok (.iconst 1, 1) := by decide +kernel
theorem dL_law_152 : decode cL_law 152 = .ok (.iadd, 1) := by decide +kernel
theorem dL_law_153 : decode cL_law 153 = .ok (.iaload, 1) := by decide +kernel
theorem dL_law_154 : decode cL_law 154 = .ok (.aload_n 0, 1) := by decide +kernel
theorem dL_law_155 : decode cL_law 155 = .ok (.iload 4, 2) := by decide +kernel
theorem dL_law_157 : decode cL_law 157 = .ok (.iconst 2, 1) := by decide +kernel
theorem dL_law_158 : decode cL_law 158 = .ok (.iadd, 1) := by decide +kernel
theorem dL_law_159 : decode cL_law 159 = .ok (.iaload, 1) := by decide +kernel
theorem dL_law_160 : decode cL_law 160 = .ok (.invokevirtual 23, 3) := by decide +kernel
theorem dL_law_163 : decode cL_law 163 = .ok (.aload_n 2, 1) := by decide +kernel
theorem dL_law_164 : decode cL_law 164 = .ok (.aload_n 0, 1) := by decide +kernel
theorem dL_law_165 : decode cL_law 165 = .ok (.iload 4, 2) := by decide +kernel
theorem dL_law_167 : decode cL_law 167 = .ok (.iconst 1, 1) := by decide +kernel
theorem dL_law_168 : decode cL_law 168 = .ok (.iadd, 1) := by decide +kernel
theorem dL_law_169 : decode cL_law 169 = .ok (.iaload, 1) := by decide +kernel
theorem dL_law_170 : decode cL_law 170 = .ok (.aload_n 0, 1) := by decide +kernel
theorem dL_law_171 : decode cL_law 171 = .ok (.iload 4, 2) := by decide +kernel
theorem dL_law_173 : decode cL_law 173 = .ok (.iconst 2, 1) := by decide +kernel
theorem dL_law_174 : decode cL_law 174 = .ok (.iadd, 1) := by decide +kernel
theorem dL_law_175 : decode cL_law 175 = .ok (.iaload, 1) := by decide +kernel
theorem dL_law_176 : decode cL_law 176 = .ok (.invokevirtual 27, 3) := by decide +kernel
theorem dL_law_179 : decode cL_law 179 = .ok (.if_icmp .eq 560, 3) := by decide +kernel
theorem dL_law_182 : decode cL_law 182 = .ok (.iconst 0, 1) := by decide +kernel
theorem dL_law_183 : decode cL_law 183 = .ok (.ireturn, 1) := by decide +kernel
theorem dL_law_184 : decode cL_law 184 = .ok (.aload_n 1, 1) := by decide +kernel
theorem dL_law_185 : decode cL_law 185 = .ok (.aload_n 0, 1) := by decide +kernel
theorem dL_law_186 : decode cL_law 186 = .ok (.iload 4, 2) := by decide +kernel
theorem dL_law_188 : decode cL_law 188 = .ok (.iconst 1, 1) := by decide +kernel
theorem dL_law_189 : decode cL_law 189 = .ok (.iadd, 1) := by decide +kernel
theorem dL_law_190 : decode cL_law 190 = .ok (.iaload, 1) := by decide +kernel
theorem dL_law_191 : decode cL_law 191 = .ok (.aload_n 0, 1) := by decide +kernel
theorem dL_law_192 : decode cL_law 192 = .ok (.iload 4, 2) := by decide +kernel
theorem dL_law_194 : decode cL_law 194 = .ok (.iconst 2, 1) := by decide +kernel
theorem dL_law_195 : decode cL_law 195 = .ok (.iadd, 1) := by decide +kernel
theorem dL_law_196 : decode cL_law 196 = .ok (.iaload, 1) := by decide +kernel
theorem dL_law_197 : decode cL_law 197 = .ok (.invokevirtual 28, 3) := by decide +kernel
theorem dL_law_200 : decode cL_law 200 = .ok (.aload_n 2, 1) := by decide +kernel
theorem dL_law_201 : decode cL_law 201 = .ok (.aload_n 0, 1) := by decide +kernel
theorem dL_law_202 : decode cL_law 202 = .ok (.iload 4, 2) := by decide +kernel
theorem dL_law_204 : decode cL_law 204 = .ok (.iconst 1, 1) := by decide +kernel
theorem dL_law_205 : decode cL_law 205 = .ok (.iadd, 1) := by decide +kernel
theorem dL_law_206 : decode cL_law 206 = .ok (.iaload, 1) := by decide +kernel
theorem dL_law_207 : decode cL_law 207 = .ok (.aload_n 0, 1) := by decide +kernel
theorem dL_law_208 : decode cL_law 208 = .ok (.iload 4, 2) := by decide +kernel
theorem dL_law_210 : decode cL_law 210 = .ok (.iconst 2, 1) := by decide +kernel
theorem dL_law_211 : decode cL_law 211 = .ok (.iadd, 1) := by decide +kernel
theorem dL_law_212 : decode cL_law 212 = .ok (.iaload, 1) := by decide +kernel
theorem dL_law_213 : decode cL_law 213 = .ok (.invokevirtual 31, 3) := by decide +kernel
theorem dL_law_216 : decode cL_law 216 = .ok (.if_icmp .eq 523, 3) := by decide +kernel
theorem dL_law_219 : decode cL_law 219 = .ok (.iconst 0, 1) := by decide +kernel
theorem dL_law_220 : decode cL_law 220 = .ok (.ireturn, 1) := by decide +kernel
theorem dL_law_221 : decode cL_law 221 = .ok (.aload_n 1, 1) := by decide +kernel
theorem dL_law_222 : decode cL_law 222 = .ok (.aload_n 0, 1) := by decide +kernel
theorem dL_law_223 : decode cL_law 223 = .ok (.iload 4, 2) := by decide +kernel
theorem dL_law_225 : decode cL_law 225 = .ok (.iconst 1, 1) := by decide +kernel
theorem dL_law_226 : decode cL_law 226 = .ok (.iadd, 1) := by decide +kernel
theorem dL_law_227 : decode cL_law 227 = .ok (.iaload, 1) := by decide +kernel
theorem dL_law_228 : decode cL_law 228 = .ok (.aload_n 0, 1) := by decide +kernel
theorem dL_law_229 : decode cL_law 229 = .ok (.iload 4, 2) := by decide +kernel
theorem dL_law_231 : decode cL_law 231 = .ok (.iconst 2, 1) := by decide +kernel
theorem dL_law_232 : decode cL_law 232 = .ok (.iadd, 1) := by decide +kernel
theorem dL_law_233 : decode cL_law 233 = .ok (.iaload, 1) := by decide +kernel
theorem dL_law_234 : decode cL_law 234 = .ok (.invokevirtual 32, 3) := by decide +kernel
theorem dL_law_237 : decode cL_law 237 = .ok (.aload_n 2, 1) := by decide +kernel
theorem dL_law_238 : decode cL_law 238 = .ok (.aload_n 0, 1) := by decide +kernel
theorem dL_law_239 : decode cL_law 239 = .ok (.iload 4, 2) := by decide +kernel
theorem dL_law_241 : decode cL_law 241 = .ok (.iconst 1, 1) := by decide +kernel
theorem dL_law_242 : decode cL_law 242 = .ok (.iadd, 1) := by decide +kernel
theorem dL_law_243 : decode cL_law 243 = .ok (.iaload, 1) := by decide +kernel
theorem dL_law_244 : decode cL_law 244 = .ok (.aload_n 0, 1) := by decide +kernel
theorem dL_law_245 : decode cL_law 245 = .ok (.iload 4, 2) := by decide +kernel
theorem dL_law_247 : decode cL_law 247 = .ok (.iconst 2, 1) := by decide +kernel
theorem dL_law_248 : decode cL_law 248 = .ok (.iadd, 1) := by decide +kernel
theorem dL_law_249 : decode cL_law 249 = .ok (.iaload, 1) := by decide +kernel
theorem dL_law_250 : decode cL_law 250 = .ok (.invokevirtual 35, 3) := by decide +kernel
theorem dL_law_253 : decode cL_law 253 = .ok (.if_icmp .eq 486, 3) := by decide +kernel
theorem dL_law_256 : decode cL_law 256 = .ok (.iconst 0, 1) := by decide +kernel
theorem dL_law_257 : decode cL_law 257 = .ok (.ireturn, 1) := by decide +kernel
theorem dL_law_258 : decode cL_law 258 = .ok (.aload_n 1, 1) := by decide +kernel
theorem dL_law_259 : decode cL_law 259 = .ok (.aload_n 0, 1) := by decide +kernel
theorem dL_law_260 : decode cL_law 260 = .ok (.iload 4, 2) := by decide +kernel
theorem dL_law_262 : decode cL_law 262 = .ok (.iconst 1, 1) := by decide +kernel
theorem dL_law_263 : decode cL_law 263 = .ok (.iadd, 1) := by decide +kernel
theorem dL_law_264 : decode cL_law 264 = .ok (.iaload, 1) := by decide +kernel
theorem dL_law_265 : decode cL_law 265 = .ok (.aload_n 0, 1) := by decide +kernel
theorem dL_law_266 : decode cL_law 266 = .ok (.iload 4, 2) := by decide +kernel
theorem dL_law_268 : decode cL_law 268 = .ok (.iconst 2, 1) := by decide +kernel
theorem dL_law_269 : decode cL_law 269 = .ok (.iadd, 1) := by decide +kernel
theorem dL_law_270 : decode cL_law 270 = .ok (.iaload, 1) := by decide +kernel
theorem dL_law_271 : decode cL_law 271 = .ok (.invokevirtual 36, 3) := by decide +kernel
theorem dL_law_274 : decode cL_law 274 = .ok (.aload_n 2, 1) := by decide +kernel
theorem dL_law_275 : decode cL_law 275 = .ok (.aload_n 0, 1) := by decide +kernel
theorem dL_law_276 : decode cL_law 276 = .ok (.iload 4, 2) := by decide +kernel
theorem dL_law_278 : decode cL_law 278 = .ok (.iconst 1, 1) := by decide +kernel
theorem dL_law_279 : decode cL_law 279 = .ok (.iadd, 1) := by decide +kernel
theorem dL_law_280 : decode cL_law 280 = .ok (.iaload, 1) := by decide +kernel
theorem dL_law_281 : decode cL_law 281 = .ok (.aload_n 0, 1) := by decide +kernel
theorem dL_law_282 : decode cL_law 282 = .ok (.iload 4, 2) := by decide +kernel
theorem dL_law_284 : decode cL_law 284 = .ok (.iconst 2, 1) := by decide +kernel
theorem dL_law_285 : decode cL_law 285 = .ok (.iadd, 1) := by decide +kernel
theorem dL_law_286 : decode cL_law 286 = .ok (.iaload, 1) := by decide +kernel
theorem dL_law_287 : decode cL_law 287 = .ok (.invokevirtual 39, 3) := by decide +kernel
theorem dL_law_290 : decode cL_law 290 = .ok (.if_icmp .eq 449, 3) := by decide +kernel
theorem dL_law_293 : decode cL_law 293 = .ok (.iconst 0, 1) := by decide +kernel
theorem dL_law_294 : decode cL_law 294 = .ok (.ireturn, 1) := by decide +kernel
theorem dL_law_295 : decode cL_law 295 = .ok (.aload_n 1, 1) := by decide +kernel
theorem dL_law_296 : decode cL_law 296 = .ok (.aload_n 0, 1) := by decide +kernel
theorem dL_law_297 : decode cL_law 297 = .ok (.iload 4, 2) := by decide +kernel
theorem dL_law_299 : decode cL_law 299 = .ok (.iconst 1, 1) := by decide +kernel
theorem dL_law_300 : decode cL_law 300 = .ok (.iadd, 1) := by decide +kernel
theorem dL_law_301 : decode cL_law 301 = .ok (.iaload, 1) := by decide +kernel
theorem dL_law_302 : decode cL_law 302 = .ok (.invokevirtual 40, 3) := by decide +kernel
theorem dL_law_305 : decode cL_law 305 = .ok (.aload_n 2, 1) := by decide +kernel
theorem dL_law_306 : decode cL_law 306 = .ok (.aload_n 0, 1) := by decide +kernel
theorem dL_law_307 : decode cL_law 307 = .ok (.iload 4, 2) := by decide +kernel
theorem dL_law_309 : decode cL_law 309 = .ok (.iconst 1, 1) := by decide +kernel
theorem dL_law_310 : decode cL_law 310 = .ok (.iadd, 1) := by decide +kernel
theorem dL_law_311 : decode cL_law 311 = .ok (.iaload, 1) := by decide +kernel
theorem dL_law_312 : decode cL_law 312 = .ok (.invokevirtual 43, 3) := by decide +kernel
theorem dL_law_315 : decode cL_law 315 = .ok (.if_icmp .eq 424, 3) := by decide +kernel
theorem dL_law_318 : decode cL_law 318 = .ok (.iconst 0, 1) := by decide +kernel
theorem dL_law_319 : decode cL_law 319 = .ok (.ireturn, 1) := by decide +kernel
theorem dL_law_320 : decode cL_law 320 = .ok (.aload_n 1, 1) := by decide +kernel
theorem dL_law_321 : decode cL_law 321 = .ok (.aload_n 0, 1) := by decide +kernel
theorem dL_law_322 : decode cL_law 322 = .ok (.iload 4, 2) := by decide +kernel
theorem dL_law_324 : decode cL_law 324 = .ok (.iconst 1, 1) := by decide +kernel
theorem dL_law_325 : decode cL_law 325 = .ok (.iadd, 1) := by decide +kernel
theorem dL_law_326 : decode cL_law 326 = .ok (.iaload, 1) := by decide +kernel
theorem dL_law_327 : decode cL_law 327 = .ok (.aload_n 0, 1) := by decide +kernel
theorem dL_law_328 : decode cL_law 328 = .ok (.iload 4, 2) := by decide +kernel
theorem dL_law_330 : decode cL_law 330 = .ok (.iconst 2, 1) := by decide +kernel
theorem dL_law_331 : decode cL_law 331 = .ok (.iadd, 1) := by decide +kernel
theorem dL_law_332 : decode cL_law 332 = .ok (.iaload, 1) := by decide +kernel
theorem dL_law_333 : decode cL_law 333 = .ok (.invokevirtual 44, 3) := by decide +kernel
theorem dL_law_336 : decode cL_law 336 = .ok (.aload_n 2, 1) := by decide +kernel
theorem dL_law_337 : decode cL_law 337 = .ok (.aload_n 0, 1) := by decide +kernel
theorem dL_law_338 : decode cL_law 338 = .ok (.iload 4, 2) := by decide +kernel
theorem dL_law_340 : decode cL_law 340 = .ok (.iconst 1, 1) := by decide +kernel
theorem dL_law_341 : decode cL_law 341 = .ok (.iadd, 1) := by decide +kernel
theorem dL_law_342 : decode cL_law 342 = .ok (.iaload, 1) := by decide +kernel
theorem dL_law_343 : decode cL_law 343 = .ok (.aload_n 0, 1) := by decide +kernel
theorem dL_law_344 : decode cL_law 344 = .ok (.iload 4, 2) := by decide +kernel
theorem dL_law_346 : decode cL_law 346 = .ok (.iconst 2, 1) := by decide +kernel
theorem dL_law_347 : decode cL_law 347 = .ok (.iadd, 1) := by decide +kernel
theorem dL_law_348 : decode cL_law 348 = .ok (.iaload, 1) := by decide +kernel
theorem dL_law_349 : decode cL_law 349 = .ok (.invokevirtual 47, 3) := by decide +kernel
theorem dL_law_352 : decode cL_law 352 = .ok (.if_icmp .eq 387, 3) := by decide +kernel
theorem dL_law_355 : decode cL_law 355 = .ok (.iconst 0, 1) := by decide +kernel
theorem dL_law_356 : decode cL_law 356 = .ok (.ireturn, 1) := by decide +kernel
theorem dL_law_357 : decode cL_law 357 = .ok (.aload_n 1, 1) := by decide +kernel
theorem dL_law_358 : decode cL_law 358 = .ok (.aload_n 0, 1) := by decide +kernel
theorem dL_law_359 : decode cL_law 359 = .ok (.iload 4, 2) := by decide +kernel
theorem dL_law_361 : decode cL_law 361 = .ok (.iconst 1, 1) := by decide +kernel
theorem dL_law_362 : decode cL_law 362 = .ok (.iadd, 1) := by decide +kernel
theorem dL_law_363 : decode cL_law 363 = .ok (.iaload, 1) := by decide +kernel
theorem dL_law_364 : decode cL_law 364 = .ok (.invokevirtual 48, 3) := by decide +kernel
theorem dL_law_367 : decode cL_law 367 = .ok (.aload_n 2, 1) := by decide +kernel
theorem dL_law_368 : decode cL_law 368 = .ok (.aload_n 0, 1) := by decide +kernel
theorem dL_law_369 : decode cL_law 369 = .ok (.iload 4, 2) := by decide +kernel
theorem dL_law_371 : decode cL_law 371 = .ok (.iconst 1, 1) := by decide +kernel
theorem dL_law_372 : decode cL_law 372 = .ok (.iadd, 1) := by decide +kernel
theorem dL_law_373 : decode cL_law 373 = .ok (.iaload, 1) := by decide +kernel
theorem dL_law_374 : decode cL_law 374 = .ok (.invokevirtual 51, 3) := by decide +kernel
theorem dL_law_377 : decode cL_law 377 = .ok (.if_icmp .eq 362, 3) := by decide +kernel
theorem dL_law_380 : decode cL_law 380 = .ok (.iconst 0, 1) := by decide +kernel
theorem dL_law_381 : decode cL_law 381 = .ok (.ireturn, 1) := by decide +kernel
theorem dL_law_382 : decode cL_law 382 = .ok (.aload_n 1, 1) := by decide +kernel
theorem dL_law_383 : decode cL_law 383 = .ok (.aload_n 0, 1) := by decide +kernel
theorem dL_law_384 : decode cL_law 384 = .ok (.iload 4, 2) := by decide +kernel
theorem dL_law_386 : decode cL_law 386 = .ok (.iconst 1, 1) := by decide +kernel
theorem dL_law_387 : decode cL_law 387 = .ok (.iadd, 1) := by decide +kernel
theorem dL_law_388 : decode cL_law 388 = .ok (.iaload, 1) := by decide +kernel
theorem dL_law_389 : decode cL_law 389 = .ok (.invokevirtual 52, 3) := by decide +kernel
theorem dL_law_392 : decode cL_law 392 = .ok (.aload_n 2, 1) := by decide +kernel
theorem dL_law_393 : decode cL_law 393 = .ok (.aload_n 0, 1) := by decide +kernel
theorem dL_law_394 : decode cL_law 394 = .ok (.iload 4, 2) := by decide +kernel
theorem dL_law_396 : decode cL_law 396 = .ok (.iconst 1, 1) := by decide +kernel
theorem dL_law_397 : decode cL_law 397 = .ok (.iadd, 1) := by decide +kernel
theorem dL_law_398 : decode cL_law 398 = .ok (.iaload, 1) := by decide +kernel
theorem dL_law_399 : decode cL_law 399 = .ok (.invokevirtual 55, 3) := by decide +kernel
theorem dL_law_402 : decode cL_law 402 = .ok (.if_icmp .eq 337, 3) := by decide +kernel
theorem dL_law_405 : decode cL_law 405 = .ok (.iconst 0, 1) := by decide +kernel
theorem dL_law_406 : decode cL_law 406 = .ok (.ireturn, 1) := by decide +kernel
theorem dL_law_407 : decode cL_law 407 = .ok (.aload_n 1, 1) := by decide +kernel
theorem dL_law_408 : decode cL_law 408 = .ok (.aload_n 0, 1) := by decide +kernel
theorem dL_law_409 : decode cL_law 409 = .ok (.iload 4, 2) := by decide +kernel
theorem dL_law_411 : decode cL_law 411 = .ok (.iconst 1, 1) := by decide +kernel
theorem dL_law_412 : decode cL_law 412 = .ok (.iadd, 1) := by decide +kernel
theorem dL_law_413 : decode cL_law 413 = .ok (.iaload, 1) := by decide +kernel
theorem dL_law_414 : decode cL_law 414 = .ok (.invokevirtual 56, 3) := by decide +kernel
theorem dL_law_417 : decode cL_law 417 = .ok (.aload_n 2, 1) := by decide +kernel
theorem dL_law_418 : decode cL_law 418 = .ok (.aload_n 0, 1) := by decide +kernel
theorem dL_law_419 : decode cL_law 419 = .ok (.iload 4, 2) := by decide +kernel
theorem dL_law_421 : decode cL_law 421 = .ok (.iconst 1, 1) := by decide +kernel
theorem dL_law_422 : decode cL_law 422 = .ok (.iadd, 1) := by decide +kernel
theorem dL_law_423 : decode cL_law 423 = .ok (.iaload, 1) := by decide +kernel
theorem dL_law_424 : decode cL_law 424 = .ok (.invokevirtual 59, 3) := by decide +kernel
theorem dL_law_427 : decode cL_law 427 = .ok (.if_icmp .eq 312, 3) := by decide +kernel
theorem dL_law_430 : decode cL_law 430 = .ok (.iconst 0, 1) := by decide +kernel
theorem dL_law_431 : decode cL_law 431 = .ok (.ireturn, 1) := by decide +kernel
theorem dL_law_432 : decode cL_law 432 = .ok (.aload_n 1, 1) := by decide +kernel
theorem dL_law_433 : decode cL_law 433 = .ok (.aload_n 0, 1) := by decide +kernel
theorem dL_law_434 : decode cL_law 434 = .ok (.iload 4, 2) := by decide +kernel
theorem dL_law_436 : decode cL_law 436 = .ok (.iconst 1, 1) := by decide +kernel
theorem dL_law_437 : decode cL_law 437 = .ok (.iadd, 1) := by decide +kernel
theorem dL_law_438 : decode cL_law 438 = .ok (.iaload, 1) := by decide +kernel
theorem dL_law_439 : decode cL_law 439 = .ok (.invokevirtual 60, 3) := by decide +kernel
theorem dL_law_442 : decode cL_law 442 = .ok (.aload_n 2, 1) := by decide +kernel
theorem dL_law_443 : decode cL_law 443 = .ok (.aload_n 0, 1) := by decide +kernel
theorem dL_law_444 : decode cL_law 444 = .ok (.iload 4, 2) := by decide +kernel
theorem dL_law_446 : decode cL_law 446 = .ok (.iconst 1, 1) := by decide +kernel
theorem dL_law_447 : decode cL_law 447 = .ok (.iadd, 1) := by decide +kernel
theorem dL_law_448 : decode cL_law 448 = .ok (.iaload, 1) := by decide +kernel
theorem dL_law_449 : decode cL_law 449 = .ok (.invokevirtual 64, 3) := by decide +kernel
theorem dL_law_452 : decode cL_law 452 = .ok (.lcmp, 1) := by decide +kernel
theorem dL_law_453 : decode cL_law 453 = .ok (.ifCond .eq 286, 3) := by decide +kernel
theorem dL_law_456 : decode cL_law 456 = .ok (.iconst 0, 1) := by decide +kernel
theorem dL_law_457 : decode cL_law 457 = .ok (.ireturn, 1) := by decide +kernel
theorem dL_law_458 : decode cL_law 458 = .ok (.aload_n 1, 1) := by decide +kernel
theorem dL_law_459 : decode cL_law 459 = .ok (.invokevirtual 65, 3) := by decide +kernel
theorem dL_law_462 : decode cL_law 462 = .ok (.aload_n 2, 1) := by decide +kernel
theorem dL_law_463 : decode cL_law 463 = .ok (.invokevirtual 69, 3) := by decide +kernel
theorem dL_law_466 : decode cL_law 466 = .ok (.if_icmp .eq 273, 3) := by decide +kernel
theorem dL_law_469 : decode cL_law 469 = .ok (.iconst 0, 1) := by decide +kernel
theorem dL_law_470 : decode cL_law 470 = .ok (.ireturn, 1) := by decide +kernel
theorem dL_law_471 : decode cL_law 471 = .ok (.aload_n 1, 1) := by decide +kernel
theorem dL_law_472 : decode cL_law 472 = .ok (.aload_n 0, 1) := by decide +kernel
theorem dL_law_473 : decode cL_law 473 = .ok (.iload 4, 2) := by decide +kernel
theorem dL_law_475 : decode cL_law 475 = .ok (.iconst 1, 1) := by decide +kernel
theorem dL_law_476 : decode cL_law 476 = .ok (.iadd, 1) := by decide +kernel
theorem dL_law_477 : decode cL_law 477 = .ok (.iaload, 1) := by decide +kernel
theorem dL_law_478 : decode cL_law 478 = .ok (.aload_n 0, 1) := by decide +kernel
theorem dL_law_479 : decode cL_law 479 = .ok (.iload 4, 2) := by decide +kernel
theorem dL_law_481 : decode cL_law 481 = .ok (.iconst 2, 1) := by decide +kernel
theorem dL_law_482 : decode cL_law 482 = .ok (.iadd, 1) := by decide +kernel
theorem dL_law_483 : decode cL_law 483 = .ok (.iaload, 1) := by decide +kernel
theorem dL_law_484 : decode cL_law 484 = .ok (.invokevirtual 70, 3) := by decide +kernel
theorem dL_law_487 : decode cL_law 487 = .ok (.aload_n 2, 1) := by decide +kernel
theorem dL_law_488 : decode cL_law 488 = .ok (.aload_n 0, 1) := by decide +kernel
theorem dL_law_489 : decode cL_law 489 = .ok (.iload 4, 2) := by decide +kernel
theorem dL_law_491 : decode cL_law 491 = .ok (.iconst 1, 1) := by decide +kernel
theorem dL_law_492 : decode cL_law 492 = .ok (.iadd, 1) := by decide +kernel
theorem dL_law_493 : decode cL_law 493 = .ok (.iaload, 1) := by decide +kernel
theorem dL_law_494 : decode cL_law 494 = .ok (.aload_n 0, 1) := by decide +kernel
theorem dL_law_495 : decode cL_law 495 = .ok (.iload 4, 2) := by decide +kernel
theorem dL_law_497 : decode cL_law 497 = .ok (.iconst 2, 1) := by decide +kernel
theorem dL_law_498 : decode cL_law 498 = .ok (.iadd, 1) := by decide +kernel
theorem dL_law_499 : decode cL_law 499 = .ok (.iaload, 1) := by decide +kernel
theorem dL_law_500 : decode cL_law 500 = .ok (.invokevirtual 73, 3) := by decide +kernel
theorem dL_law_503 : decode cL_law 503 = .ok (.if_icmp .eq 236, 3) := by decide +kernel
theorem dL_law_506 : decode cL_law 506 = .ok (.iconst 0, 1) := by decide +kernel
theorem dL_law_507 : decode cL_law 507 = .ok (.ireturn, 1) := by decide +kernel
theorem dL_law_508 : decode cL_law 508 = .ok (.aload_n 1, 1) := by decide +kernel
theorem dL_law_509 : decode cL_law 509 = .ok (.invokevirtual 74, 3) := by decide +kernel
theorem dL_law_512 : decode cL_law 512 = .ok (.aload_n 2, 1) := by decide +kernel
theorem dL_law_513 : decode cL_law 513 = .ok (.invokevirtual 77, 3) := by decide +kernel
theorem dL_law_516 : decode cL_law 516 = .ok (.if_icmp .eq 223, 3) := by decide +kernel
theorem dL_law_519 : decode cL_law 519 = .ok (.iconst 0, 1) := by decide +kernel
theorem dL_law_520 : decode cL_law 520 = .ok (.ireturn, 1) := by decide +kernel
theorem dL_law_521 : decode cL_law 521 = .ok (.aload_n 1, 1) := by decide +kernel
theorem dL_law_522 : decode cL_law 522 = .ok (.aload_n 0, 1) := by decide +kernel
theorem dL_law_523 : decode cL_law 523 = .ok (.iload 4, 2) := by decide +kernel
theorem dL_law_525 : decode cL_law 525 = .ok (.iconst 1, 1) := by decide +kernel
theorem dL_law_526 : decode cL_law 526 = .ok (.iadd, 1) := by decide +kernel
theorem dL_law_527 : decode cL_law 527 = .ok (.iaload, 1) := by decide +kernel
theorem dL_law_528 : decode cL_law 528 = .ok (.invokevirtual 78, 3) := by decide +kernel
theorem dL_law_531 : decode cL_law 531 = .ok (.aload_n 2, 1) := by decide +kernel
theorem dL_law_532 : decode cL_law 532 = .ok (.aload_n 0, 1) := by decide +kernel
theorem dL_law_533 : decode cL_law 533 = .ok (.iload 4, 2) := by decide +kernel
theorem dL_law_535 : decode cL_law 535 = .ok (.iconst 1, 1) := by decide +kernel
theorem dL_law_536 : decode cL_law 536 = .ok (.iadd, 1) := by decide +kernel
theorem dL_law_537 : decode cL_law 537 = .ok (.iaload, 1) := by decide +kernel
theorem dL_law_538 : decode cL_law 538 = .ok (.invokevirtual 81, 3) := by decide +kernel
theorem dL_law_541 : decode cL_law 541 = .ok (.if_icmp .eq 198, 3) := by decide +kernel
theorem dL_law_544 : decode cL_law 544 = .ok (.iconst 0, 1) := by decide +kernel
theorem dL_law_545 : decode cL_law 545 = .ok (.ireturn, 1) := by decide +kernel
theorem dL_law_546 : decode cL_law 546 = .ok (.aload_n 1, 1) := by decide +kernel
theorem dL_law_547 : decode cL_law 547 = .ok (.aload_n 0, 1) := by decide +kernel
theorem dL_law_548 : decode cL_law 548 = .ok (.iload 4, 2) := by decide +kernel
theorem dL_law_550 : decode cL_law 550 = .ok (.iconst 1, 1) := by decide +kernel
theorem dL_law_551 : decode cL_law 551 = .ok (.iadd, 1) := by decide +kernel
theorem dL_law_552 : decode cL_law 552 = .ok (.iaload, 1) := by decide +kernel
theorem dL_law_553 : decode cL_law 553 = .ok (.aload_n 0, 1) := by decide +kernel
theorem dL_law_554 : decode cL_law 554 = .ok (.iload 4, 2) := by decide +kernel
theorem dL_law_556 : decode cL_law 556 = .ok (.iconst 2, 1) := by decide +kernel
theorem dL_law_557 : decode cL_law 557 = .ok (.iadd, 1) := by decide +kernel
theorem dL_law_558 : decode cL_law 558 = .ok (.iaload, 1) := by decide +kernel
theorem dL_law_559 : decode cL_law 559 = .ok (.invokevirtual 82, 3) := by decide +kernel
theorem dL_law_562 : decode cL_law 562 = .ok (.aload_n 2, 1) := by decide +kernel
theorem dL_law_563 : decode cL_law 563 = .ok (.aload_n 0, 1) := by decide +kernel
theorem dL_law_564 : decode cL_law 564 = .ok (.iload 4, 2) := by decide +kernel
theorem dL_law_566 : decode cL_law 566 = .ok (.iconst 1, 1) := by decide +kernel
theorem dL_law_567 : decode cL_law 567 = .ok (.iadd, 1) := by decide +kernel
theorem dL_law_568 : decode cL_law 568 = .ok (.iaload, 1) := by decide +kernel
theorem dL_law_569 : decode cL_law 569 = .ok (.aload_n 0, 1) := by decide +kernel
theorem dL_law_570 : decode cL_law 570 = .ok (.iload 4, 2) := by decide +kernel
theorem dL_law_572 : decode cL_law 572 = .ok (.iconst 2, 1) := by decide +kernel
theorem dL_law_573 : decode cL_law 573 = .ok (.iadd, 1) := by decide +kernel
theorem dL_law_574 : decode cL_law 574 = .ok (.iaload, 1) := by decide +kernel
theorem dL_law_575 : decode cL_law 575 = .ok (.invokevirtual 85, 3) := by decide +kernel
theorem dL_law_578 : decode cL_law 578 = .ok (.if_icmp .eq 161, 3) := by decide +kernel
theorem dL_law_581 : decode cL_law 581 = .ok (.iconst 0, 1) := by decide +kernel
theorem dL_law_582 : decode cL_law 582 = .ok (.ireturn, 1) := by decide +kernel
theorem dL_law_583 : decode cL_law 583 = .ok (.aload_n 1, 1) := by decide +kernel
theorem dL_law_584 : decode cL_law 584 = .ok (.aload_n 0, 1) := by decide +kernel
theorem dL_law_585 : decode cL_law 585 = .ok (.iload 4, 2) := by decide +kernel
theorem dL_law_587 : decode cL_law 587 = .ok (.iconst 1, 1) := by decide +kernel
theorem dL_law_588 : decode cL_law 588 = .ok (.iadd, 1) := by decide +kernel
theorem dL_law_589 : decode cL_law 589 = .ok (.iaload, 1) := by decide +kernel
theorem dL_law_590 : decode cL_law 590 = .ok (.aload_n 3, 1) := by decide +kernel
theorem dL_law_591 : decode cL_law 591 = .ok (.invokestatic 86, 3) := by decide +kernel
theorem dL_law_594 : decode cL_law 594 = .ok (.istore 5, 2) := by decide +kernel
theorem dL_law_596 : decode cL_law 596 = .ok (.aload_n 2, 1) := by decide +kernel
theorem dL_law_597 : decode cL_law 597 = .ok (.aload_n 0, 1) := by decide +kernel
theorem dL_law_598 : decode cL_law 598 = .ok (.iload 4, 2) := by decide +kernel
theorem dL_law_600 : decode cL_law 600 = .ok (.iconst 1, 1) := by decide +kernel
theorem dL_law_601 : decode cL_law 601 = .ok (.iadd, 1) := by decide +kernel
theorem dL_law_602 : decode cL_law 602 = .ok (.iaload, 1) := by decide +kernel
theorem dL_law_603 : decode cL_law 603 = .ok (.invokevirtual 91, 3) := by decide +kernel
theorem dL_law_606 : decode cL_law 606 = .ok (.istore 6, 2) := by decide +kernel
theorem dL_law_608 : decode cL_law 608 = .ok (.aload_n 2, 1) := by decide +kernel
theorem dL_law_609 : decode cL_law 609 = .ok (.invokevirtual 92, 3) := by decide +kernel
theorem dL_law_612 : decode cL_law 612 = .ok (.iload 5, 2) := by decide +kernel
theorem dL_law_614 : decode cL_law 614 = .ok (.if_icmp .eq 5, 3) := by decide +kernel
theorem dL_law_617 : decode cL_law 617 = .ok (.iconst 0, 1) := by decide +kernel
theorem dL_law_618 : decode cL_law 618 = .ok (.ireturn, 1) := by decide +kernel
theorem dL_law_619 : decode cL_law 619 = .ok (.iload 5, 2) := by decide +kernel
theorem dL_law_621 : decode cL_law 621 = .ok (.ifCond .ne 15, 3) := by decide +kernel
theorem dL_law_624 : decode cL_law 624 = .ok (.aload_n 3, 1) := by decide +kernel
theorem dL_law_625 : decode cL_law 625 = .ok (.iconst 0, 1) := by decide +kernel
theorem dL_law_626 : decode cL_law 626 = .ok (.laload, 1) := by decide +kernel
theorem dL_law_627 : decode cL_law 627 = .ok (.iload 6, 2) := by decide +kernel
theorem dL_law_629 : decode cL_law 629 = .ok (.i2l, 1) := by decide +kernel
theorem dL_law_630 : decode cL_law 630 = .ok (.lcmp, 1) := by decide +kernel
theorem dL_law_631 : decode cL_law 631 = .ok (.ifCond .eq 5, 3) := by decide +kernel
theorem dL_law_634 : decode cL_law 634 = .ok (.iconst 0, 1) := by decide +kernel
theorem dL_law_635 : decode cL_law 635 = .ok (.ireturn, 1) := by decide +kernel
theorem dL_law_636 : decode cL_law 636 = .ok (.goto 103, 3) := by decide +kernel
theorem dL_law_639 : decode cL_law 639 = .ok (.aload_n 1, 1) := by decide +kernel
theorem dL_law_640 : decode cL_law 640 = .ok (.invokevirtual 95, 3) := by decide +kernel
theorem dL_law_643 : decode cL_law 643 = .ok (.aload_n 2, 1) := by decide +kernel
theorem dL_law_644 : decode cL_law 644 = .ok (.invokevirtual 98, 3) := by decide +kernel
theorem dL_law_647 : decode cL_law 647 = .ok (.if_icmp .eq 92, 3) := by decide +kernel
theorem dL_law_650 : decode cL_law 650 = .ok (.iconst 0, 1) := by decide +kernel
theorem dL_law_651 : decode cL_law 651 = .ok (.ireturn, 1) := by decide +kernel
theorem dL_law_652 : decode cL_law 652 = .ok (.aload_n 1, 1) := by decide +kernel
theorem dL_law_653 : decode cL_law 653 = .ok (.aload_n 0, 1) := by decide +kernel
theorem dL_law_654 : decode cL_law 654 = .ok (.iload 4, 2) := by decide +kernel
theorem dL_law_656 : decode cL_law 656 = .ok (.iconst 1, 1) := by decide +kernel
theorem dL_law_657 : decode cL_law 657 = .ok (.iadd, 1) := by decide +kernel
theorem dL_law_658 : decode cL_law 658 = .ok (.iaload, 1) := by decide +kernel
theorem dL_law_659 : decode cL_law 659 = .ok (.invokevirtual 99, 3) := by decide +kernel
theorem dL_law_662 : decode cL_law 662 = .ok (.aload_n 2, 1) := by decide +kernel
theorem dL_law_663 : decode cL_law 663 = .ok (.aload_n 0, 1) := by decide +kernel
theorem dL_law_664 : decode cL_law 664 = .ok (.iload 4, 2) := by decide +kernel
theorem dL_law_666 : decode cL_law 666 = .ok (.iconst 1, 1) := by decide +kernel
theorem dL_law_667 : decode cL_law 667 = .ok (.iadd, 1) := by decide +kernel
theorem dL_law_668 : decode cL_law 668 = .ok (.iaload, 1) := by decide +kernel
theorem dL_law_669 : decode cL_law 669 = .ok (.invokevirtual 102, 3) := by decide +kernel
theorem dL_law_672 : decode cL_law 672 = .ok (.if_icmp .eq 67, 3) := by decide +kernel
theorem dL_law_675 : decode cL_law 675 = .ok (.iconst 0, 1) := by decide +kernel
theorem dL_law_676 : decode cL_law 676 = .ok (.ireturn, 1) := by decide +kernel
theorem dL_law_677 : decode cL_law 677 = .ok (.aload_n 1, 1) := by decide +kernel
theorem dL_law_678 : decode cL_law 678 = .ok (.aload_n 0, 1) := by decide +kernel
theorem dL_law_679 : decode cL_law 679 = .ok (.iload 4, 2) := by decide +kernel
theorem dL_law_681 : decode cL_law 681 = .ok (.iconst 1, 1) := by decide +kernel
theorem dL_law_682 : decode cL_law 682 = .ok (.iadd, 1) := by decide +kernel
theorem dL_law_683 : decode cL_law 683 = .ok (.iaload, 1) := by decide +kernel
theorem dL_law_684 : decode cL_law 684 = .ok (.aload_n 0, 1) := by decide +kernel
theorem dL_law_685 : decode cL_law 685 = .ok (.iload 4, 2) := by decide +kernel
theorem dL_law_687 : decode cL_law 687 = .ok (.iconst 2, 1) := by decide +kernel
theorem dL_law_688 : decode cL_law 688 = .ok (.iadd, 1) := by decide +kernel
theorem dL_law_689 : decode cL_law 689 = .ok (.iaload, 1) := by decide +kernel
theorem dL_law_690 : decode cL_law 690 = .ok (.invokevirtual 103, 3) := by decide +kernel
theorem dL_law_693 : decode cL_law 693 = .ok (.aload_n 2, 1) := by decide +kernel
theorem dL_law_694 : decode cL_law 694 = .ok (.aload_n 0, 1) := by decide +kernel
theorem dL_law_695 : decode cL_law 695 = .ok (.iload 4, 2) := by decide +kernel
theorem dL_law_697 : decode cL_law 697 = .ok (.iconst 1, 1) := by decide +kernel
theorem dL_law_698 : decode cL_law 698 = .ok (.iadd, 1) := by decide +kernel
theorem dL_law_699 : decode cL_law 699 = .ok (.iaload, 1) := by decide +kernel
theorem dL_law_700 : decode cL_law 700 = .ok (.aload_n 0, 1) := by decide +kernel
theorem dL_law_701 : decode cL_law 701 = .ok (.iload 4, 2) := by decide +kernel
theorem dL_law_703 : decode cL_law 703 = .ok (.iconst 2, 1) := by decide +kernel
theorem dL_law_704 : decode cL_law 704 = .ok (.iadd, 1) := by decide +kernel
theorem dL_law_705 : decode cL_law 705 = .ok (.iaload, 1) := by decide +kernel
theorem dL_law_706 : decode cL_law 706 = .ok (.invokevirtual 106, 3) := by decide +kernel
theorem dL_law_709 : decode cL_law 709 = .ok (.if_icmp .eq 30, 3) := by decide +kernel
theorem dL_law_712 : decode cL_law 712 = .ok (.iconst 0, 1) := by decide +kernel
theorem dL_law_713 : decode cL_law 713 = .ok (.ireturn, 1) := by decide +kernel
theorem dL_law_714 : decode cL_law 714 = .ok (.aload_n 1, 1) := by decide +kernel
theorem dL_law_715 : decode cL_law 715 = .ok (.aload_n 0, 1) := by decide +kernel
theorem dL_law_716 : decode cL_law 716 = .ok (.iload 4, 2) := by decide +kernel
theorem dL_law_718 : decode cL_law 718 = .ok (.iconst 1, 1) := by decide +kernel
theorem dL_law_719 : decode cL_law 719 = .ok (.iadd, 1) := by decide +kernel
theorem dL_law_720 : decode cL_law 720 = .ok (.iaload, 1) := by decide +kernel
theorem dL_law_721 : decode cL_law 721 = .ok (.invokevirtual 107, 3) := by decide +kernel
theorem dL_law_724 : decode cL_law 724 = .ok (.aload_n 2, 1) := by decide +kernel
theorem dL_law_725 : decode cL_law 725 = .ok (.aload_n 0, 1) := by decide +kernel
theorem dL_law_726 : decode cL_law 726 = .ok (.iload 4, 2) := by decide +kernel
theorem dL_law_728 : decode cL_law 728 = .ok (.iconst 1, 1) := by decide +kernel
theorem dL_law_729 : decode cL_law 729 = .ok (.iadd, 1) := by decide +kernel
theorem dL_law_730 : decode cL_law 730 = .ok (.iaload, 1) := by decide +kernel
theorem dL_law_731 : decode cL_law 731 = .ok (.invokevirtual 110, 3) := by decide +kernel
theorem dL_law_734 : decode cL_law 734 = .ok (.if_icmp .eq 5, 3) := by decide +kernel
theorem dL_law_737 : decode cL_law 737 = .ok (.iconst 0, 1) := by decide +kernel
theorem dL_law_738 : decode cL_law 738 = .ok (.ireturn, 1) := by decide +kernel
theorem dL_law_739 : decode cL_law 739 = .ok (.iinc 4 3, 3) := by decide +kernel
theorem dL_law_742 : decode cL_law 742 = .ok (.goto (-719), 3) := by decide +kernel
theorem dL_law_745 : decode cL_law 745 = .ok (.iconst 1, 1) := by decide +kernel
theorem dL_law_746 : decode cL_law 746 = .ok (.ireturn, 1) := by decide +kernel
end
section
/-- the words of the tables that a callee may take over -/
def lwg : List Cond := lw_tbl.filter goodWord
theorem lwg_of {w : Cond} (i : Nat) (h : tables_1[i]? = some w) (hg : goodWord w = true) : w ∈ lwg := List.mem_filter.mpr ⟨List.mem_append_right _ (List.mem_of_getElem? h), hg⟩
theorem lwg_sel {w : Cond} (i : Nat) (h : (k2_sels lw_privs)[i]? = some w) (hg : goodWord w = true) : w ∈ lwg := List.mem_filter.mpr ⟨List.mem_append_left _ (List.mem_of_getElem? h), hg⟩
/-- the places of the heap: an int array of so many, or an object of a class (its number in vwCl) with its fields: 0 an int, 1 a boolean, k + 2 a reference to place k -/
def SH : List (Nat ⊕ (Nat × List Nat)) := [.inr (7, [3, 9, 12, 17, 21, 24, 31]),
  .inr (6, [4, 5, 6, 7, 8, 0, 0, 0, 0, 0]),
  .inl 60,
  .inl 60,
  .inl 12,
  .inl 12,
  .inl 5,
  .inr (4, [10, 11, 0]),
  .inl 120,
  .inl 120,
  .inr (5, [3, 13, 14, 15, 16, 0]),
  .inl 74,
  .inl 74,
  .inl 74,
  .inl 62,
  .inr (3, [3, 12, 9, 18, 19, 20]),
  .inl 7381,
  .inl 121,
  .inl 61,
  .inr (0, [3, 9, 22, 23, 0]),
  .inl 60,
  .inl 60,
  .inr (1, [3, 12, 9, 25, 26, 27, 28, 29, 30, 1, 0, 0]),
  .inl 7381,
  .inl 7320,
  .inl 120,
  .inl 60,
  .inl 60,
  .inl 60,
  .inr (2, [32, 33, 0]),
  .inl 60,
  .inl 60,
  .inr (8, [35, 36, 37, 38, 0, 39, 40, 0, 0, 0, 41, 0, 42, 43, 0, 0, 44, 45, 46, 0, 47, 48, 0, 49, 50, 0, 51, 1, 0, 52, 53, 54, 55, 0, 0]),
  .inl 60,
  .inl 60,
  .inl 60,
  .inl 60,
  .inl 12,
  .inl 12,
  .inl 5,
  .inl 120,
  .inl 120,
  .inl 61,
  .inl 61,
  .inl 61,
  .inl 120,
  .inl 120,
  .inl 14,
  .inl 14,
  .inl 7381,
  .inl 7400,
  .inl 7400,
  .inl 7400,
  .inl 7400]
/-- the place behind them: the constant array of the first costs -/
abbrev roP : Nat := 54
def MT : List (MethodName × ByteArray × Nat × Option FieldType) := [(yX0_init, cX0_init, 3, none),
  (yX0_look, cX0_look, 3, none),
  (yX0_timeGone, cX0_timeGone, 1, (some .int)),
  (yX0_startGrown, cX0_startGrown, 1, (some .int)),
  (yX0_expected, cX0_expected, 4, (some .long)),
  (yX0_firstOfLatest, cX0_firstOfLatest, 1, (some .int)),
  (yX1_init, cX1_init, 4, none),
  (yX1_find, cX1_find, 2, none),
  (yX1_tell, cX1_tell, 4, (some .int)),
  (yX1_isTouched, cX1_isTouched, 2, (some .boolean)),
  (yX1_isFaultless, cX1_isFaultless, 2, (some .boolean)),
  (yX1_restAt, cX1_restAt, 3, (some .int)),
  (yX1_lowerRest, cX1_lowerRest, 5, none),
  (yX1_playPrice, cX1_playPrice, 3, (some .int)),
  (yX1_leapPrice, cX1_leapPrice, 3, (some .int)),
  (yX1_passPrice, cX1_passPrice, 2, (some .int)),
  (yX1_weighTaking, cX1_weighTaking, 5, none),
  (yX1_weighPassing, cX1_weighPassing, 6, none),
  (yX1_walk, cX1_walk, 5, none),
  (yX1_forgetCourse, cX1_forgetCourse, 2, none),
  (yX1_plays, cX1_plays, 6, (some .boolean)),
  (yX1_stays, cX1_stays, 4, (some .boolean)),
  (yX1_passes, cX1_passes, 6, (some .boolean)),
  (yX1_leaps, cX1_leaps, 5, (some .boolean)),
  (yX1_match, cX1_match, 5, (some .boolean)),
  (yX1_keepStep, cX1_keepStep, 5, (some .boolean)),
  (yX2_init, cX2_init, 1, none),
  (yX2_open, cX2_open, 2, none),
  (yX2_raise, cX2_raise, 2, none),
  (yX2_drop, cX2_drop, 2, none),
  (yX2_put, cX2_put, 3, none),
  (yX2_countDue, cX2_countDue, 4, (some .int)),
  (yX2_dueAt, cX2_dueAt, 6, (some .int)),
  (yX3_init, cX3_init, 5, none),
  (yX3_placeNow, cX3_placeNow, 1, (some .int)),
  (yX3_placeBehind, cX3_placeBehind, 2, (some .int)),
  (yX3_valueNow, cX3_valueNow, 2, (some .int)),
  (yX3_follow, cX3_follow, 3, none),
  (yX3_passOn, cX3_passOn, 4, none),
  (yX3_passOnce, cX3_passOnce, 5, (some .boolean)),
  (yX3_take, cX3_take, 7, none),
  (yX3_lower, cX3_lower, 5, none),
  (yX3_nearestOfLeast, cX3_nearestOfLeast, 7, (some .int)),
  (yX3_forgetFar, cX3_forgetFar, 4, none),
  (yX4_init, cX4_init, 1, none),
  (yX4_add, cX4_add, 3, (some .int)),
  (yX4_lastTime, cX4_lastTime, 1, (some .int)),
  (yX5_init, cX5_init, 2, none),
  (yX5_lay, cX5_lay, 2, none),
  (yX5_layFrom, cX5_layFrom, 4, none),
  (yX5_add, cX5_add, 4, none),
  (yX5_beginOf, cX5_beginOf, 2, (some .int)),
  (yX5_endOf, cX5_endOf, 2, (some .int)),
  (yX6_init, cX6_init, 1, none),
  (yX6_empty, cX6_empty, 2, none),
  (yX6_addNote, cX6_addNote, 3, (some .int)),
  (yX6_addWay, cX6_addWay, 3, (some .int)),
  (yX6_isNote, cX6_isNote, 2, (some .boolean)),
  (yX6_hasWay, cX6_hasWay, 4, (some .boolean)),
  (yX6_hasLoop, cX6_hasLoop, 1, (some .boolean)),
  (yX6_lastStart, cX6_lastStart, 1, (some .int)),
  (yX6_firstThere, cX6_firstThere, 1, (some .int)),
  (yX6_lastThere, cX6_lastThere, 1, (some .int)),
  (yX6_isThere, cX6_isThere, 2, (some .boolean)),
  (yX6_mistake, cX6_mistake, 3, (some .int)),
  (yX7_init, cX7_init, 1, none),
  (yX7_clear, cX7_clear, 1, none),
  (yX7_note, cX7_note, 4, (some .int)),
  (yX7_way, cX7_way, 3, (some .int)),
  (yX7_loop, cX7_loop, 5, (some .int)),
  (yX7_cost, cX7_cost, 5, (some .int)),
  (yX7_span, cX7_span, 3, (some .int)),
  (yX7_hear, cX7_hear, 4, (some .int)),
  (yX7_cut, cX7_cut, 3, (some .int)),
  (yX7_valueOf, cX7_valueOf, 3, (some .int)),
  (yX7_tempo, cX7_tempo, 2, (some .int)),
  (yX7_ahead, cX7_ahead, 2, (some .long)),
  (yX7_align, cX7_align, 1, (some .int)),
  (yX7_step, cX7_step, 3, (some .int)),
  (yX7_steps, cX7_steps, 1, (some .int)),
  (yX7_matched, cX7_matched, 2, (some .int)),
  (yX7_grade, cX7_grade, 3, (some .int)),
  (yX7_mean, cX7_mean, 3, (some .int)),
  (yX7_end, cX7_end, 2, (some .int)),
  (yX7_due, cX7_due, 2, (some .int)),
  (yX7_of, cX7_of, 3, (some .int)),
  (yX7_told, cX7_told, 2, (some .int)),
  (yX7_hearNothing, cX7_hearNothing, 1, none),
  (yX7_isWithin, cX7_isWithin, 3, (some .boolean)),
  (yX7_sumOf, cX7_sumOf, 4, (some .int)),
  (yX7_lowestTerms, cX7_lowestTerms, 5, (some .int)),
  (yX7_commonDivisor, cX7_commonDivisor, 6, (some .int)),
  (yX8_init, cX8_init, 1, none),
  (yX8_thrown, cX8_thrown, 1, (some .int)),
  (yX8_begin, cX8_begin, 1, none),
  (yX8_fresh, cX8_fresh, 1, none),
  (yX8_clear, cX8_clear, 1, none),
  (yX8_isThere, cX8_isThere, 2, (some .boolean)),
  (yX8_note, cX8_note, 3, (some .int)),
  (yX8_way, cX8_way, 5, (some .int)),
  (yX8_loop, cX8_loop, 4, (some .int)),
  (yX8_cost, cX8_cost, 4, (some .int)),
  (yX8_span, cX8_span, 3, (some .int)),
  (yX8_nextsOf, cX8_nextsOf, 4, none),
  (yX8_lay, cX8_lay, 3, none),
  (yX8_wrong, cX8_wrong, 3, (some .int)),
  (yX8_follow, cX8_follow, 2, none),
  (yX8_further, cX8_further, 2, none),
  (yX8_pass, cX8_pass, 5, none),
  (yX8_take, cX8_take, 6, none),
  (yX8_choose, cX8_choose, 6, none),
  (yX8_anchor, cX8_anchor, 2, none),
  (yX8_hear, cX8_hear, 3, (some .int)),
  (yX8_cut, cX8_cut, 2, (some .int)),
  (yX8_valueOf, cX8_valueOf, 2, (some .int)),
  (yX8_common, cX8_common, 5, (some .int)),
  (yX8_tempoOf, cX8_tempoOf, 6, (some .int)),
  (yX8_tempo, cX8_tempo, 2, (some .int)),
  (yX8_ahead, cX8_ahead, 8, (some .long)),
  (yX8_at, cX8_at, 3, (some .int)),
  (yX8_left, cX8_left, 6, none),
  (yX8_put, cX8_put, 5, none),
  (yX8_choose_, cX8_choose_, 6, none),
  (yX8_align, cX8_align, 3, (some .int)),
  (yX8_step, cX8_step, 3, (some .int)),
  (yX8_steps, cX8_steps, 1, (some .int)),
  (yX8_matched, cX8_matched, 4, (some .int)),
  (yX8_count, cX8_count, 7, (some .int)),
  (yX8_grade, cX8_grade, 3, (some .int)),
  (yX8_mean, cX8_mean, 5, (some .int)),
  (yX8_end, cX8_end, 4, (some .int)),
  (yX8_due, cX8_due, 6, (some .int)),
  (yX8_of, cX8_of, 3, (some .int)),
  (yX8_told, cX8_told, 2, (some .int)),
  (yJ9_floorDiv_f86c9, cJ9_floorDiv_f86c9, 6, (some .long)),
  (yJ9_abs_0f7a4, cJ9_abs_0f7a4, 1, (some .int)),
  (yJ9_max_7cf53, cJ9_max_7cf53, 2, (some .int)),
  (yJ9_min_7cf53, cJ9_min_7cf53, 2, (some .int))]
def mt_get (mi : Nat) : MethodName × ByteArray × Nat × Option FieldType := MT.getD mi (yX0_init, cX0_init, 0, none)
def mY (mi : Nat) : MethodName := (mt_get mi).1
def mB (mi : Nat) : ByteArray := (mt_get mi).2.1
def mX (mi : Nat) : Nat := (mt_get mi).2.2.1
def mR (mi : Nat) : Option FieldType := (mt_get mi).2.2.2
abbrev m_X0_init : Nat := 0
abbrev m_X0_look : Nat := 1
abbrev m_X0_timeGone : Nat := 2
abbrev m_X0_startGrown : Nat := 3
abbrev m_X0_expected : Nat := 4
abbrev m_X0_firstOfLatest : Nat := 5
abbrev m_X1_init : Nat := 6
abbrev m_X1_find : Nat := 7
abbrev m_X1_tell : Nat := 8
abbrev m_X1_isTouched : Nat := 9
abbrev m_X1_isFaultless : Nat := 10
abbrev m_X1_restAt : Nat := 11
abbrev m_X1_lowerRest : Nat := 12
abbrev m_X1_playPrice : Nat := 13
abbrev m_X1_leapPrice : Nat := 14
abbrev m_X1_passPrice : Nat := 15
abbrev m_X1_weighTaking : Nat := 16
abbrev m_X1_weighPassing : Nat := 17
abbrev m_X1_walk : Nat := 18
abbrev m_X1_forgetCourse : Nat := 19
abbrev m_X1_plays : Nat := 20
abbrev m_X1_stays : Nat := 21
abbrev m_X1_passes : Nat := 22
abbrev m_X1_leaps : Nat := 23
abbrev m_X1_match : Nat := 24
abbrev m_X1_keepStep : Nat := 25
abbrev m_X2_init : Nat := 26
abbrev m_X2_open : Nat := 27
abbrev m_X2_raise : Nat := 28
abbrev m_X2_drop : Nat := 29
abbrev m_X2_put : Nat := 30
abbrev m_X2_countDue : Nat := 31
abbrev m_X2_dueAt : Nat := 32
abbrev m_X3_init : Nat := 33
abbrev m_X3_placeNow : Nat := 34
abbrev m_X3_placeBehind : Nat := 35
abbrev m_X3_valueNow : Nat := 36
abbrev m_X3_follow : Nat := 37
abbrev m_X3_passOn : Nat := 38
abbrev m_X3_passOnce : Nat := 39
abbrev m_X3_take : Nat := 40
abbrev m_X3_lower : Nat := 41
abbrev m_X3_nearestOfLeast : Nat := 42
abbrev m_X3_forgetFar : Nat := 43
abbrev m_X4_init : Nat := 44
abbrev m_X4_add : Nat := 45
abbrev m_X4_lastTime : Nat := 46
abbrev m_X5_init : Nat := 47
abbrev m_X5_lay : Nat := 48
abbrev m_X5_layFrom : Nat := 49
abbrev m_X5_add : Nat := 50
abbrev m_X5_beginOf : Nat := 51
abbrev m_X5_endOf : Nat := 52
abbrev m_X6_init : Nat := 53
abbrev m_X6_empty : Nat := 54
abbrev m_X6_addNote : Nat := 55
abbrev m_X6_addWay : Nat := 56
abbrev m_X6_isNote : Nat := 57
abbrev m_X6_hasWay : Nat := 58
abbrev m_X6_hasLoop : Nat := 59
abbrev m_X6_lastStart : Nat := 60
abbrev m_X6_firstThere : Nat := 61
abbrev m_X6_lastThere : Nat := 62
abbrev m_X6_isThere : Nat := 63
abbrev m_X6_mistake : Nat := 64
abbrev m_X7_init : Nat := 65
abbrev m_X7_clear : Nat := 66
abbrev m_X7_note : Nat := 67
abbrev m_X7_way : Nat := 68
abbrev m_X7_loop : Nat := 69
abbrev m_X7_cost : Nat := 70
abbrev m_X7_span : Nat := 71
abbrev m_X7_hear : Nat := 72
abbrev m_X7_cut : Nat := 73
abbrev m_X7_valueOf : Nat := 74
abbrev m_X7_tempo : Nat := 75
abbrev m_X7_ahead : Nat := 76
abbrev m_X7_align : Nat := 77
abbrev m_X7_step : Nat := 78
abbrev m_X7_steps : Nat := 79
abbrev m_X7_matched : Nat := 80
abbrev m_X7_grade : Nat := 81
abbrev m_X7_mean : Nat := 82
abbrev m_X7_end : Nat := 83
abbrev m_X7_due : Nat := 84
abbrev m_X7_of : Nat := 85
abbrev m_X7_told : Nat := 86
abbrev m_X7_hearNothing : Nat := 87
abbrev m_X7_isWithin : Nat := 88
abbrev m_X7_sumOf : Nat := 89
abbrev m_X7_lowestTerms : Nat := 90
abbrev m_X7_commonDivisor : Nat := 91
abbrev m_X8_init : Nat := 92
abbrev m_X8_thrown : Nat := 93
abbrev m_X8_begin : Nat := 94
abbrev m_X8_fresh : Nat := 95
abbrev m_X8_clear : Nat := 96
abbrev m_X8_isThere : Nat := 97
abbrev m_X8_note : Nat := 98
abbrev m_X8_way : Nat := 99
abbrev m_X8_loop : Nat := 100
abbrev m_X8_cost : Nat := 101
abbrev m_X8_span : Nat := 102
abbrev m_X8_nextsOf : Nat := 103
abbrev m_X8_lay : Nat := 104
abbrev m_X8_wrong : Nat := 105
abbrev m_X8_follow : Nat := 106
abbrev m_X8_further : Nat := 107
abbrev m_X8_pass : Nat := 108
abbrev m_X8_take : Nat := 109
abbrev m_X8_choose : Nat := 110
abbrev m_X8_anchor : Nat := 111
abbrev m_X8_hear : Nat := 112
abbrev m_X8_cut : Nat := 113
abbrev m_X8_valueOf : Nat := 114
abbrev m_X8_common : Nat := 115
abbrev m_X8_tempoOf : Nat := 116
abbrev m_X8_tempo : Nat := 117
abbrev m_X8_ahead : Nat := 118
abbrev m_X8_at : Nat := 119
abbrev m_X8_left : Nat := 120
abbrev m_X8_put : Nat := 121
abbrev m_X8_choose_ : Nat := 122
abbrev m_X8_align : Nat := 123
abbrev m_X8_step : Nat := 124
abbrev m_X8_steps : Nat := 125
abbrev m_X8_matched : Nat := 126
abbrev m_X8_count : Nat := 127
abbrev m_X8_grade : Nat := 128
abbrev m_X8_mean : Nat := 129
abbrev m_X8_end : Nat := 130
abbrev m_X8_due : Nat := 131
abbrev m_X8_of : Nat := 132
abbrev m_X8_told : Nat := 133
abbrev m_J9_floorDiv_f86c9 : Nat := 134
abbrev m_J9_abs_0f7a4 : Nat := 135
abbrev m_J9_max_7cf53 : Nat := 136
abbrev m_J9_min_7cf53 : Nat := 137
def ra_F (own : String) (idx ci k : Nat) : Prop := ∃ (C : String) (T : u_T) (N : Nat), vwCl[ci]? = some (C, T, N) ∧ k < N ∧ (T k).1 = C ∧ Cond.fieldLink own idx C (T k).2.1 (T k).2.2.1 ∈ lwg
def ra_FP (own : String) (idx ci k kd : Nat) : Prop := ∃ (C : String) (T : u_T) (N : Nat), vwCl[ci]? = some (C, T, N) ∧ k < N ∧ (T k).1 = C ∧ Cond.fieldLink own idx C (T k).2.1 (T k).2.2.1 ∈ lwg ∧ (T k).2.2.2 = false ∧ parseFieldDescriptor (T k).2.2.1 = some (if kd = 0 then .int else .boolean)
def ra_C (own : String) (idx : Nat) (z : Int) : Prop := Cond.constant own idx (Int32.ofInt z) ∈ lwg ∧ -2147483648 ≤ z ∧ z ≤ 2147483647
def ra_CJ (own : String) (idx : Nat) (z : Int) : Prop := Cond.constantLong own idx (Int64.ofInt z) ∈ lwg ∧ -9223372036854775808 ≤ z ∧ z ≤ 9223372036854775807
def ra_ok (mi : Nat) : Prop := (plainFor (mY mi) = true ∧ (mY mi).cls ≠ "java/lang/invoke/MethodHandle" ∧ (mY mi).cls ≠ "java/lang/invoke/VarHandle") ∧ Cond.code (mY mi) (mB mi) (mX mi) (mR mi) ∈ lwg ∧ Cond.initialized (mY mi).cls ∈ lwg ∧ mX mi ≤ 15
def ra_CV (own : String) (idx mi n : Nat) : Prop := Cond.methodLink own idx (mY mi) ∈ lwg ∧ Cond.instanceMethod (mY mi) ∈ lwg ∧ Cond.selects (mY mi).cls (mY mi) (mY mi) ∈ lwg ∧ (parseMethodDescriptor (mY mi).desc).map (fun d => d.parameters.length) = some n ∧ ra_ok mi
def ra_CS (own : String) (idx mi n : Nat) : Prop := Cond.methodLink own idx (mY mi) ∈ lwg ∧ Cond.static (mY mi) ∈ lwg ∧ (parseMethodDescriptor (mY mi).desc).map (fun d => d.parameters.length) = some n ∧ ra_ok mi
def ra_gw : Cond := Cond.fieldLinkNest RX6 24 "FollowScore" "FIRST_COSTS" "[I" "FollowScore"
theorem ra_gw_in : ra_gw ∈ lw_tbl := List.mem_append_right _ (List.mem_of_getElem? (i := 29) (by decide +kernel))
def ra_G (own : String) (idx : Nat) : Prop := own = RX6 ∧ idx = 24
set_option maxRecDepth 30000 in
theorem ok_X0_init : ra_ok 0 := ⟨⟨by decide +kernel, by decide +kernel, by decide +kernel⟩, lwg_of 176 rfl rfl, lwg_of 6 rfl rfl, by decide⟩
set_option maxRecDepth 30000 in
theorem ok_X0_look : ra_ok 1 := ⟨⟨by decide +kernel, by decide +kernel, by decide +kernel⟩, lwg_of 434 rfl rfl, lwg_of 6 rfl rfl, by decide⟩
set_option maxRecDepth 30000 in
theorem ok_X0_timeGone : ra_ok 2 := ⟨⟨by decide +kernel, by decide +kernel, by decide +kernel⟩, lwg_of 460 rfl rfl, lwg_of 6 rfl rfl, by decide⟩
set_option maxRecDepth 30000 in
theorem ok_X0_startGrown : ra_ok 3 := ⟨⟨by decide +kernel, by decide +kernel, by decide +kernel⟩, lwg_of 471 rfl rfl, lwg_of 6 rfl rfl, by decide⟩
set_option maxRecDepth 30000 in
theorem ok_X0_expected : ra_ok 4 := ⟨⟨by decide +kernel, by decide +kernel, by decide +kernel⟩, lwg_of 487 rfl rfl, lwg_of 6 rfl rfl, by decide⟩
set_option maxRecDepth 30000 in
theorem ok_X0_firstOfLatest : ra_ok 5 := ⟨⟨by decide +kernel, by decide +kernel, by decide +kernel⟩, lwg_of 464 rfl rfl, lwg_of 6 rfl rfl, by decide⟩
set_option maxRecDepth 30000 in
theorem ok_X1_init : ra_ok 6 := ⟨⟨by decide +kernel, by decide +kernel, by decide +kernel⟩, lwg_of 199 rfl rfl, lwg_of 7 rfl rfl, by decide⟩
set_option maxRecDepth 30000 in
theorem ok_X1_find : ra_ok 7 := ⟨⟨by decide +kernel, by decide +kernel, by decide +kernel⟩, lwg_of 501 rfl rfl, lwg_of 7 rfl rfl, by decide⟩
set_option maxRecDepth 30000 in
theorem ok_X1_tell : ra_ok 8 := ⟨⟨by decide +kernel, by decide +kernel, by decide +kernel⟩, lwg_of 578 rfl rfl, lwg_of 7 rfl rfl, by decide⟩
set_option maxRecDepth 30000 in
theorem ok_X1_isTouched : ra_ok 9 := ⟨⟨by decide +kernel, by decide +kernel, by decide +kernel⟩, lwg_of 616 rfl rfl, lwg_of 7 rfl rfl, by decide⟩
set_option maxRecDepth 30000 in
theorem ok_X1_isFaultless : ra_ok 10 := ⟨⟨by decide +kernel, by decide +kernel, by decide +kernel⟩, lwg_of 603 rfl rfl, lwg_of 7 rfl rfl, by decide⟩
set_option maxRecDepth 30000 in
theorem ok_X1_restAt : ra_ok 11 := ⟨⟨by decide +kernel, by decide +kernel, by decide +kernel⟩, lwg_of 517 rfl rfl, lwg_of 7 rfl rfl, by decide⟩
set_option maxRecDepth 30000 in
theorem ok_X1_lowerRest : ra_ok 12 := ⟨⟨by decide +kernel, by decide +kernel, by decide +kernel⟩, lwg_of 526 rfl rfl, lwg_of 7 rfl rfl, by decide⟩
set_option maxRecDepth 30000 in
theorem ok_X1_playPrice : ra_ok 13 := ⟨⟨by decide +kernel, by decide +kernel, by decide +kernel⟩, lwg_of 522 rfl rfl, lwg_of 7 rfl rfl, by decide⟩
set_option maxRecDepth 30000 in
theorem ok_X1_leapPrice : ra_ok 14 := ⟨⟨by decide +kernel, by decide +kernel, by decide +kernel⟩, lwg_of 512 rfl rfl, lwg_of 7 rfl rfl, by decide⟩
set_option maxRecDepth 30000 in
theorem ok_X1_passPrice : ra_ok 15 := ⟨⟨by decide +kernel, by decide +kernel, by decide +kernel⟩, lwg_of 534 rfl rfl, lwg_of 7 rfl rfl, by decide⟩
set_option maxRecDepth 30000 in
theorem ok_X1_weighTaking : ra_ok 16 := ⟨⟨by decide +kernel, by decide +kernel, by decide +kernel⟩, lwg_of 505 rfl rfl, lwg_of 7 rfl rfl, by decide⟩
set_option maxRecDepth 30000 in
theorem ok_X1_weighPassing : ra_ok 17 := ⟨⟨by decide +kernel, by decide +kernel, by decide +kernel⟩, lwg_of 530 rfl rfl, lwg_of 7 rfl rfl, by decide⟩
set_option maxRecDepth 30000 in
theorem ok_X1_walk : ra_ok 18 := ⟨⟨by decide +kernel, by decide +kernel, by decide +kernel⟩, lwg_of 538 rfl rfl, lwg_of 7 rfl rfl, by decide⟩
set_option maxRecDepth 30000 in
theorem ok_X1_forgetCourse : ra_ok 19 := ⟨⟨by decide +kernel, by decide +kernel, by decide +kernel⟩, lwg_of 542 rfl rfl, lwg_of 7 rfl rfl, by decide⟩
set_option maxRecDepth 30000 in
theorem ok_X1_plays : ra_ok 20 := ⟨⟨by decide +kernel, by decide +kernel, by decide +kernel⟩, lwg_of 546 rfl rfl, lwg_of 7 rfl rfl, by decide⟩
set_option maxRecDepth 30000 in
theorem ok_X1_stays : ra_ok 21 := ⟨⟨by decide +kernel, by decide +kernel, by decide +kernel⟩, lwg_of 566 rfl rfl, lwg_of 7 rfl rfl, by decide⟩
set_option maxRecDepth 30000 in
theorem ok_X1_passes : ra_ok 22 := ⟨⟨by decide +kernel, by decide +kernel, by decide +kernel⟩, lwg_of 570 rfl rfl, lwg_of 7 rfl rfl, by decide⟩
set_option maxRecDepth 30000 in
theorem ok_X1_leaps : ra_ok 23 := ⟨⟨by decide +kernel, by decide +kernel, by decide +kernel⟩, lwg_of 574 rfl rfl, lwg_of 7 rfl rfl, by decide⟩
set_option maxRecDepth 30000 in
theorem ok_X1_match : ra_ok 24 := ⟨⟨by decide +kernel, by decide +kernel, by decide +kernel⟩, lwg_of 558 rfl rfl, lwg_of 7 rfl rfl, by decide⟩
set_option maxRecDepth 30000 in
theorem ok_X1_keepStep : ra_ok 25 := ⟨⟨by decide +kernel, by decide +kernel, by decide +kernel⟩, lwg_of 562 rfl rfl, lwg_of 7 rfl rfl, by decide⟩
set_option maxRecDepth 30000 in
theorem ok_X2_init : ra_ok 26 := ⟨⟨by decide +kernel, by decide +kernel, by decide +kernel⟩, lwg_of 249 rfl rfl, lwg_of 8 rfl rfl, by decide⟩
set_option maxRecDepth 30000 in
theorem ok_X2_open : ra_ok 27 := ⟨⟨by decide +kernel, by decide +kernel, by decide +kernel⟩, lwg_of 318 rfl rfl, lwg_of 8 rfl rfl, by decide⟩
set_option maxRecDepth 30000 in
theorem ok_X2_raise : ra_ok 28 := ⟨⟨by decide +kernel, by decide +kernel, by decide +kernel⟩, lwg_of 607 rfl rfl, lwg_of 8 rfl rfl, by decide⟩
set_option maxRecDepth 30000 in
theorem ok_X2_drop : ra_ok 29 := ⟨⟨by decide +kernel, by decide +kernel, by decide +kernel⟩, lwg_of 620 rfl rfl, lwg_of 8 rfl rfl, by decide⟩
set_option maxRecDepth 30000 in
theorem ok_X2_put : ra_ok 30 := ⟨⟨by decide +kernel, by decide +kernel, by decide +kernel⟩, lwg_of 612 rfl rfl, lwg_of 8 rfl rfl, by decide⟩
set_option maxRecDepth 30000 in
theorem ok_X2_countDue : ra_ok 31 := ⟨⟨by decide +kernel, by decide +kernel, by decide +kernel⟩, lwg_of 624 rfl rfl, lwg_of 8 rfl rfl, by decide⟩
set_option maxRecDepth 30000 in
theorem ok_X2_dueAt : ra_ok 32 := ⟨⟨by decide +kernel, by decide +kernel, by decide +kernel⟩, lwg_of 632 rfl rfl, lwg_of 8 rfl rfl, by decide⟩
set_option maxRecDepth 30000 in
theorem ok_X3_init : ra_ok 33 := ⟨⟨by decide +kernel, by decide +kernel, by decide +kernel⟩, lwg_of 150 rfl rfl, lwg_of 5 rfl rfl, by decide⟩
set_option maxRecDepth 30000 in
theorem ok_X3_placeNow : ra_ok 34 := ⟨⟨by decide +kernel, by decide +kernel, by decide +kernel⟩, lwg_of 430 rfl rfl, lwg_of 5 rfl rfl, by decide⟩
set_option maxRecDepth 30000 in
theorem ok_X3_placeBehind : ra_ok 35 := ⟨⟨by decide +kernel, by decide +kernel, by decide +kernel⟩, lwg_of 443 rfl rfl, lwg_of 5 rfl rfl, by decide⟩
set_option maxRecDepth 30000 in
theorem ok_X3_valueNow : ra_ok 36 := ⟨⟨by decide +kernel, by decide +kernel, by decide +kernel⟩, lwg_of 451 rfl rfl, lwg_of 5 rfl rfl, by decide⟩
set_option maxRecDepth 30000 in
theorem ok_X3_follow : ra_ok 37 := ⟨⟨by decide +kernel, by decide +kernel, by decide +kernel⟩, lwg_of 390 rfl rfl, lwg_of 5 rfl rfl, by decide⟩
set_option maxRecDepth 30000 in
theorem ok_X3_passOn : ra_ok 38 := ⟨⟨by decide +kernel, by decide +kernel, by decide +kernel⟩, lwg_of 394 rfl rfl, lwg_of 5 rfl rfl, by decide⟩
set_option maxRecDepth 30000 in
theorem ok_X3_passOnce : ra_ok 39 := ⟨⟨by decide +kernel, by decide +kernel, by decide +kernel⟩, lwg_of 398 rfl rfl, lwg_of 5 rfl rfl, by decide⟩
set_option maxRecDepth 30000 in
theorem ok_X3_take : ra_ok 40 := ⟨⟨by decide +kernel, by decide +kernel, by decide +kernel⟩, lwg_of 402 rfl rfl, lwg_of 5 rfl rfl, by decide⟩
set_option maxRecDepth 30000 in
theorem ok_X3_lower : ra_ok 41 := ⟨⟨by decide +kernel, by decide +kernel, by decide +kernel⟩, lwg_of 415 rfl rfl, lwg_of 5 rfl rfl, by decide⟩
set_option maxRecDepth 30000 in
theorem ok_X3_nearestOfLeast : ra_ok 42 := ⟨⟨by decide +kernel, by decide +kernel, by decide +kernel⟩, lwg_of 419 rfl rfl, lwg_of 5 rfl rfl, by decide⟩
set_option maxRecDepth 30000 in
theorem ok_X3_forgetFar : ra_ok 43 := ⟨⟨by decide +kernel, by decide +kernel, by decide +kernel⟩, lwg_of 426 rfl rfl, lwg_of 5 rfl rfl, by decide⟩
set_option maxRecDepth 30000 in
theorem ok_X4_init : ra_ok 44 := ⟨⟨by decide +kernel, by decide +kernel, by decide +kernel⟩, lwg_of 94 rfl rfl, lwg_of 3 rfl rfl, by decide⟩
set_option maxRecDepth 30000 in
theorem ok_X4_add : ra_ok 45 := ⟨⟨by decide +kernel, by decide +kernel, by decide +kernel⟩, lwg_of 386 rfl rfl, lwg_of 3 rfl rfl, by decide⟩
set_option maxRecDepth 30000 in
theorem ok_X4_lastTime : ra_ok 46 := ⟨⟨by decide +kernel, by decide +kernel, by decide +kernel⟩, lwg_of 355 rfl rfl, lwg_of 3 rfl rfl, by decide⟩
set_option maxRecDepth 30000 in
theorem ok_X5_init : ra_ok 47 := ⟨⟨by decide +kernel, by decide +kernel, by decide +kernel⟩, lwg_of 117 rfl rfl, lwg_of 4 rfl rfl, by decide⟩
set_option maxRecDepth 30000 in
theorem ok_X5_lay : ra_ok 48 := ⟨⟨by decide +kernel, by decide +kernel, by decide +kernel⟩, lwg_of 359 rfl rfl, lwg_of 4 rfl rfl, by decide⟩
set_option maxRecDepth 30000 in
theorem ok_X5_layFrom : ra_ok 49 := ⟨⟨by decide +kernel, by decide +kernel, by decide +kernel⟩, lwg_of 376 rfl rfl, lwg_of 4 rfl rfl, by decide⟩
set_option maxRecDepth 30000 in
theorem ok_X5_add : ra_ok 50 := ⟨⟨by decide +kernel, by decide +kernel, by decide +kernel⟩, lwg_of 381 rfl rfl, lwg_of 4 rfl rfl, by decide⟩
set_option maxRecDepth 30000 in
theorem ok_X5_beginOf : ra_ok 51 := ⟨⟨by decide +kernel, by decide +kernel, by decide +kernel⟩, lwg_of 550 rfl rfl, lwg_of 4 rfl rfl, by decide⟩
set_option maxRecDepth 30000 in
theorem ok_X5_endOf : ra_ok 52 := ⟨⟨by decide +kernel, by decide +kernel, by decide +kernel⟩, lwg_of 554 rfl rfl, lwg_of 4 rfl rfl, by decide⟩
set_option maxRecDepth 30000 in
theorem ok_X6_init : ra_ok 53 := ⟨⟨by decide +kernel, by decide +kernel, by decide +kernel⟩, lwg_of 27 rfl rfl, lwg_of 2 rfl rfl, by decide⟩
set_option maxRecDepth 30000 in
theorem ok_X6_empty : ra_ok 54 := ⟨⟨by decide +kernel, by decide +kernel, by decide +kernel⟩, lwg_of 34 rfl rfl, lwg_of 2 rfl rfl, by decide⟩
set_option maxRecDepth 30000 in
theorem ok_X6_addNote : ra_ok 55 := ⟨⟨by decide +kernel, by decide +kernel, by decide +kernel⟩, lwg_of 314 rfl rfl, lwg_of 2 rfl rfl, by decide⟩
set_option maxRecDepth 30000 in
theorem ok_X6_addWay : ra_ok 56 := ⟨⟨by decide +kernel, by decide +kernel, by decide +kernel⟩, lwg_of 334 rfl rfl, lwg_of 2 rfl rfl, by decide⟩
set_option maxRecDepth 30000 in
theorem ok_X6_isNote : ra_ok 57 := ⟨⟨by decide +kernel, by decide +kernel, by decide +kernel⟩, lwg_of 326 rfl rfl, lwg_of 2 rfl rfl, by decide⟩
set_option maxRecDepth 30000 in
theorem ok_X6_hasWay : ra_ok 58 := ⟨⟨by decide +kernel, by decide +kernel, by decide +kernel⟩, lwg_of 330 rfl rfl, lwg_of 2 rfl rfl, by decide⟩
set_option maxRecDepth 30000 in
theorem ok_X6_hasLoop : ra_ok 59 := ⟨⟨by decide +kernel, by decide +kernel, by decide +kernel⟩, lwg_of 310 rfl rfl, lwg_of 2 rfl rfl, by decide⟩
set_option maxRecDepth 30000 in
theorem ok_X6_lastStart : ra_ok 60 := ⟨⟨by decide +kernel, by decide +kernel, by decide +kernel⟩, lwg_of 306 rfl rfl, lwg_of 2 rfl rfl, by decide⟩
set_option maxRecDepth 30000 in
theorem ok_X6_firstThere : ra_ok 61 := ⟨⟨by decide +kernel, by decide +kernel, by decide +kernel⟩, lwg_of 367 rfl rfl, lwg_of 2 rfl rfl, by decide⟩
set_option maxRecDepth 30000 in
theorem ok_X6_lastThere : ra_ok 62 := ⟨⟨by decide +kernel, by decide +kernel, by decide +kernel⟩, lwg_of 372 rfl rfl, lwg_of 2 rfl rfl, by decide⟩
set_option maxRecDepth 30000 in
theorem ok_X6_isThere : ra_ok 63 := ⟨⟨by decide +kernel, by decide +kernel, by decide +kernel⟩, lwg_of 363 rfl rfl, lwg_of 2 rfl rfl, by decide⟩
set_option maxRecDepth 30000 in
theorem ok_X6_mistake : ra_ok 64 := ⟨⟨by decide +kernel, by decide +kernel, by decide +kernel⟩, lwg_of 411 rfl rfl, lwg_of 2 rfl rfl, by decide⟩
set_option maxRecDepth 30000 in
theorem ok_X7_init : ra_ok 65 := ⟨⟨by decide +kernel, by decide +kernel, by decide +kernel⟩, lwg_of 19 rfl rfl, lwg_of 1 rfl rfl, by decide⟩
set_option maxRecDepth 30000 in
theorem ok_X7_clear : ra_ok 66 := ⟨⟨by decide +kernel, by decide +kernel, by decide +kernel⟩, lwg_of 289 rfl rfl, lwg_of 1 rfl rfl, by decide⟩
set_option maxRecDepth 30000 in
theorem ok_X7_note : ra_ok 67 := ⟨⟨by decide +kernel, by decide +kernel, by decide +kernel⟩, lwg_of 298 rfl rfl, lwg_of 1 rfl rfl, by decide⟩
set_option maxRecDepth 30000 in
theorem ok_X7_way : ra_ok 68 := ⟨⟨by decide +kernel, by decide +kernel, by decide +kernel⟩, lwg_of 322 rfl rfl, lwg_of 1 rfl rfl, by decide⟩
set_option maxRecDepth 30000 in
theorem ok_X7_loop : ra_ok 69 := ⟨⟨by decide +kernel, by decide +kernel, by decide +kernel⟩, lwg_of 338 rfl rfl, lwg_of 1 rfl rfl, by decide⟩
set_option maxRecDepth 30000 in
theorem ok_X7_cost : ra_ok 70 := ⟨⟨by decide +kernel, by decide +kernel, by decide +kernel⟩, lwg_of 342 rfl rfl, lwg_of 1 rfl rfl, by decide⟩
set_option maxRecDepth 30000 in
theorem ok_X7_span : ra_ok 71 := ⟨⟨by decide +kernel, by decide +kernel, by decide +kernel⟩, lwg_of 346 rfl rfl, lwg_of 1 rfl rfl, by decide⟩
set_option maxRecDepth 30000 in
theorem ok_X7_hear : ra_ok 72 := ⟨⟨by decide +kernel, by decide +kernel, by decide +kernel⟩, lwg_of 350 rfl rfl, lwg_of 1 rfl rfl, by decide⟩
set_option maxRecDepth 30000 in
theorem ok_X7_cut : ra_ok 73 := ⟨⟨by decide +kernel, by decide +kernel, by decide +kernel⟩, lwg_of 439 rfl rfl, lwg_of 1 rfl rfl, by decide⟩
set_option maxRecDepth 30000 in
theorem ok_X7_valueOf : ra_ok 74 := ⟨⟨by decide +kernel, by decide +kernel, by decide +kernel⟩, lwg_of 447 rfl rfl, lwg_of 1 rfl rfl, by decide⟩
set_option maxRecDepth 30000 in
theorem ok_X7_tempo : ra_ok 75 := ⟨⟨by decide +kernel, by decide +kernel, by decide +kernel⟩, lwg_of 456 rfl rfl, lwg_of 1 rfl rfl, by decide⟩
set_option maxRecDepth 30000 in
theorem ok_X7_ahead : ra_ok 76 := ⟨⟨by decide +kernel, by decide +kernel, by decide +kernel⟩, lwg_of 481 rfl rfl, lwg_of 1 rfl rfl, by decide⟩
set_option maxRecDepth 30000 in
theorem ok_X7_align : ra_ok 77 := ⟨⟨by decide +kernel, by decide +kernel, by decide +kernel⟩, lwg_of 497 rfl rfl, lwg_of 1 rfl rfl, by decide⟩
set_option maxRecDepth 30000 in
theorem ok_X7_step : ra_ok 78 := ⟨⟨by decide +kernel, by decide +kernel, by decide +kernel⟩, lwg_of 582 rfl rfl, lwg_of 1 rfl rfl, by decide⟩
set_option maxRecDepth 30000 in
theorem ok_X7_steps : ra_ok 79 := ⟨⟨by decide +kernel, by decide +kernel, by decide +kernel⟩, lwg_of 587 rfl rfl, lwg_of 1 rfl rfl, by decide⟩
set_option maxRecDepth 30000 in
theorem ok_X7_matched : ra_ok 80 := ⟨⟨by decide +kernel, by decide +kernel, by decide +kernel⟩, lwg_of 591 rfl rfl, lwg_of 1 rfl rfl, by decide⟩
set_option maxRecDepth 30000 in
theorem ok_X7_grade : ra_ok 81 := ⟨⟨by decide +kernel, by decide +kernel, by decide +kernel⟩, lwg_of 595 rfl rfl, lwg_of 1 rfl rfl, by decide⟩
set_option maxRecDepth 30000 in
theorem ok_X7_mean : ra_ok 82 := ⟨⟨by decide +kernel, by decide +kernel, by decide +kernel⟩, lwg_of 648 rfl rfl, lwg_of 1 rfl rfl, by decide⟩
set_option maxRecDepth 30000 in
theorem ok_X7_end : ra_ok 83 := ⟨⟨by decide +kernel, by decide +kernel, by decide +kernel⟩, lwg_of 599 rfl rfl, lwg_of 1 rfl rfl, by decide⟩
set_option maxRecDepth 30000 in
theorem ok_X7_due : ra_ok 84 := ⟨⟨by decide +kernel, by decide +kernel, by decide +kernel⟩, lwg_of 628 rfl rfl, lwg_of 1 rfl rfl, by decide⟩
set_option maxRecDepth 30000 in
theorem ok_X7_of : ra_ok 85 := ⟨⟨by decide +kernel, by decide +kernel, by decide +kernel⟩, lwg_of 636 rfl rfl, lwg_of 1 rfl rfl, by decide⟩
set_option maxRecDepth 30000 in
theorem ok_X7_told : ra_ok 86 := ⟨⟨by decide +kernel, by decide +kernel, by decide +kernel⟩, lwg_of 640 rfl rfl, lwg_of 1 rfl rfl, by decide⟩
set_option maxRecDepth 30000 in
theorem ok_X7_hearNothing : ra_ok 87 := ⟨⟨by decide +kernel, by decide +kernel, by decide +kernel⟩, lwg_of 294 rfl rfl, lwg_of 1 rfl rfl, by decide⟩
set_option maxRecDepth 30000 in
theorem ok_X7_isWithin : ra_ok 88 := ⟨⟨by decide +kernel, by decide +kernel, by decide +kernel⟩, lwg_of 301 rfl rfl, lwg_of 1 rfl rfl, by decide⟩
set_option maxRecDepth 30000 in
theorem ok_X7_sumOf : ra_ok 89 := ⟨⟨by decide +kernel, by decide +kernel, by decide +kernel⟩, lwg_of 651 rfl rfl, lwg_of 1 rfl rfl, by decide⟩
set_option maxRecDepth 30000 in
theorem ok_X7_lowestTerms : ra_ok 90 := ⟨⟨by decide +kernel, by decide +kernel, by decide +kernel⟩, lwg_of 474 rfl rfl, lwg_of 1 rfl rfl, by decide⟩
set_option maxRecDepth 30000 in
theorem ok_X7_commonDivisor : ra_ok 91 := ⟨⟨by decide +kernel, by decide +kernel, by decide +kernel⟩, lwg_of 477 rfl rfl, lwg_of 1 rfl rfl, by decide⟩
set_option maxRecDepth 30000 in
theorem ok_X8_init : ra_ok 92 := ⟨⟨by decide +kernel, by decide +kernel, by decide +kernel⟩, lwg_of 722 rfl rfl, lwg_of 9 rfl rfl, by decide⟩
set_option maxRecDepth 30000 in
theorem ok_X8_thrown : ra_ok 93 := ⟨⟨by decide +kernel, by decide +kernel, by decide +kernel⟩, lwg_of 882 rfl rfl, lwg_of 9 rfl rfl, by decide⟩
set_option maxRecDepth 30000 in
theorem ok_X8_begin : ra_ok 94 := ⟨⟨by decide +kernel, by decide +kernel, by decide +kernel⟩, lwg_of 727 rfl rfl, lwg_of 9 rfl rfl, by decide⟩
set_option maxRecDepth 30000 in
theorem ok_X8_fresh : ra_ok 95 := ⟨⟨by decide +kernel, by decide +kernel, by decide +kernel⟩, lwg_of 731 rfl rfl, lwg_of 9 rfl rfl, by decide⟩
set_option maxRecDepth 30000 in
theorem ok_X8_clear : ra_ok 96 := ⟨⟨by decide +kernel, by decide +kernel, by decide +kernel⟩, lwg_of 886 rfl rfl, lwg_of 9 rfl rfl, by decide⟩
set_option maxRecDepth 30000 in
theorem ok_X8_isThere : ra_ok 97 := ⟨⟨by decide +kernel, by decide +kernel, by decide +kernel⟩, lwg_of 752 rfl rfl, lwg_of 9 rfl rfl, by decide⟩
set_option maxRecDepth 30000 in
theorem ok_X8_note : ra_ok 98 := ⟨⟨by decide +kernel, by decide +kernel, by decide +kernel⟩, lwg_of 890 rfl rfl, lwg_of 9 rfl rfl, by decide⟩
set_option maxRecDepth 30000 in
theorem ok_X8_way : ra_ok 99 := ⟨⟨by decide +kernel, by decide +kernel, by decide +kernel⟩, lwg_of 895 rfl rfl, lwg_of 9 rfl rfl, by decide⟩
set_option maxRecDepth 30000 in
theorem ok_X8_loop : ra_ok 100 := ⟨⟨by decide +kernel, by decide +kernel, by decide +kernel⟩, lwg_of 899 rfl rfl, lwg_of 9 rfl rfl, by decide⟩
set_option maxRecDepth 30000 in
theorem ok_X8_cost : ra_ok 101 := ⟨⟨by decide +kernel, by decide +kernel, by decide +kernel⟩, lwg_of 903 rfl rfl, lwg_of 9 rfl rfl, by decide⟩
set_option maxRecDepth 30000 in
theorem ok_X8_span : ra_ok 102 := ⟨⟨by decide +kernel, by decide +kernel, by decide +kernel⟩, lwg_of 907 rfl rfl, lwg_of 9 rfl rfl, by decide⟩
set_option maxRecDepth 30000 in
theorem ok_X8_nextsOf : ra_ok 103 := ⟨⟨by decide +kernel, by decide +kernel, by decide +kernel⟩, lwg_of 748 rfl rfl, lwg_of 9 rfl rfl, by decide⟩
set_option maxRecDepth 30000 in
theorem ok_X8_lay : ra_ok 104 := ⟨⟨by decide +kernel, by decide +kernel, by decide +kernel⟩, lwg_of 756 rfl rfl, lwg_of 9 rfl rfl, by decide⟩
set_option maxRecDepth 30000 in
theorem ok_X8_wrong : ra_ok 105 := ⟨⟨by decide +kernel, by decide +kernel, by decide +kernel⟩, lwg_of 764 rfl rfl, lwg_of 9 rfl rfl, by decide⟩
set_option maxRecDepth 30000 in
theorem ok_X8_follow : ra_ok 106 := ⟨⟨by decide +kernel, by decide +kernel, by decide +kernel⟩, lwg_of 735 rfl rfl, lwg_of 9 rfl rfl, by decide⟩
set_option maxRecDepth 30000 in
theorem ok_X8_further : ra_ok 107 := ⟨⟨by decide +kernel, by decide +kernel, by decide +kernel⟩, lwg_of 740 rfl rfl, lwg_of 9 rfl rfl, by decide⟩
set_option maxRecDepth 30000 in
theorem ok_X8_pass : ra_ok 108 := ⟨⟨by decide +kernel, by decide +kernel, by decide +kernel⟩, lwg_of 744 rfl rfl, lwg_of 9 rfl rfl, by decide⟩
set_option maxRecDepth 30000 in
theorem ok_X8_take : ra_ok 109 := ⟨⟨by decide +kernel, by decide +kernel, by decide +kernel⟩, lwg_of 760 rfl rfl, lwg_of 9 rfl rfl, by decide⟩
set_option maxRecDepth 30000 in
theorem ok_X8_choose : ra_ok 110 := ⟨⟨by decide +kernel, by decide +kernel, by decide +kernel⟩, lwg_of 768 rfl rfl, lwg_of 9 rfl rfl, by decide⟩
set_option maxRecDepth 30000 in
theorem ok_X8_anchor : ra_ok 111 := ⟨⟨by decide +kernel, by decide +kernel, by decide +kernel⟩, lwg_of 772 rfl rfl, lwg_of 9 rfl rfl, by decide⟩
set_option maxRecDepth 30000 in
theorem ok_X8_hear : ra_ok 112 := ⟨⟨by decide +kernel, by decide +kernel, by decide +kernel⟩, lwg_of 911 rfl rfl, lwg_of 9 rfl rfl, by decide⟩
set_option maxRecDepth 30000 in
theorem ok_X8_cut : ra_ok 113 := ⟨⟨by decide +kernel, by decide +kernel, by decide +kernel⟩, lwg_of 916 rfl rfl, lwg_of 9 rfl rfl, by decide⟩
set_option maxRecDepth 30000 in
theorem ok_X8_valueOf : ra_ok 114 := ⟨⟨by decide +kernel, by decide +kernel, by decide +kernel⟩, lwg_of 920 rfl rfl, lwg_of 9 rfl rfl, by decide⟩
set_option maxRecDepth 30000 in
theorem ok_X8_common : ra_ok 115 := ⟨⟨by decide +kernel, by decide +kernel, by decide +kernel⟩, lwg_of 931 rfl rfl, lwg_of 9 rfl rfl, by decide⟩
set_option maxRecDepth 30000 in
theorem ok_X8_tempoOf : ra_ok 116 := ⟨⟨by decide +kernel, by decide +kernel, by decide +kernel⟩, lwg_of 928 rfl rfl, lwg_of 9 rfl rfl, by decide⟩
set_option maxRecDepth 30000 in
theorem ok_X8_tempo : ra_ok 117 := ⟨⟨by decide +kernel, by decide +kernel, by decide +kernel⟩, lwg_of 924 rfl rfl, lwg_of 9 rfl rfl, by decide⟩
set_option maxRecDepth 30000 in
theorem ok_X8_ahead : ra_ok 118 := ⟨⟨by decide +kernel, by decide +kernel, by decide +kernel⟩, lwg_of 935 rfl rfl, lwg_of 9 rfl rfl, by decide⟩
set_option maxRecDepth 30000 in
theorem ok_X8_at : ra_ok 119 := ⟨⟨by decide +kernel, by decide +kernel, by decide +kernel⟩, lwg_of 949 rfl rfl, lwg_of 9 rfl rfl, by decide⟩
set_option maxRecDepth 30000 in
theorem ok_X8_left : ra_ok 120 := ⟨⟨by decide +kernel, by decide +kernel, by decide +kernel⟩, lwg_of 945 rfl rfl, lwg_of 9 rfl rfl, by decide⟩
set_option maxRecDepth 30000 in
theorem ok_X8_put : ra_ok 121 := ⟨⟨by decide +kernel, by decide +kernel, by decide +kernel⟩, lwg_of 957 rfl rfl, lwg_of 9 rfl rfl, by decide⟩
set_option maxRecDepth 30000 in
theorem ok_X8_choose_ : ra_ok 122 := ⟨⟨by decide +kernel, by decide +kernel, by decide +kernel⟩, lwg_of 953 rfl rfl, lwg_of 9 rfl rfl, by decide⟩
set_option maxRecDepth 30000 in
theorem ok_X8_align : ra_ok 123 := ⟨⟨by decide +kernel, by decide +kernel, by decide +kernel⟩, lwg_of 941 rfl rfl, lwg_of 9 rfl rfl, by decide⟩
set_option maxRecDepth 30000 in
theorem ok_X8_step : ra_ok 124 := ⟨⟨by decide +kernel, by decide +kernel, by decide +kernel⟩, lwg_of 961 rfl rfl, lwg_of 9 rfl rfl, by decide⟩
set_option maxRecDepth 30000 in
theorem ok_X8_steps : ra_ok 125 := ⟨⟨by decide +kernel, by decide +kernel, by decide +kernel⟩, lwg_of 965 rfl rfl, lwg_of 9 rfl rfl, by decide⟩
set_option maxRecDepth 30000 in
theorem ok_X8_matched : ra_ok 126 := ⟨⟨by decide +kernel, by decide +kernel, by decide +kernel⟩, lwg_of 969 rfl rfl, lwg_of 9 rfl rfl, by decide⟩
set_option maxRecDepth 30000 in
theorem ok_X8_count : ra_ok 127 := ⟨⟨by decide +kernel, by decide +kernel, by decide +kernel⟩, lwg_of 977 rfl rfl, lwg_of 9 rfl rfl, by decide⟩
set_option maxRecDepth 30000 in
theorem ok_X8_grade : ra_ok 128 := ⟨⟨by decide +kernel, by decide +kernel, by decide +kernel⟩, lwg_of 973 rfl rfl, lwg_of 9 rfl rfl, by decide⟩
set_option maxRecDepth 30000 in
theorem ok_X8_mean : ra_ok 129 := ⟨⟨by decide +kernel, by decide +kernel, by decide +kernel⟩, lwg_of 981 rfl rfl, lwg_of 9 rfl rfl, by decide⟩
set_option maxRecDepth 30000 in
theorem ok_X8_end : ra_ok 130 := ⟨⟨by decide +kernel, by decide +kernel, by decide +kernel⟩, lwg_of 985 rfl rfl, lwg_of 9 rfl rfl, by decide⟩
set_option maxRecDepth 30000 in
theorem ok_X8_due : ra_ok 131 := ⟨⟨by decide +kernel, by decide +kernel, by decide +kernel⟩, lwg_of 989 rfl rfl, lwg_of 9 rfl rfl, by decide⟩
set_option maxRecDepth 30000 in
theorem ok_X8_of : ra_ok 132 := ⟨⟨by decide +kernel, by decide +kernel, by decide +kernel⟩, lwg_of 993 rfl rfl, lwg_of 9 rfl rfl, by decide⟩
set_option maxRecDepth 30000 in
theorem ok_X8_told : ra_ok 133 := ⟨⟨by decide +kernel, by decide +kernel, by decide +kernel⟩, lwg_of 997 rfl rfl, lwg_of 9 rfl rfl, by decide⟩
set_option maxRecDepth 30000 in
theorem ok_J9_floorDiv_f86c9 : ra_ok 134 := ⟨⟨by decide +kernel, by decide +kernel, by decide +kernel⟩, lwg_of 493 rfl rfl, lwg_of 10 rfl rfl, by decide⟩
set_option maxRecDepth 30000 in
theorem ok_J9_abs_0f7a4 : ra_ok 135 := ⟨⟨by decide +kernel, by decide +kernel, by decide +kernel⟩, lwg_of 422 rfl rfl, lwg_of 10 rfl rfl, by decide⟩
set_option maxRecDepth 30000 in
theorem ok_J9_max_7cf53 : ra_ok 136 := ⟨⟨by decide +kernel, by decide +kernel, by decide +kernel⟩, lwg_of 467 rfl rfl, lwg_of 10 rfl rfl, by decide⟩
set_option maxRecDepth 30000 in
theorem ok_J9_min_7cf53 : ra_ok 137 := ⟨⟨by decide +kernel, by decide +kernel, by decide +kernel⟩, lwg_of 405 rfl rfl, lwg_of 10 rfl rfl, by decide⟩
theorem rf_X7_12 : ra_F RX7 12 7 0 := ⟨RX7, TX7, 7, rfl, by decide, rfl, lwg_of 264 (by decide +kernel) rfl⟩
theorem rf_X7_19 : ra_F RX7 19 7 1 := ⟨RX7, TX7, 7, rfl, by decide, rfl, lwg_of 265 (by decide +kernel) rfl⟩
theorem rf_X7_28 : ra_F RX7 28 7 2 := ⟨RX7, TX7, 7, rfl, by decide, rfl, lwg_of 266 (by decide +kernel) rfl⟩
theorem rf_X7_37 : ra_F RX7 37 7 3 := ⟨RX7, TX7, 7, rfl, by decide, rfl, lwg_of 267 (by decide +kernel) rfl⟩
theorem rf_X7_46 : ra_F RX7 46 7 4 := ⟨RX7, TX7, 7, rfl, by decide, rfl, lwg_of 268 (by decide +kernel) rfl⟩
theorem rf_X7_53 : ra_F RX7 53 7 5 := ⟨RX7, TX7, 7, rfl, by decide, rfl, lwg_of 269 (by decide +kernel) rfl⟩
theorem rf_X7_60 : ra_F RX7 60 7 6 := ⟨RX7, TX7, 7, rfl, by decide, rfl, lwg_of 270 (by decide +kernel) rfl⟩
theorem rm_X7_64 : ra_CV RX7 64 54 0 := ⟨lwg_of 290 (by decide +kernel) rfl, lwg_of 32 (by decide +kernel) rfl, lwg_of 33 (by decide +kernel) rfl, by decide +kernel, ok_X6_empty⟩
theorem rf_X7_67 : ra_F RX7 67 2 2 := ⟨RX2, TX2, 3, rfl, by decide, rfl, lwg_of 255 (by decide +kernel) rfl⟩
theorem rp_X7_67 : ra_FP RX7 67 2 2 0 := ⟨RX2, TX2, 3, rfl, by decide, rfl, lwg_of 255 (by decide +kernel) rfl, rfl, by decide +kernel⟩
theorem rm_X7_71 : ra_CV RX7 71 87 0 := ⟨lwg_of 291 (by decide +kernel) rfl, lwg_of 293 (by decide +kernel) rfl, lwg_sel 0 (by decide +kernel) rfl, by decide +kernel, ok_X7_hearNothing⟩
theorem rm_X7_74 : ra_CS RX7 74 88 3 := ⟨lwg_of 299 (by decide +kernel) rfl, lwg_of 300 (by decide +kernel) rfl, by decide +kernel, ok_X7_isWithin⟩
theorem rc_X7_78 : ra_C RX7 78 1000000 := ⟨lwg_of 302 (by decide +kernel) rfl, by decide, by decide⟩
theorem rm_X7_79 : ra_CV RX7 79 60 0 := ⟨lwg_of 303 (by decide +kernel) rfl, lwg_of 304 (by decide +kernel) rfl, lwg_of 305 (by decide +kernel) rfl, by decide +kernel, ok_X6_lastStart⟩
theorem rf_X7_83 : ra_F RX7 83 4 2 := ⟨RX4, TX4, 3, rfl, by decide, rfl, lwg_of 105 (by decide +kernel) rfl⟩
theorem rp_X7_83 : ra_FP RX7 83 4 2 0 := ⟨RX4, TX4, 3, rfl, by decide, rfl, lwg_of 105 (by decide +kernel) rfl, rfl, by decide +kernel⟩
theorem rm_X7_86 : ra_CV RX7 86 59 0 := ⟨lwg_of 307 (by decide +kernel) rfl, lwg_of 308 (by decide +kernel) rfl, lwg_of 309 (by decide +kernel) rfl, by decide +kernel, ok_X6_hasLoop⟩
theorem rf_X7_90 : ra_F RX7 90 6 5 := ⟨RX6, TX6, 10, rfl, by decide, rfl, lwg_of 54 (by decide +kernel) rfl⟩
theorem rm_X7_93 : ra_CV RX7 93 55 2 := ⟨lwg_of 311 (by decide +kernel) rfl, lwg_of 312 (by decide +kernel) rfl, lwg_of 313 (by decide +kernel) rfl, by decide +kernel, ok_X6_addNote⟩
theorem rm_X7_97 : ra_CV RX7 97 27 1 := ⟨lwg_of 315 (by decide +kernel) rfl, lwg_of 316 (by decide +kernel) rfl, lwg_of 317 (by decide +kernel) rfl, by decide +kernel, ok_X2_open⟩
theorem rm_X7_101 : ra_CV RX7 101 57 1 := ⟨lwg_of 323 (by decide +kernel) rfl, lwg_of 324 (by decide +kernel) rfl, lwg_of 325 (by decide +kernel) rfl, by decide +kernel, ok_X6_isNote⟩
theorem rm_X7_105 : ra_CV RX7 105 58 2 := ⟨lwg_of 327 (by decide +kernel) rfl, lwg_of 328 (by decide +kernel) rfl, lwg_of 329 (by decide +kernel) rfl, by decide +kernel, ok_X6_hasWay⟩
theorem rf_X7_109 : ra_F RX7 109 6 6 := ⟨RX6, TX6, 10, rfl, by decide, rfl, lwg_of 58 (by decide +kernel) rfl⟩
theorem rm_X7_112 : ra_CV RX7 112 56 2 := ⟨lwg_of 331 (by decide +kernel) rfl, lwg_of 332 (by decide +kernel) rfl, lwg_of 333 (by decide +kernel) rfl, by decide +kernel, ok_X6_addWay⟩
theorem rf_X7_115 : ra_F RX7 115 6 7 := ⟨RX6, TX6, 10, rfl, by decide, rfl, lwg_of 61 (by decide +kernel) rfl⟩
theorem rp_X7_115 : ra_FP RX7 115 6 7 0 := ⟨RX6, TX6, 10, rfl, by decide, rfl, lwg_of 61 (by decide +kernel) rfl, rfl, by decide +kernel⟩
theorem rf_X7_118 : ra_F RX7 118 6 8 := ⟨RX6, TX6, 10, rfl, by decide, rfl, lwg_of 64 (by decide +kernel) rfl⟩
theorem rp_X7_118 : ra_FP RX7 118 6 8 0 := ⟨RX6, TX6, 10, rfl, by decide, rfl, lwg_of 64 (by decide +kernel) rfl, rfl, by decide +kernel⟩
theorem rf_X7_121 : ra_F RX7 121 6 4 := ⟨RX6, TX6, 10, rfl, by decide, rfl, lwg_of 48 (by decide +kernel) rfl⟩
theorem rf_X7_125 : ra_F RX7 125 6 9 := ⟨RX6, TX6, 10, rfl, by decide, rfl, lwg_of 66 (by decide +kernel) rfl⟩
theorem rp_X7_125 : ra_FP RX7 125 6 9 0 := ⟨RX6, TX6, 10, rfl, by decide, rfl, lwg_of 66 (by decide +kernel) rfl, rfl, by decide +kernel⟩
theorem rc_X7_128 : ra_C RX7 128 10000000 := ⟨lwg_of 351 (by decide +kernel) rfl, by decide, by decide⟩
theorem rm_X7_129 : ra_CV RX7 129 46 0 := ⟨lwg_of 352 (by decide +kernel) rfl, lwg_of 353 (by decide +kernel) rfl, lwg_of 354 (by decide +kernel) rfl, by decide +kernel, ok_X4_lastTime⟩
theorem rm_X7_132 : ra_CV RX7 132 48 0 := ⟨lwg_of 356 (by decide +kernel) rfl, lwg_of 357 (by decide +kernel) rfl, lwg_of 358 (by decide +kernel) rfl, by decide +kernel, ok_X5_lay⟩
theorem rm_X7_135 : ra_CV RX7 135 45 2 := ⟨lwg_of 383 (by decide +kernel) rfl, lwg_of 384 (by decide +kernel) rfl, lwg_of 385 (by decide +kernel) rfl, by decide +kernel, ok_X4_add⟩
theorem rm_X7_138 : ra_CV RX7 138 37 1 := ⟨lwg_of 387 (by decide +kernel) rfl, lwg_of 388 (by decide +kernel) rfl, lwg_of 389 (by decide +kernel) rfl, by decide +kernel, ok_X3_follow⟩
theorem rm_X7_141 : ra_CV RX7 141 34 0 := ⟨lwg_of 427 (by decide +kernel) rfl, lwg_of 428 (by decide +kernel) rfl, lwg_of 429 (by decide +kernel) rfl, by decide +kernel, ok_X3_placeNow⟩
theorem rm_X7_144 : ra_CV RX7 144 1 2 := ⟨lwg_of 431 (by decide +kernel) rfl, lwg_of 432 (by decide +kernel) rfl, lwg_of 433 (by decide +kernel) rfl, by decide +kernel, ok_X0_look⟩
theorem rf_X7_148 : ra_F RX7 148 1 9 := ⟨RX1, TX1, 12, rfl, by decide, rfl, lwg_of 215 (by decide +kernel) rfl⟩
theorem rp_X7_148 : ra_FP RX7 148 1 9 1 := ⟨RX1, TX1, 12, rfl, by decide, rfl, lwg_of 215 (by decide +kernel) rfl, rfl, by decide +kernel⟩
theorem rf_X7_152 : ra_F RX7 152 0 4 := ⟨RX0, TX0, 5, rfl, by decide, rfl, lwg_of 183 (by decide +kernel) rfl⟩
theorem rp_X7_152 : ra_FP RX7 152 0 4 0 := ⟨RX0, TX0, 5, rfl, by decide, rfl, lwg_of 183 (by decide +kernel) rfl, rfl, by decide +kernel⟩
theorem rm_X7_153 : ra_CV RX7 153 35 1 := ⟨lwg_of 440 (by decide +kernel) rfl, lwg_of 441 (by decide +kernel) rfl, lwg_of 442 (by decide +kernel) rfl, by decide +kernel, ok_X3_placeBehind⟩
theorem rm_X7_157 : ra_CV RX7 157 36 1 := ⟨lwg_of 448 (by decide +kernel) rfl, lwg_of 449 (by decide +kernel) rfl, lwg_of 450 (by decide +kernel) rfl, by decide +kernel, ok_X3_valueNow⟩
theorem rc_X7_160 : ra_C RX7 160 1000000000 := ⟨lwg_of 452 (by decide +kernel) rfl, by decide, by decide⟩
theorem rm_X7_161 : ra_CV RX7 161 2 0 := ⟨lwg_of 457 (by decide +kernel) rfl, lwg_of 458 (by decide +kernel) rfl, lwg_of 459 (by decide +kernel) rfl, by decide +kernel, ok_X0_timeGone⟩
theorem rm_X7_164 : ra_CV RX7 164 3 0 := ⟨lwg_of 468 (by decide +kernel) rfl, lwg_of 469 (by decide +kernel) rfl, lwg_of 470 (by decide +kernel) rfl, by decide +kernel, ok_X0_startGrown⟩
theorem rm_X7_167 : ra_CS RX7 167 90 3 := ⟨lwg_of 472 (by decide +kernel) rfl, lwg_of 473 (by decide +kernel) rfl, by decide +kernel, ok_X7_lowestTerms⟩
theorem rc_X7_171 : ra_CJ RX7 171 (-2) := ⟨lwg_of 482 (by decide +kernel) rfl, by decide, by decide⟩
theorem rc_X7_173 : ra_CJ RX7 173 (-3) := ⟨lwg_of 483 (by decide +kernel) rfl, by decide, by decide⟩
theorem rm_X7_175 : ra_CV RX7 175 4 1 := ⟨lwg_of 484 (by decide +kernel) rfl, lwg_of 485 (by decide +kernel) rfl, lwg_of 486 (by decide +kernel) rfl, by decide +kernel, ok_X0_expected⟩
theorem rm_X7_179 : ra_CV RX7 179 7 0 := ⟨lwg_of 498 (by decide +kernel) rfl, lwg_of 499 (by decide +kernel) rfl, lwg_of 500 (by decide +kernel) rfl, by decide +kernel, ok_X1_find⟩
theorem rf_X7_182 : ra_F RX7 182 1 10 := ⟨RX1, TX1, 12, rfl, by decide, rfl, lwg_of 217 (by decide +kernel) rfl⟩
theorem rf_X7_185 : ra_F RX7 185 1 11 := ⟨RX1, TX1, 12, rfl, by decide, rfl, lwg_of 219 (by decide +kernel) rfl⟩
theorem rm_X7_186 : ra_CV RX7 186 8 2 := ⟨lwg_of 583 (by decide +kernel) rfl, lwg_of 576 (by decide +kernel) rfl, lwg_of 577 (by decide +kernel) rfl, by decide +kernel, ok_X1_tell⟩
theorem rf_X7_189 : ra_F RX7 189 1 5 := ⟨RX1, TX1, 12, rfl, by decide, rfl, lwg_of 207 (by decide +kernel) rfl⟩
theorem rf_X7_192 : ra_F RX7 192 1 6 := ⟨RX1, TX1, 12, rfl, by decide, rfl, lwg_of 209 (by decide +kernel) rfl⟩
theorem rf_X7_195 : ra_F RX7 195 1 7 := ⟨RX1, TX1, 12, rfl, by decide, rfl, lwg_of 211 (by decide +kernel) rfl⟩
theorem rf_X7_198 : ra_F RX7 198 1 8 := ⟨RX1, TX1, 12, rfl, by decide, rfl, lwg_of 213 (by decide +kernel) rfl⟩
theorem rm_X7_201 : ra_CS RX7 201 89 2 := ⟨lwg_of 649 (by decide +kernel) rfl, lwg_of 650 (by decide +kernel) rfl, by decide +kernel, ok_X7_sumOf⟩
theorem rm_X7_212 : ra_CV RX7 212 10 1 := ⟨lwg_of 600 (by decide +kernel) rfl, lwg_of 601 (by decide +kernel) rfl, lwg_of 602 (by decide +kernel) rfl, by decide +kernel, ok_X1_isFaultless⟩
theorem rm_X7_215 : ra_CV RX7 215 28 1 := ⟨lwg_of 604 (by decide +kernel) rfl, lwg_of 605 (by decide +kernel) rfl, lwg_of 606 (by decide +kernel) rfl, by decide +kernel, ok_X2_raise⟩
theorem rm_X7_218 : ra_CV RX7 218 9 1 := ⟨lwg_of 613 (by decide +kernel) rfl, lwg_of 614 (by decide +kernel) rfl, lwg_of 615 (by decide +kernel) rfl, by decide +kernel, ok_X1_isTouched⟩
theorem rm_X7_221 : ra_CV RX7 221 29 1 := ⟨lwg_of 617 (by decide +kernel) rfl, lwg_of 618 (by decide +kernel) rfl, lwg_of 619 (by decide +kernel) rfl, by decide +kernel, ok_X2_drop⟩
theorem rm_X7_224 : ra_CV RX7 224 31 1 := ⟨lwg_of 621 (by decide +kernel) rfl, lwg_of 622 (by decide +kernel) rfl, lwg_of 623 (by decide +kernel) rfl, by decide +kernel, ok_X2_countDue⟩
theorem rm_X7_227 : ra_CV RX7 227 32 2 := ⟨lwg_of 629 (by decide +kernel) rfl, lwg_of 630 (by decide +kernel) rfl, lwg_of 631 (by decide +kernel) rfl, by decide +kernel, ok_X2_dueAt⟩
theorem rf_X7_230 : ra_F RX7 230 6 0 := ⟨RX6, TX6, 10, rfl, by decide, rfl, lwg_of 38 (by decide +kernel) rfl⟩
theorem rf_X7_233 : ra_F RX7 233 6 1 := ⟨RX6, TX6, 10, rfl, by decide, rfl, lwg_of 41 (by decide +kernel) rfl⟩
theorem rf_X7_236 : ra_F RX7 236 2 0 := ⟨RX2, TX2, 3, rfl, by decide, rfl, lwg_of 252 (by decide +kernel) rfl⟩
theorem rf_X7_239 : ra_F RX7 239 2 1 := ⟨RX2, TX2, 3, rfl, by decide, rfl, lwg_of 254 (by decide +kernel) rfl⟩
theorem rm_X7_242 : ra_CS RX7 242 91 2 := ⟨lwg_of 475 (by decide +kernel) rfl, lwg_of 476 (by decide +kernel) rfl, by decide +kernel, ok_X7_commonDivisor⟩
theorem rf_X0_9 : ra_F RX0 9 0 2 := ⟨RX0, TX0, 5, rfl, by decide, rfl, lwg_of 180 (by decide +kernel) rfl⟩
theorem rf_X0_15 : ra_F RX0 15 0 3 := ⟨RX0, TX0, 5, rfl, by decide, rfl, lwg_of 181 (by decide +kernel) rfl⟩
theorem rf_X0_18 : ra_F RX0 18 0 0 := ⟨RX0, TX0, 5, rfl, by decide, rfl, lwg_of 178 (by decide +kernel) rfl⟩
theorem rf_X0_22 : ra_F RX0 22 0 1 := ⟨RX0, TX0, 5, rfl, by decide, rfl, lwg_of 179 (by decide +kernel) rfl⟩
theorem rm_X0_26 : ra_CV RX0 26 57 1 := ⟨lwg_of 435 (by decide +kernel) rfl, lwg_of 324 (by decide +kernel) rfl, lwg_of 325 (by decide +kernel) rfl, by decide +kernel, ok_X6_isNote⟩
theorem rf_X0_32 : ra_F RX0 32 6 0 := ⟨RX6, TX6, 10, rfl, by decide, rfl, lwg_of 36 (by decide +kernel) rfl⟩
theorem rf_X0_35 : ra_F RX0 35 4 0 := ⟨RX4, TX4, 3, rfl, by decide, rfl, lwg_of 97 (by decide +kernel) rfl⟩
theorem rf_X0_38 : ra_F RX0 38 0 4 := ⟨RX0, TX0, 5, rfl, by decide, rfl, lwg_of 182 (by decide +kernel) rfl⟩
theorem rp_X0_38 : ra_FP RX0 38 0 4 0 := ⟨RX0, TX0, 5, rfl, by decide, rfl, lwg_of 182 (by decide +kernel) rfl, rfl, by decide +kernel⟩
theorem rf_X0_42 : ra_F RX0 42 4 1 := ⟨RX4, TX4, 3, rfl, by decide, rfl, lwg_of 101 (by decide +kernel) rfl⟩
theorem rm_X0_45 : ra_CV RX0 45 5 0 := ⟨lwg_of 461 (by decide +kernel) rfl, lwg_of 463 (by decide +kernel) rfl, lwg_sel 9 (by decide +kernel) rfl, by decide +kernel, ok_X0_firstOfLatest⟩
theorem rf_X0_49 : ra_F RX0 49 6 1 := ⟨RX6, TX6, 10, rfl, by decide, rfl, lwg_of 40 (by decide +kernel) rfl⟩
theorem rm_X0_52 : ra_CS RX0 52 136 2 := ⟨lwg_of 465 (by decide +kernel) rfl, lwg_of 466 (by decide +kernel) rfl, by decide +kernel, ok_J9_max_7cf53⟩
theorem rc_X0_58 : ra_CJ RX0 58 (-3) := ⟨lwg_of 488 (by decide +kernel) rfl, by decide, by decide⟩
theorem rm_X0_60 : ra_CV RX0 60 2 0 := ⟨lwg_of 489 (by decide +kernel) rfl, lwg_of 458 (by decide +kernel) rfl, lwg_of 459 (by decide +kernel) rfl, by decide +kernel, ok_X0_timeGone⟩
theorem rm_X0_63 : ra_CV RX0 63 3 0 := ⟨lwg_of 490 (by decide +kernel) rfl, lwg_of 469 (by decide +kernel) rfl, lwg_of 470 (by decide +kernel) rfl, by decide +kernel, ok_X0_startGrown⟩
theorem rm_X0_66 : ra_CS RX0 66 134 2 := ⟨lwg_of 491 (by decide +kernel) rfl, lwg_of 492 (by decide +kernel) rfl, by decide +kernel, ok_J9_floorDiv_f86c9⟩
theorem rf_X1_9 : ra_F RX1 9 1 3 := ⟨RX1, TX1, 12, rfl, by decide, rfl, lwg_of 204 (by decide +kernel) rfl⟩
theorem rf_X1_15 : ra_F RX1 15 1 4 := ⟨RX1, TX1, 12, rfl, by decide, rfl, lwg_of 205 (by decide +kernel) rfl⟩
theorem rf_X1_18 : ra_F RX1 18 1 5 := ⟨RX1, TX1, 12, rfl, by decide, rfl, lwg_of 206 (by decide +kernel) rfl⟩
theorem rf_X1_21 : ra_F RX1 21 1 6 := ⟨RX1, TX1, 12, rfl, by decide, rfl, lwg_of 208 (by decide +kernel) rfl⟩
theorem rf_X1_24 : ra_F RX1 24 1 7 := ⟨RX1, TX1, 12, rfl, by decide, rfl, lwg_of 210 (by decide +kernel) rfl⟩
theorem rf_X1_27 : ra_F RX1 27 1 8 := ⟨RX1, TX1, 12, rfl, by decide, rfl, lwg_of 212 (by decide +kernel) rfl⟩
theorem rf_X1_30 : ra_F RX1 30 1 0 := ⟨RX1, TX1, 12, rfl, by decide, rfl, lwg_of 201 (by decide +kernel) rfl⟩
theorem rf_X1_34 : ra_F RX1 34 1 1 := ⟨RX1, TX1, 12, rfl, by decide, rfl, lwg_of 202 (by decide +kernel) rfl⟩
theorem rf_X1_38 : ra_F RX1 38 1 2 := ⟨RX1, TX1, 12, rfl, by decide, rfl, lwg_of 203 (by decide +kernel) rfl⟩
theorem rf_X1_42 : ra_F RX1 42 6 5 := ⟨RX6, TX6, 10, rfl, by decide, rfl, lwg_of 52 (by decide +kernel) rfl⟩
theorem rf_X1_48 : ra_F RX1 48 4 2 := ⟨RX4, TX4, 3, rfl, by decide, rfl, lwg_of 104 (by decide +kernel) rfl⟩
theorem rm_X1_53 : ra_CV RX1 53 16 1 := ⟨lwg_of 502 (by decide +kernel) rfl, lwg_of 504 (by decide +kernel) rfl, lwg_sel 10 (by decide +kernel) rfl, by decide +kernel, ok_X1_weighTaking⟩
theorem rm_X1_57 : ra_CV RX1 57 17 1 := ⟨lwg_of 527 (by decide +kernel) rfl, lwg_of 529 (by decide +kernel) rfl, lwg_sel 15 (by decide +kernel) rfl, by decide +kernel, ok_X1_weighPassing⟩
theorem rm_X1_60 : ra_CV RX1 60 11 2 := ⟨lwg_of 514 (by decide +kernel) rfl, lwg_of 516 (by decide +kernel) rfl, lwg_sel 12 (by decide +kernel) rfl, by decide +kernel, ok_X1_restAt⟩
theorem rf_X1_64 : ra_F RX1 64 1 10 := ⟨RX1, TX1, 12, rfl, by decide, rfl, lwg_of 216 (by decide +kernel) rfl⟩
theorem rp_X1_64 : ra_FP RX1 64 1 10 0 := ⟨RX1, TX1, 12, rfl, by decide, rfl, lwg_of 216 (by decide +kernel) rfl, rfl, by decide +kernel⟩
theorem rm_X1_67 : ra_CV RX1 67 18 0 := ⟨lwg_of 535 (by decide +kernel) rfl, lwg_of 537 (by decide +kernel) rfl, lwg_sel 17 (by decide +kernel) rfl, by decide +kernel, ok_X1_walk⟩
theorem rf_X1_70 : ra_F RX1 70 1 9 := ⟨RX1, TX1, 12, rfl, by decide, rfl, lwg_of 214 (by decide +kernel) rfl⟩
theorem rp_X1_70 : ra_FP RX1 70 1 9 1 := ⟨RX1, TX1, 12, rfl, by decide, rfl, lwg_of 214 (by decide +kernel) rfl, rfl, by decide +kernel⟩
theorem rm_X1_74 : ra_CS RX1 74 137 2 := ⟨lwg_of 518 (by decide +kernel) rfl, lwg_of 404 (by decide +kernel) rfl, by decide +kernel, ok_J9_min_7cf53⟩
theorem rf_X1_79 : ra_F RX1 79 5 3 := ⟨RX5, TX5, 6, rfl, by decide, rfl, lwg_of 128 (by decide +kernel) rfl⟩
theorem rf_X1_84 : ra_F RX1 84 5 2 := ⟨RX5, TX5, 6, rfl, by decide, rfl, lwg_of 125 (by decide +kernel) rfl⟩
theorem rf_X1_87 : ra_F RX1 87 4 0 := ⟨RX4, TX4, 3, rfl, by decide, rfl, lwg_of 99 (by decide +kernel) rfl⟩
theorem rm_X1_90 : ra_CV RX1 90 64 2 := ⟨lwg_of 513 (by decide +kernel) rfl, lwg_of 409 (by decide +kernel) rfl, lwg_of 410 (by decide +kernel) rfl, by decide +kernel, ok_X6_mistake⟩
theorem rf_X1_93 : ra_F RX1 93 6 4 := ⟨RX6, TX6, 10, rfl, by decide, rfl, lwg_of 50 (by decide +kernel) rfl⟩
theorem rc_X1_96 : ra_C RX1 96 1000000000 := ⟨lwg_of 506 (by decide +kernel) rfl, by decide, by decide⟩
theorem rm_X1_97 : ra_CV RX1 97 61 0 := ⟨lwg_of 507 (by decide +kernel) rfl, lwg_of 365 (by decide +kernel) rfl, lwg_of 366 (by decide +kernel) rfl, by decide +kernel, ok_X6_firstThere⟩
theorem rm_X1_101 : ra_CV RX1 101 62 0 := ⟨lwg_of 508 (by decide +kernel) rfl, lwg_of 370 (by decide +kernel) rfl, lwg_of 371 (by decide +kernel) rfl, by decide +kernel, ok_X6_lastThere⟩
theorem rm_X1_104 : ra_CV RX1 104 14 2 := ⟨lwg_of 509 (by decide +kernel) rfl, lwg_of 511 (by decide +kernel) rfl, lwg_sel 11 (by decide +kernel) rfl, by decide +kernel, ok_X1_leapPrice⟩
theorem rf_X1_107 : ra_F RX1 107 5 5 := ⟨RX5, TX5, 6, rfl, by decide, rfl, lwg_of 132 (by decide +kernel) rfl⟩
theorem rm_X1_108 : ra_CV RX1 108 13 2 := ⟨lwg_of 519 (by decide +kernel) rfl, lwg_of 521 (by decide +kernel) rfl, lwg_sel 13 (by decide +kernel) rfl, by decide +kernel, ok_X1_playPrice⟩
theorem rf_X1_111 : ra_F RX1 111 5 1 := ⟨RX5, TX5, 6, rfl, by decide, rfl, lwg_of 122 (by decide +kernel) rfl⟩
theorem rm_X1_114 : ra_CV RX1 114 12 3 := ⟨lwg_of 523 (by decide +kernel) rfl, lwg_of 525 (by decide +kernel) rfl, lwg_sel 14 (by decide +kernel) rfl, by decide +kernel, ok_X1_lowerRest⟩
theorem rm_X1_118 : ra_CV RX1 118 15 1 := ⟨lwg_of 531 (by decide +kernel) rfl, lwg_of 533 (by decide +kernel) rfl, lwg_sel 16 (by decide +kernel) rfl, by decide +kernel, ok_X1_passPrice⟩
theorem rm_X1_122 : ra_CV RX1 122 19 0 := ⟨lwg_of 539 (by decide +kernel) rfl, lwg_of 541 (by decide +kernel) rfl, lwg_sel 18 (by decide +kernel) rfl, by decide +kernel, ok_X1_forgetCourse⟩
theorem rm_X1_125 : ra_CV RX1 125 20 2 := ⟨lwg_of 543 (by decide +kernel) rfl, lwg_of 545 (by decide +kernel) rfl, lwg_sel 19 (by decide +kernel) rfl, by decide +kernel, ok_X1_plays⟩
theorem rm_X1_129 : ra_CV RX1 129 21 2 := ⟨lwg_of 563 (by decide +kernel) rfl, lwg_of 565 (by decide +kernel) rfl, lwg_sel 22 (by decide +kernel) rfl, by decide +kernel, ok_X1_stays⟩
theorem rm_X1_132 : ra_CV RX1 132 22 2 := ⟨lwg_of 567 (by decide +kernel) rfl, lwg_of 569 (by decide +kernel) rfl, lwg_sel 23 (by decide +kernel) rfl, by decide +kernel, ok_X1_passes⟩
theorem rm_X1_135 : ra_CV RX1 135 23 2 := ⟨lwg_of 571 (by decide +kernel) rfl, lwg_of 573 (by decide +kernel) rfl, lwg_sel 24 (by decide +kernel) rfl, by decide +kernel, ok_X1_leaps⟩
theorem rm_X1_138 : ra_CV RX1 138 8 2 := ⟨lwg_of 575 (by decide +kernel) rfl, lwg_of 576 (by decide +kernel) rfl, lwg_of 577 (by decide +kernel) rfl, by decide +kernel, ok_X1_tell⟩
theorem rf_X1_141 : ra_F RX1 141 1 11 := ⟨RX1, TX1, 12, rfl, by decide, rfl, lwg_of 218 (by decide +kernel) rfl⟩
theorem rp_X1_141 : ra_FP RX1 141 1 11 0 := ⟨RX1, TX1, 12, rfl, by decide, rfl, lwg_of 218 (by decide +kernel) rfl, rfl, by decide +kernel⟩
theorem rm_X1_142 : ra_CV RX1 142 51 1 := ⟨lwg_of 547 (by decide +kernel) rfl, lwg_of 548 (by decide +kernel) rfl, lwg_of 549 (by decide +kernel) rfl, by decide +kernel, ok_X5_beginOf⟩
theorem rm_X1_145 : ra_CV RX1 145 52 1 := ⟨lwg_of 551 (by decide +kernel) rfl, lwg_of 552 (by decide +kernel) rfl, lwg_of 553 (by decide +kernel) rfl, by decide +kernel, ok_X5_endOf⟩
theorem rm_X1_148 : ra_CV RX1 148 24 4 := ⟨lwg_of 555 (by decide +kernel) rfl, lwg_of 557 (by decide +kernel) rfl, lwg_sel 20 (by decide +kernel) rfl, by decide +kernel, ok_X1_match⟩
theorem rm_X1_152 : ra_CV RX1 152 25 4 := ⟨lwg_of 559 (by decide +kernel) rfl, lwg_of 561 (by decide +kernel) rfl, lwg_sel 21 (by decide +kernel) rfl, by decide +kernel, ok_X1_keepStep⟩
theorem rf_X1_155 : ra_F RX1 155 6 0 := ⟨RX6, TX6, 10, rfl, by decide, rfl, lwg_of 37 (by decide +kernel) rfl⟩
theorem rf_X2_9 : ra_F RX2 9 2 0 := ⟨RX2, TX2, 3, rfl, by decide, rfl, lwg_of 251 (by decide +kernel) rfl⟩
theorem rf_X2_15 : ra_F RX2 15 2 1 := ⟨RX2, TX2, 3, rfl, by decide, rfl, lwg_of 253 (by decide +kernel) rfl⟩
theorem rm_X2_18 : ra_CS RX2 18 137 2 := ⟨lwg_of 608 (by decide +kernel) rfl, lwg_of 404 (by decide +kernel) rfl, by decide +kernel, ok_J9_min_7cf53⟩
theorem rm_X2_24 : ra_CV RX2 24 30 2 := ⟨lwg_of 609 (by decide +kernel) rfl, lwg_of 611 (by decide +kernel) rfl, lwg_sel 25 (by decide +kernel) rfl, by decide +kernel, ok_X2_put⟩
theorem rf_X2_28 : ra_F RX2 28 2 2 := ⟨RX2, TX2, 3, rfl, by decide, rfl, lwg_of 256 (by decide +kernel) rfl⟩
theorem rf_X3_9 : ra_F RX3 9 3 3 := ⟨RX3, TX3, 6, rfl, by decide, rfl, lwg_of 156 (by decide +kernel) rfl⟩
theorem rf_X3_15 : ra_F RX3 15 3 4 := ⟨RX3, TX3, 6, rfl, by decide, rfl, lwg_of 157 (by decide +kernel) rfl⟩
theorem rf_X3_18 : ra_F RX3 18 3 5 := ⟨RX3, TX3, 6, rfl, by decide, rfl, lwg_of 158 (by decide +kernel) rfl⟩
theorem rf_X3_21 : ra_F RX3 21 3 0 := ⟨RX3, TX3, 6, rfl, by decide, rfl, lwg_of 153 (by decide +kernel) rfl⟩
theorem rf_X3_25 : ra_F RX3 25 3 1 := ⟨RX3, TX3, 6, rfl, by decide, rfl, lwg_of 154 (by decide +kernel) rfl⟩
theorem rf_X3_29 : ra_F RX3 29 3 2 := ⟨RX3, TX3, 6, rfl, by decide, rfl, lwg_of 155 (by decide +kernel) rfl⟩
theorem rc_X3_33 : ra_C RX3 33 1000000000 := ⟨lwg_of 152 (by decide +kernel) rfl, by decide, by decide⟩
theorem rf_X3_34 : ra_F RX3 34 4 2 := ⟨RX4, TX4, 3, rfl, by decide, rfl, lwg_of 103 (by decide +kernel) rfl⟩
theorem rm_X3_40 : ra_CV RX3 40 38 1 := ⟨lwg_of 391 (by decide +kernel) rfl, lwg_of 393 (by decide +kernel) rfl, lwg_sel 3 (by decide +kernel) rfl, by decide +kernel, ok_X3_passOn⟩
theorem rf_X3_44 : ra_F RX3 44 4 0 := ⟨RX4, TX4, 3, rfl, by decide, rfl, lwg_of 98 (by decide +kernel) rfl⟩
theorem rm_X3_47 : ra_CV RX3 47 40 2 := ⟨lwg_of 399 (by decide +kernel) rfl, lwg_of 401 (by decide +kernel) rfl, lwg_sel 5 (by decide +kernel) rfl, by decide +kernel, ok_X3_take⟩
theorem rm_X3_51 : ra_CV RX3 51 42 2 := ⟨lwg_of 416 (by decide +kernel) rfl, lwg_of 418 (by decide +kernel) rfl, lwg_sel 7 (by decide +kernel) rfl, by decide +kernel, ok_X3_nearestOfLeast⟩
theorem rm_X3_55 : ra_CV RX3 55 43 2 := ⟨lwg_of 423 (by decide +kernel) rfl, lwg_of 425 (by decide +kernel) rfl, lwg_sel 8 (by decide +kernel) rfl, by decide +kernel, ok_X3_forgetFar⟩
theorem rf_X3_58 : ra_F RX3 58 6 5 := ⟨RX6, TX6, 10, rfl, by decide, rfl, lwg_of 55 (by decide +kernel) rfl⟩
theorem rm_X3_63 : ra_CV RX3 63 39 0 := ⟨lwg_of 395 (by decide +kernel) rfl, lwg_of 397 (by decide +kernel) rfl, lwg_sel 4 (by decide +kernel) rfl, by decide +kernel, ok_X3_passOnce⟩
theorem rf_X3_67 : ra_F RX3 67 5 5 := ⟨RX5, TX5, 6, rfl, by decide, rfl, lwg_of 131 (by decide +kernel) rfl⟩
theorem rf_X3_70 : ra_F RX3 70 5 1 := ⟨RX5, TX5, 6, rfl, by decide, rfl, lwg_of 121 (by decide +kernel) rfl⟩
theorem rf_X3_73 : ra_F RX3 73 5 3 := ⟨RX5, TX5, 6, rfl, by decide, rfl, lwg_of 127 (by decide +kernel) rfl⟩
theorem rf_X3_76 : ra_F RX3 76 6 4 := ⟨RX6, TX6, 10, rfl, by decide, rfl, lwg_of 49 (by decide +kernel) rfl⟩
theorem rf_X3_79 : ra_F RX3 79 5 2 := ⟨RX5, TX5, 6, rfl, by decide, rfl, lwg_of 124 (by decide +kernel) rfl⟩
theorem rm_X3_82 : ra_CS RX3 82 137 2 := ⟨lwg_of 403 (by decide +kernel) rfl, lwg_of 404 (by decide +kernel) rfl, by decide +kernel, ok_J9_min_7cf53⟩
theorem rm_X3_87 : ra_CV RX3 87 61 0 := ⟨lwg_of 406 (by decide +kernel) rfl, lwg_of 365 (by decide +kernel) rfl, lwg_of 366 (by decide +kernel) rfl, by decide +kernel, ok_X6_firstThere⟩
theorem rm_X3_91 : ra_CV RX3 91 62 0 := ⟨lwg_of 407 (by decide +kernel) rfl, lwg_of 370 (by decide +kernel) rfl, lwg_of 371 (by decide +kernel) rfl, by decide +kernel, ok_X6_lastThere⟩
theorem rm_X3_94 : ra_CV RX3 94 64 2 := ⟨lwg_of 408 (by decide +kernel) rfl, lwg_of 409 (by decide +kernel) rfl, lwg_of 410 (by decide +kernel) rfl, by decide +kernel, ok_X6_mistake⟩
theorem rm_X3_97 : ra_CV RX3 97 41 3 := ⟨lwg_of 412 (by decide +kernel) rfl, lwg_of 414 (by decide +kernel) rfl, lwg_sel 6 (by decide +kernel) rfl, by decide +kernel, ok_X3_lower⟩
theorem rm_X3_101 : ra_CS RX3 101 135 1 := ⟨lwg_of 420 (by decide +kernel) rfl, lwg_of 421 (by decide +kernel) rfl, by decide +kernel, ok_J9_abs_0f7a4⟩
theorem rf_X3_105 : ra_F RX3 105 6 9 := ⟨RX6, TX6, 10, rfl, by decide, rfl, lwg_of 67 (by decide +kernel) rfl⟩
theorem rf_X4_9 : ra_F RX4 9 4 0 := ⟨RX4, TX4, 3, rfl, by decide, rfl, lwg_of 96 (by decide +kernel) rfl⟩
theorem rf_X4_15 : ra_F RX4 15 4 1 := ⟨RX4, TX4, 3, rfl, by decide, rfl, lwg_of 100 (by decide +kernel) rfl⟩
theorem rf_X4_18 : ra_F RX4 18 4 2 := ⟨RX4, TX4, 3, rfl, by decide, rfl, lwg_of 102 (by decide +kernel) rfl⟩
theorem rp_X4_18 : ra_FP RX4 18 4 2 0 := ⟨RX4, TX4, 3, rfl, by decide, rfl, lwg_of 102 (by decide +kernel) rfl, rfl, by decide +kernel⟩
theorem rf_X5_9 : ra_F RX5 9 5 1 := ⟨RX5, TX5, 6, rfl, by decide, rfl, lwg_of 120 (by decide +kernel) rfl⟩
theorem rf_X5_15 : ra_F RX5 15 5 2 := ⟨RX5, TX5, 6, rfl, by decide, rfl, lwg_of 123 (by decide +kernel) rfl⟩
theorem rf_X5_18 : ra_F RX5 18 5 3 := ⟨RX5, TX5, 6, rfl, by decide, rfl, lwg_of 126 (by decide +kernel) rfl⟩
theorem rf_X5_21 : ra_F RX5 21 5 4 := ⟨RX5, TX5, 6, rfl, by decide, rfl, lwg_of 129 (by decide +kernel) rfl⟩
theorem rf_X5_24 : ra_F RX5 24 5 0 := ⟨RX5, TX5, 6, rfl, by decide, rfl, lwg_of 119 (by decide +kernel) rfl⟩
theorem rf_X5_28 : ra_F RX5 28 5 5 := ⟨RX5, TX5, 6, rfl, by decide, rfl, lwg_of 130 (by decide +kernel) rfl⟩
theorem rp_X5_28 : ra_FP RX5 28 5 5 0 := ⟨RX5, TX5, 6, rfl, by decide, rfl, lwg_of 130 (by decide +kernel) rfl, rfl, by decide +kernel⟩
theorem rf_X5_32 : ra_F RX5 32 6 5 := ⟨RX6, TX6, 10, rfl, by decide, rfl, lwg_of 53 (by decide +kernel) rfl⟩
theorem rm_X5_37 : ra_CV RX5 37 63 1 := ⟨lwg_of 360 (by decide +kernel) rfl, lwg_of 361 (by decide +kernel) rfl, lwg_of 362 (by decide +kernel) rfl, by decide +kernel, ok_X6_isThere⟩
theorem rm_X5_41 : ra_CV RX5 41 49 1 := ⟨lwg_of 373 (by decide +kernel) rfl, lwg_of 375 (by decide +kernel) rfl, lwg_sel 1 (by decide +kernel) rfl, by decide +kernel, ok_X5_layFrom⟩
theorem rm_X5_45 : ra_CV RX5 45 61 0 := ⟨lwg_of 377 (by decide +kernel) rfl, lwg_of 365 (by decide +kernel) rfl, lwg_of 366 (by decide +kernel) rfl, by decide +kernel, ok_X6_firstThere⟩
theorem rm_X5_49 : ra_CV RX5 49 50 3 := ⟨lwg_of 378 (by decide +kernel) rfl, lwg_of 380 (by decide +kernel) rfl, lwg_sel 2 (by decide +kernel) rfl, by decide +kernel, ok_X5_add⟩
theorem rm_X5_53 : ra_CV RX5 53 59 0 := ⟨lwg_of 382 (by decide +kernel) rfl, lwg_of 308 (by decide +kernel) rfl, lwg_of 309 (by decide +kernel) rfl, by decide +kernel, ok_X6_hasLoop⟩
theorem rf_X5_57 : ra_F RX5 57 6 8 := ⟨RX6, TX6, 10, rfl, by decide, rfl, lwg_of 63 (by decide +kernel) rfl⟩
theorem rf_X5_60 : ra_F RX5 60 6 7 := ⟨RX6, TX6, 10, rfl, by decide, rfl, lwg_of 60 (by decide +kernel) rfl⟩
theorem rf_X5_63 : ra_F RX5 63 6 6 := ⟨RX6, TX6, 10, rfl, by decide, rfl, lwg_of 57 (by decide +kernel) rfl⟩
theorem rf_X5_66 : ra_F RX5 66 6 2 := ⟨RX6, TX6, 10, rfl, by decide, rfl, lwg_of 43 (by decide +kernel) rfl⟩
theorem rf_X5_69 : ra_F RX5 69 6 3 := ⟨RX6, TX6, 10, rfl, by decide, rfl, lwg_of 45 (by decide +kernel) rfl⟩
theorem rf_X5_72 : ra_F RX5 72 6 4 := ⟨RX6, TX6, 10, rfl, by decide, rfl, lwg_of 47 (by decide +kernel) rfl⟩
theorem rf_X6_9 : ra_F RX6 9 6 0 := ⟨RX6, TX6, 10, rfl, by decide, rfl, lwg_of 35 (by decide +kernel) rfl⟩
theorem rf_X6_15 : ra_F RX6 15 6 1 := ⟨RX6, TX6, 10, rfl, by decide, rfl, lwg_of 39 (by decide +kernel) rfl⟩
theorem rf_X6_18 : ra_F RX6 18 6 2 := ⟨RX6, TX6, 10, rfl, by decide, rfl, lwg_of 42 (by decide +kernel) rfl⟩
theorem rf_X6_21 : ra_F RX6 21 6 3 := ⟨RX6, TX6, 10, rfl, by decide, rfl, lwg_of 44 (by decide +kernel) rfl⟩
theorem rg_X6_24 : ra_G RX6 24 := ⟨rfl, rfl⟩
theorem rf_X6_27 : ra_F RX6 27 6 4 := ⟨RX6, TX6, 10, rfl, by decide, rfl, lwg_of 46 (by decide +kernel) rfl⟩
theorem rm_X6_30 : ra_CV RX6 30 54 0 := ⟨lwg_of 31 (by decide +kernel) rfl, lwg_of 32 (by decide +kernel) rfl, lwg_of 33 (by decide +kernel) rfl, by decide +kernel, ok_X6_empty⟩
theorem rf_X6_33 : ra_F RX6 33 6 5 := ⟨RX6, TX6, 10, rfl, by decide, rfl, lwg_of 51 (by decide +kernel) rfl⟩
theorem rp_X6_33 : ra_FP RX6 33 6 5 0 := ⟨RX6, TX6, 10, rfl, by decide, rfl, lwg_of 51 (by decide +kernel) rfl, rfl, by decide +kernel⟩
theorem rf_X6_37 : ra_F RX6 37 6 6 := ⟨RX6, TX6, 10, rfl, by decide, rfl, lwg_of 56 (by decide +kernel) rfl⟩
theorem rp_X6_37 : ra_FP RX6 37 6 6 0 := ⟨RX6, TX6, 10, rfl, by decide, rfl, lwg_of 56 (by decide +kernel) rfl, rfl, by decide +kernel⟩
theorem rf_X6_40 : ra_F RX6 40 6 7 := ⟨RX6, TX6, 10, rfl, by decide, rfl, lwg_of 59 (by decide +kernel) rfl⟩
theorem rp_X6_40 : ra_FP RX6 40 6 7 0 := ⟨RX6, TX6, 10, rfl, by decide, rfl, lwg_of 59 (by decide +kernel) rfl, rfl, by decide +kernel⟩
theorem rf_X6_43 : ra_F RX6 43 6 8 := ⟨RX6, TX6, 10, rfl, by decide, rfl, lwg_of 62 (by decide +kernel) rfl⟩
theorem rp_X6_43 : ra_FP RX6 43 6 8 0 := ⟨RX6, TX6, 10, rfl, by decide, rfl, lwg_of 62 (by decide +kernel) rfl, rfl, by decide +kernel⟩
theorem rf_X6_46 : ra_F RX6 46 6 9 := ⟨RX6, TX6, 10, rfl, by decide, rfl, lwg_of 65 (by decide +kernel) rfl⟩
theorem rp_X6_46 : ra_FP RX6 46 6 9 0 := ⟨RX6, TX6, 10, rfl, by decide, rfl, lwg_of 65 (by decide +kernel) rfl, rfl, by decide +kernel⟩
theorem rm_X6_49 : ra_CV RX6 49 59 0 := ⟨lwg_of 368 (by decide +kernel) rfl, lwg_of 308 (by decide +kernel) rfl, lwg_of 309 (by decide +kernel) rfl, by decide +kernel, ok_X6_hasLoop⟩
theorem rm_X6_53 : ra_CV RX6 53 61 0 := ⟨lwg_of 364 (by decide +kernel) rfl, lwg_of 365 (by decide +kernel) rfl, lwg_of 366 (by decide +kernel) rfl, by decide +kernel, ok_X6_firstThere⟩
theorem rm_X6_57 : ra_CV RX6 57 62 0 := ⟨lwg_of 369 (by decide +kernel) rfl, lwg_of 370 (by decide +kernel) rfl, lwg_of 371 (by decide +kernel) rfl, by decide +kernel, ok_X6_lastThere⟩
theorem rm_L_7 : ra_CV RL 7 82 1 := ⟨lwg_of 645 (by decide +kernel) rfl, lwg_of 646 (by decide +kernel) rfl, lwg_of 647 (by decide +kernel) rfl, by decide +kernel, ok_X7_mean⟩
theorem rm_L_19 : ra_CV RL 19 66 0 := ⟨lwg_of 286 (by decide +kernel) rfl, lwg_of 287 (by decide +kernel) rfl, lwg_of 288 (by decide +kernel) rfl, by decide +kernel, ok_X7_clear⟩
theorem rm_L_22 : ra_CV RL 22 96 0 := ⟨lwg_of 883 (by decide +kernel) rfl, lwg_of 884 (by decide +kernel) rfl, lwg_of 885 (by decide +kernel) rfl, by decide +kernel, ok_X8_clear⟩
theorem rm_L_23 : ra_CV RL 23 67 2 := ⟨lwg_of 295 (by decide +kernel) rfl, lwg_of 296 (by decide +kernel) rfl, lwg_of 297 (by decide +kernel) rfl, by decide +kernel, ok_X7_note⟩
theorem rm_L_27 : ra_CV RL 27 98 2 := ⟨lwg_of 887 (by decide +kernel) rfl, lwg_of 888 (by decide +kernel) rfl, lwg_of 889 (by decide +kernel) rfl, by decide +kernel, ok_X8_note⟩
theorem rm_L_28 : ra_CV RL 28 68 2 := ⟨lwg_of 319 (by decide +kernel) rfl, lwg_of 320 (by decide +kernel) rfl, lwg_of 321 (by decide +kernel) rfl, by decide +kernel, ok_X7_way⟩
theorem rm_L_31 : ra_CV RL 31 99 2 := ⟨lwg_of 892 (by decide +kernel) rfl, lwg_of 893 (by decide +kernel) rfl, lwg_of 894 (by decide +kernel) rfl, by decide +kernel, ok_X8_way⟩
theorem rm_L_32 : ra_CV RL 32 69 2 := ⟨lwg_of 335 (by decide +kernel) rfl, lwg_of 336 (by decide +kernel) rfl, lwg_of 337 (by decide +kernel) rfl, by decide +kernel, ok_X7_loop⟩
theorem rm_L_35 : ra_CV RL 35 100 2 := ⟨lwg_of 896 (by decide +kernel) rfl, lwg_of 897 (by decide +kernel) rfl, lwg_of 898 (by decide +kernel) rfl, by decide +kernel, ok_X8_loop⟩
theorem rm_L_36 : ra_CV RL 36 70 2 := ⟨lwg_of 339 (by decide +kernel) rfl, lwg_of 340 (by decide +kernel) rfl, lwg_of 341 (by decide +kernel) rfl, by decide +kernel, ok_X7_cost⟩
theorem rm_L_39 : ra_CV RL 39 101 2 := ⟨lwg_of 900 (by decide +kernel) rfl, lwg_of 901 (by decide +kernel) rfl, lwg_of 902 (by decide +kernel) rfl, by decide +kernel, ok_X8_cost⟩
theorem rm_L_40 : ra_CV RL 40 71 1 := ⟨lwg_of 343 (by decide +kernel) rfl, lwg_of 344 (by decide +kernel) rfl, lwg_of 345 (by decide +kernel) rfl, by decide +kernel, ok_X7_span⟩
theorem rm_L_43 : ra_CV RL 43 102 1 := ⟨lwg_of 904 (by decide +kernel) rfl, lwg_of 905 (by decide +kernel) rfl, lwg_of 906 (by decide +kernel) rfl, by decide +kernel, ok_X8_span⟩
theorem rm_L_44 : ra_CV RL 44 72 2 := ⟨lwg_of 347 (by decide +kernel) rfl, lwg_of 348 (by decide +kernel) rfl, lwg_of 349 (by decide +kernel) rfl, by decide +kernel, ok_X7_hear⟩
theorem rm_L_47 : ra_CV RL 47 112 2 := ⟨lwg_of 908 (by decide +kernel) rfl, lwg_of 909 (by decide +kernel) rfl, lwg_of 910 (by decide +kernel) rfl, by decide +kernel, ok_X8_hear⟩
theorem rm_L_48 : ra_CV RL 48 73 1 := ⟨lwg_of 436 (by decide +kernel) rfl, lwg_of 437 (by decide +kernel) rfl, lwg_of 438 (by decide +kernel) rfl, by decide +kernel, ok_X7_cut⟩
theorem rm_L_51 : ra_CV RL 51 113 1 := ⟨lwg_of 913 (by decide +kernel) rfl, lwg_of 914 (by decide +kernel) rfl, lwg_of 915 (by decide +kernel) rfl, by decide +kernel, ok_X8_cut⟩
theorem rm_L_52 : ra_CV RL 52 74 1 := ⟨lwg_of 444 (by decide +kernel) rfl, lwg_of 445 (by decide +kernel) rfl, lwg_of 446 (by decide +kernel) rfl, by decide +kernel, ok_X7_valueOf⟩
theorem rm_L_55 : ra_CV RL 55 114 1 := ⟨lwg_of 917 (by decide +kernel) rfl, lwg_of 918 (by decide +kernel) rfl, lwg_of 919 (by decide +kernel) rfl, by decide +kernel, ok_X8_valueOf⟩
theorem rm_L_56 : ra_CV RL 56 75 1 := ⟨lwg_of 453 (by decide +kernel) rfl, lwg_of 454 (by decide +kernel) rfl, lwg_of 455 (by decide +kernel) rfl, by decide +kernel, ok_X7_tempo⟩
theorem rm_L_59 : ra_CV RL 59 117 1 := ⟨lwg_of 921 (by decide +kernel) rfl, lwg_of 922 (by decide +kernel) rfl, lwg_of 923 (by decide +kernel) rfl, by decide +kernel, ok_X8_tempo⟩
theorem rm_L_60 : ra_CV RL 60 76 1 := ⟨lwg_of 478 (by decide +kernel) rfl, lwg_of 479 (by decide +kernel) rfl, lwg_of 480 (by decide +kernel) rfl, by decide +kernel, ok_X7_ahead⟩
theorem rm_L_64 : ra_CV RL 64 118 1 := ⟨lwg_of 932 (by decide +kernel) rfl, lwg_of 933 (by decide +kernel) rfl, lwg_of 934 (by decide +kernel) rfl, by decide +kernel, ok_X8_ahead⟩
theorem rm_L_65 : ra_CV RL 65 77 0 := ⟨lwg_of 494 (by decide +kernel) rfl, lwg_of 495 (by decide +kernel) rfl, lwg_of 496 (by decide +kernel) rfl, by decide +kernel, ok_X7_align⟩
theorem rm_L_69 : ra_CV RL 69 123 0 := ⟨lwg_of 938 (by decide +kernel) rfl, lwg_of 939 (by decide +kernel) rfl, lwg_of 940 (by decide +kernel) rfl, by decide +kernel, ok_X8_align⟩
theorem rm_L_70 : ra_CV RL 70 78 2 := ⟨lwg_of 579 (by decide +kernel) rfl, lwg_of 580 (by decide +kernel) rfl, lwg_of 581 (by decide +kernel) rfl, by decide +kernel, ok_X7_step⟩
theorem rm_L_73 : ra_CV RL 73 124 2 := ⟨lwg_of 958 (by decide +kernel) rfl, lwg_of 959 (by decide +kernel) rfl, lwg_of 960 (by decide +kernel) rfl, by decide +kernel, ok_X8_step⟩
theorem rm_L_74 : ra_CV RL 74 79 0 := ⟨lwg_of 584 (by decide +kernel) rfl, lwg_of 585 (by decide +kernel) rfl, lwg_of 586 (by decide +kernel) rfl, by decide +kernel, ok_X7_steps⟩
theorem rm_L_77 : ra_CV RL 77 125 0 := ⟨lwg_of 962 (by decide +kernel) rfl, lwg_of 963 (by decide +kernel) rfl, lwg_of 964 (by decide +kernel) rfl, by decide +kernel, ok_X8_steps⟩
theorem rm_L_78 : ra_CV RL 78 80 1 := ⟨lwg_of 588 (by decide +kernel) rfl, lwg_of 589 (by decide +kernel) rfl, lwg_of 590 (by decide +kernel) rfl, by decide +kernel, ok_X7_matched⟩
theorem rm_L_81 : ra_CV RL 81 126 1 := ⟨lwg_of 966 (by decide +kernel) rfl, lwg_of 967 (by decide +kernel) rfl, lwg_of 968 (by decide +kernel) rfl, by decide +kernel, ok_X8_matched⟩
theorem rm_L_82 : ra_CV RL 82 81 2 := ⟨lwg_of 592 (by decide +kernel) rfl, lwg_of 593 (by decide +kernel) rfl, lwg_of 594 (by decide +kernel) rfl, by decide +kernel, ok_X7_grade⟩
theorem rm_L_85 : ra_CV RL 85 128 2 := ⟨lwg_of 970 (by decide +kernel) rfl, lwg_of 971 (by decide +kernel) rfl, lwg_of 972 (by decide +kernel) rfl, by decide +kernel, ok_X8_grade⟩
theorem rm_L_91 : ra_CV RL 91 129 1 := ⟨lwg_of 978 (by decide +kernel) rfl, lwg_of 979 (by decide +kernel) rfl, lwg_of 980 (by decide +kernel) rfl, by decide +kernel, ok_X8_mean⟩
theorem rm_L_92 : ra_CV RL 92 93 0 := ⟨lwg_of 879 (by decide +kernel) rfl, lwg_of 880 (by decide +kernel) rfl, lwg_of 881 (by decide +kernel) rfl, by decide +kernel, ok_X8_thrown⟩
theorem rm_L_95 : ra_CV RL 95 83 0 := ⟨lwg_of 596 (by decide +kernel) rfl, lwg_of 597 (by decide +kernel) rfl, lwg_of 598 (by decide +kernel) rfl, by decide +kernel, ok_X7_end⟩
theorem rm_L_98 : ra_CV RL 98 130 0 := ⟨lwg_of 982 (by decide +kernel) rfl, lwg_of 983 (by decide +kernel) rfl, lwg_of 984 (by decide +kernel) rfl, by decide +kernel, ok_X8_end⟩
theorem rm_L_99 : ra_CV RL 99 84 1 := ⟨lwg_of 625 (by decide +kernel) rfl, lwg_of 626 (by decide +kernel) rfl, lwg_of 627 (by decide +kernel) rfl, by decide +kernel, ok_X7_due⟩
theorem rm_L_102 : ra_CV RL 102 131 1 := ⟨lwg_of 986 (by decide +kernel) rfl, lwg_of 987 (by decide +kernel) rfl, lwg_of 988 (by decide +kernel) rfl, by decide +kernel, ok_X8_due⟩
theorem rm_L_103 : ra_CV RL 103 85 2 := ⟨lwg_of 633 (by decide +kernel) rfl, lwg_of 634 (by decide +kernel) rfl, lwg_of 635 (by decide +kernel) rfl, by decide +kernel, ok_X7_of⟩
theorem rm_L_106 : ra_CV RL 106 132 2 := ⟨lwg_of 990 (by decide +kernel) rfl, lwg_of 991 (by decide +kernel) rfl, lwg_of 992 (by decide +kernel) rfl, by decide +kernel, ok_X8_of⟩
theorem rm_L_107 : ra_CV RL 107 86 1 := ⟨lwg_of 637 (by decide +kernel) rfl, lwg_of 638 (by decide +kernel) rfl, lwg_of 639 (by decide +kernel) rfl, by decide +kernel, ok_X7_told⟩
theorem rm_L_110 : ra_CV RL 110 133 1 := ⟨lwg_of 994 (by decide +kernel) rfl, lwg_of 995 (by decide +kernel) rfl, lwg_of 996 (by decide +kernel) rfl, by decide +kernel, ok_X8_told⟩
theorem rf_X8_7 : ra_F RX8 7 8 0 := ⟨RX8, TX8, 35, rfl, by decide, rfl, lwg_of 773 (by decide +kernel) rfl⟩
theorem rf_X8_13 : ra_F RX8 13 8 1 := ⟨RX8, TX8, 35, rfl, by decide, rfl, lwg_of 774 (by decide +kernel) rfl⟩
theorem rf_X8_16 : ra_F RX8 16 8 2 := ⟨RX8, TX8, 35, rfl, by decide, rfl, lwg_of 775 (by decide +kernel) rfl⟩
theorem rf_X8_19 : ra_F RX8 19 8 3 := ⟨RX8, TX8, 35, rfl, by decide, rfl, lwg_of 776 (by decide +kernel) rfl⟩
theorem rf_X8_22 : ra_F RX8 22 8 5 := ⟨RX8, TX8, 35, rfl, by decide, rfl, lwg_of 778 (by decide +kernel) rfl⟩
theorem rf_X8_25 : ra_F RX8 25 8 6 := ⟨RX8, TX8, 35, rfl, by decide, rfl, lwg_of 779 (by decide +kernel) rfl⟩
theorem rf_X8_28 : ra_F RX8 28 8 8 := ⟨RX8, TX8, 35, rfl, by decide, rfl, lwg_of 781 (by decide +kernel) rfl⟩
theorem rp_X8_28 : ra_FP RX8 28 8 8 0 := ⟨RX8, TX8, 35, rfl, by decide, rfl, lwg_of 781 (by decide +kernel) rfl, rfl, by decide +kernel⟩
theorem rf_X8_32 : ra_F RX8 32 8 9 := ⟨RX8, TX8, 35, rfl, by decide, rfl, lwg_of 782 (by decide +kernel) rfl⟩
theorem rp_X8_32 : ra_FP RX8 32 8 9 0 := ⟨RX8, TX8, 35, rfl, by decide, rfl, lwg_of 782 (by decide +kernel) rfl, rfl, by decide +kernel⟩
theorem rf_X8_35 : ra_F RX8 35 8 10 := ⟨RX8, TX8, 35, rfl, by decide, rfl, lwg_of 783 (by decide +kernel) rfl⟩
theorem rf_X8_38 : ra_F RX8 38 8 12 := ⟨RX8, TX8, 35, rfl, by decide, rfl, lwg_of 785 (by decide +kernel) rfl⟩
theorem rf_X8_41 : ra_F RX8 41 8 13 := ⟨RX8, TX8, 35, rfl, by decide, rfl, lwg_of 786 (by decide +kernel) rfl⟩
theorem rf_X8_44 : ra_F RX8 44 8 16 := ⟨RX8, TX8, 35, rfl, by decide, rfl, lwg_of 789 (by decide +kernel) rfl⟩
theorem rf_X8_47 : ra_F RX8 47 8 17 := ⟨RX8, TX8, 35, rfl, by decide, rfl, lwg_of 790 (by decide +kernel) rfl⟩
theorem rf_X8_50 : ra_F RX8 50 8 18 := ⟨RX8, TX8, 35, rfl, by decide, rfl, lwg_of 791 (by decide +kernel) rfl⟩
theorem rf_X8_53 : ra_F RX8 53 8 20 := ⟨RX8, TX8, 35, rfl, by decide, rfl, lwg_of 793 (by decide +kernel) rfl⟩
theorem rf_X8_56 : ra_F RX8 56 8 21 := ⟨RX8, TX8, 35, rfl, by decide, rfl, lwg_of 794 (by decide +kernel) rfl⟩
theorem rf_X8_59 : ra_F RX8 59 8 23 := ⟨RX8, TX8, 35, rfl, by decide, rfl, lwg_of 796 (by decide +kernel) rfl⟩
theorem rf_X8_62 : ra_F RX8 62 8 24 := ⟨RX8, TX8, 35, rfl, by decide, rfl, lwg_of 797 (by decide +kernel) rfl⟩
theorem rf_X8_65 : ra_F RX8 65 8 26 := ⟨RX8, TX8, 35, rfl, by decide, rfl, lwg_of 799 (by decide +kernel) rfl⟩
theorem rf_X8_68 : ra_F RX8 68 8 29 := ⟨RX8, TX8, 35, rfl, by decide, rfl, lwg_of 802 (by decide +kernel) rfl⟩
theorem rf_X8_71 : ra_F RX8 71 8 30 := ⟨RX8, TX8, 35, rfl, by decide, rfl, lwg_of 803 (by decide +kernel) rfl⟩
theorem rf_X8_74 : ra_F RX8 74 8 31 := ⟨RX8, TX8, 35, rfl, by decide, rfl, lwg_of 804 (by decide +kernel) rfl⟩
theorem rf_X8_77 : ra_F RX8 77 8 32 := ⟨RX8, TX8, 35, rfl, by decide, rfl, lwg_of 805 (by decide +kernel) rfl⟩
theorem rm_X8_80 : ra_CV RX8 80 94 0 := ⟨lwg_of 724 (by decide +kernel) rfl, lwg_of 726 (by decide +kernel) rfl, lwg_sel 27 (by decide +kernel) rfl, by decide +kernel, ok_X8_begin⟩
theorem rf_X8_83 : ra_F RX8 83 8 34 := ⟨RX8, TX8, 35, rfl, by decide, rfl, lwg_of 807 (by decide +kernel) rfl⟩
theorem rp_X8_83 : ra_FP RX8 83 8 34 0 := ⟨RX8, TX8, 35, rfl, by decide, rfl, lwg_of 807 (by decide +kernel) rfl, rfl, by decide +kernel⟩
theorem rf_X8_86 : ra_F RX8 86 8 4 := ⟨RX8, TX8, 35, rfl, by decide, rfl, lwg_of 777 (by decide +kernel) rfl⟩
theorem rp_X8_86 : ra_FP RX8 86 8 4 0 := ⟨RX8, TX8, 35, rfl, by decide, rfl, lwg_of 777 (by decide +kernel) rfl, rfl, by decide +kernel⟩
theorem rf_X8_89 : ra_F RX8 89 8 7 := ⟨RX8, TX8, 35, rfl, by decide, rfl, lwg_of 780 (by decide +kernel) rfl⟩
theorem rp_X8_89 : ra_FP RX8 89 8 7 0 := ⟨RX8, TX8, 35, rfl, by decide, rfl, lwg_of 780 (by decide +kernel) rfl, rfl, by decide +kernel⟩
theorem rf_X8_92 : ra_F RX8 92 8 11 := ⟨RX8, TX8, 35, rfl, by decide, rfl, lwg_of 784 (by decide +kernel) rfl⟩
theorem rp_X8_92 : ra_FP RX8 92 8 11 0 := ⟨RX8, TX8, 35, rfl, by decide, rfl, lwg_of 784 (by decide +kernel) rfl, rfl, by decide +kernel⟩
theorem rf_X8_95 : ra_F RX8 95 8 15 := ⟨RX8, TX8, 35, rfl, by decide, rfl, lwg_of 788 (by decide +kernel) rfl⟩
theorem rp_X8_95 : ra_FP RX8 95 8 15 0 := ⟨RX8, TX8, 35, rfl, by decide, rfl, lwg_of 788 (by decide +kernel) rfl, rfl, by decide +kernel⟩
theorem rm_X8_98 : ra_CV RX8 98 95 0 := ⟨lwg_of 728 (by decide +kernel) rfl, lwg_of 730 (by decide +kernel) rfl, lwg_sel 28 (by decide +kernel) rfl, by decide +kernel, ok_X8_fresh⟩
theorem rf_X8_101 : ra_F RX8 101 8 14 := ⟨RX8, TX8, 35, rfl, by decide, rfl, lwg_of 787 (by decide +kernel) rfl⟩
theorem rp_X8_101 : ra_FP RX8 101 8 14 0 := ⟨RX8, TX8, 35, rfl, by decide, rfl, lwg_of 787 (by decide +kernel) rfl, rfl, by decide +kernel⟩
theorem rf_X8_104 : ra_F RX8 104 8 27 := ⟨RX8, TX8, 35, rfl, by decide, rfl, lwg_of 800 (by decide +kernel) rfl⟩
theorem rp_X8_104 : ra_FP RX8 104 8 27 1 := ⟨RX8, TX8, 35, rfl, by decide, rfl, lwg_of 800 (by decide +kernel) rfl, rfl, by decide +kernel⟩
theorem rm_X8_108 : ra_CV RX8 108 106 0 := ⟨lwg_of 732 (by decide +kernel) rfl, lwg_of 734 (by decide +kernel) rfl, lwg_sel 29 (by decide +kernel) rfl, by decide +kernel, ok_X8_follow⟩
theorem rc_X8_111 : ra_C RX8 111 1000000 := ⟨lwg_of 891 (by decide +kernel) rfl, by decide, by decide⟩
theorem rf_X8_112 : ra_F RX8 112 8 25 := ⟨RX8, TX8, 35, rfl, by decide, rfl, lwg_of 798 (by decide +kernel) rfl⟩
theorem rp_X8_112 : ra_FP RX8 112 8 25 0 := ⟨RX8, TX8, 35, rfl, by decide, rfl, lwg_of 798 (by decide +kernel) rfl, rfl, by decide +kernel⟩
theorem rm_X8_115 : ra_CV RX8 115 97 1 := ⟨lwg_of 749 (by decide +kernel) rfl, lwg_of 751 (by decide +kernel) rfl, lwg_sel 33 (by decide +kernel) rfl, by decide +kernel, ok_X8_isThere⟩
theorem rm_X8_119 : ra_CV RX8 119 104 2 := ⟨lwg_of 753 (by decide +kernel) rfl, lwg_of 755 (by decide +kernel) rfl, lwg_sel 34 (by decide +kernel) rfl, by decide +kernel, ok_X8_lay⟩
theorem rc_X8_123 : ra_C RX8 123 1000000000 := ⟨lwg_of 736 (by decide +kernel) rfl, by decide, by decide⟩
theorem rf_X8_124 : ra_F RX8 124 8 19 := ⟨RX8, TX8, 35, rfl, by decide, rfl, lwg_of 792 (by decide +kernel) rfl⟩
theorem rp_X8_124 : ra_FP RX8 124 8 19 0 := ⟨RX8, TX8, 35, rfl, by decide, rfl, lwg_of 792 (by decide +kernel) rfl, rfl, by decide +kernel⟩
theorem rf_X8_127 : ra_F RX8 127 8 22 := ⟨RX8, TX8, 35, rfl, by decide, rfl, lwg_of 795 (by decide +kernel) rfl⟩
theorem rp_X8_127 : ra_FP RX8 127 8 22 0 := ⟨RX8, TX8, 35, rfl, by decide, rfl, lwg_of 795 (by decide +kernel) rfl, rfl, by decide +kernel⟩
theorem rm_X8_130 : ra_CV RX8 130 107 1 := ⟨lwg_of 737 (by decide +kernel) rfl, lwg_of 739 (by decide +kernel) rfl, lwg_sel 30 (by decide +kernel) rfl, by decide +kernel, ok_X8_further⟩
theorem rm_X8_134 : ra_CV RX8 134 108 0 := ⟨lwg_of 741 (by decide +kernel) rfl, lwg_of 743 (by decide +kernel) rfl, lwg_sel 31 (by decide +kernel) rfl, by decide +kernel, ok_X8_pass⟩
theorem rm_X8_137 : ra_CV RX8 137 109 1 := ⟨lwg_of 757 (by decide +kernel) rfl, lwg_of 759 (by decide +kernel) rfl, lwg_sel 35 (by decide +kernel) rfl, by decide +kernel, ok_X8_take⟩
theorem rm_X8_140 : ra_CV RX8 140 110 0 := ⟨lwg_of 765 (by decide +kernel) rfl, lwg_of 767 (by decide +kernel) rfl, lwg_sel 37 (by decide +kernel) rfl, by decide +kernel, ok_X8_choose⟩
theorem rm_X8_143 : ra_CV RX8 143 111 1 := ⟨lwg_of 769 (by decide +kernel) rfl, lwg_of 771 (by decide +kernel) rfl, lwg_sel 38 (by decide +kernel) rfl, by decide +kernel, ok_X8_anchor⟩
theorem rm_X8_146 : ra_CV RX8 146 103 1 := ⟨lwg_of 745 (by decide +kernel) rfl, lwg_of 747 (by decide +kernel) rfl, lwg_sel 32 (by decide +kernel) rfl, by decide +kernel, ok_X8_nextsOf⟩
theorem rm_X8_149 : ra_CV RX8 149 105 2 := ⟨lwg_of 761 (by decide +kernel) rfl, lwg_of 763 (by decide +kernel) rfl, lwg_sel 36 (by decide +kernel) rfl, by decide +kernel, ok_X8_wrong⟩
theorem rc_X8_153 : ra_C RX8 153 10000000 := ⟨lwg_of 912 (by decide +kernel) rfl, by decide, by decide⟩
theorem rm_X8_154 : ra_CS RX8 154 115 2 := ⟨lwg_of 929 (by decide +kernel) rfl, lwg_of 930 (by decide +kernel) rfl, by decide +kernel, ok_X8_common⟩
theorem rm_X8_157 : ra_CV RX8 157 116 1 := ⟨lwg_of 925 (by decide +kernel) rfl, lwg_of 927 (by decide +kernel) rfl, lwg_sel 39 (by decide +kernel) rfl, by decide +kernel, ok_X8_tempoOf⟩
theorem rc_X8_161 : ra_CJ RX8 161 (-2) := ⟨lwg_of 936 (by decide +kernel) rfl, by decide, by decide⟩
theorem rc_X8_163 : ra_CJ RX8 163 (-3) := ⟨lwg_of 937 (by decide +kernel) rfl, by decide, by decide⟩
theorem rm_X8_165 : ra_CV RX8 165 119 2 := ⟨lwg_of 946 (by decide +kernel) rfl, lwg_of 948 (by decide +kernel) rfl, lwg_sel 41 (by decide +kernel) rfl, by decide +kernel, ok_X8_at⟩
theorem rf_X8_168 : ra_F RX8 168 8 33 := ⟨RX8, TX8, 35, rfl, by decide, rfl, lwg_of 806 (by decide +kernel) rfl⟩
theorem rp_X8_168 : ra_FP RX8 168 8 33 0 := ⟨RX8, TX8, 35, rfl, by decide, rfl, lwg_of 806 (by decide +kernel) rfl, rfl, by decide +kernel⟩
theorem rm_X8_171 : ra_CV RX8 171 121 4 := ⟨lwg_of 954 (by decide +kernel) rfl, lwg_of 956 (by decide +kernel) rfl, lwg_sel 43 (by decide +kernel) rfl, by decide +kernel, ok_X8_put⟩
theorem rm_X8_175 : ra_CV RX8 175 120 1 := ⟨lwg_of 942 (by decide +kernel) rfl, lwg_of 944 (by decide +kernel) rfl, lwg_sel 40 (by decide +kernel) rfl, by decide +kernel, ok_X8_left⟩
theorem rf_X8_178 : ra_F RX8 178 8 28 := ⟨RX8, TX8, 35, rfl, by decide, rfl, lwg_of 801 (by decide +kernel) rfl⟩
theorem rp_X8_178 : ra_FP RX8 178 8 28 0 := ⟨RX8, TX8, 35, rfl, by decide, rfl, lwg_of 801 (by decide +kernel) rfl, rfl, by decide +kernel⟩
theorem rm_X8_181 : ra_CV RX8 181 122 2 := ⟨lwg_of 950 (by decide +kernel) rfl, lwg_of 952 (by decide +kernel) rfl, lwg_sel 42 (by decide +kernel) rfl, by decide +kernel, ok_X8_choose_⟩
theorem rm_X8_183 : ra_CV RX8 183 127 2 := ⟨lwg_of 974 (by decide +kernel) rfl, lwg_of 976 (by decide +kernel) rfl, lwg_sel 44 (by decide +kernel) rfl, by decide +kernel, ok_X8_count⟩
end
section
/-! THE ABSTRACT MACHINE: whole numbers instead of words, places instead of addresses; a method's step as a condition on what follows. -/
abbrev ra_V : Type := Int ⊕ (Int ⊕ Nat)
abbrev ra_M : Type := Nat → Int → Int
abbrev ra_L : Type := List (Option ra_V)
abbrev vI (z : Int) : ra_V := .inl z
abbrev vJ (z : Int) : ra_V := .inr (.inl z)
abbrev vR (k : Nat) : ra_V := .inr (.inr k)
def in32 (z : Int) : Prop := -2147483648 ≤ z ∧ z ≤ 2147483647
def in64 (z : Int) : Prop := -9223372036854775808 ≤ z ∧ z ≤ 9223372036854775807
def ra_fc (z : Int) : Int := if z = 0 then 3 else if z = 1 then 2 else if z = 2 then 2 else if z = 3 then 1 else 6
def up (M : ra_M) (k : Nat) (j z : Int) : ra_M := fun k' j' => if k' = k ∧ j' = j then z else M k' j'
def ra_fa (kd : Nat) (z : Int) : ra_V := if kd ≤ 1 then vI z else vR (kd - 2)
def ra_lng (o : Option (Option ra_V)) : Bool := match o with
  | some (some (.inr (.inl _))) => true
  | _ => false
def ra_st (L : ra_L) (i : Nat) (v : ra_V) : ra_L := (match i with
  | 0 => L
  | j + 1 => if ra_lng L[j]? then L.set j none else L).set i (some v)
def ra_st2 (L : ra_L) (i : Nat) (v : ra_V) : ra_L := (ra_st L i v).set (i + 1) none
def ra_sl (args : List ra_V) : ra_L := args.flatMap fun v => if ra_lng (some (some v)) then [some v, none] else [some v]
def ra_ini (mi : Nat) (args : List ra_V) : ra_L := ra_sl args ++ List.replicate (mX mi - (ra_sl args).length) none
/-- one instruction: what must hold of the state, and of that which follows -/
def ra_stp (C : Nat → List ra_V → ra_M → (Option ra_V → ra_M → Prop) → Prop) (mi : Nat) (Q : Option ra_V → ra_M → Prop) (K : Nat → ra_L → List ra_V → ra_M → Prop) (pc : Nat) (L : ra_L) (St : List ra_V) (M : ra_M) (i : Instr) (len : Nat) : Prop :=
  match i with
  | .iconst n => len = 1 ∧ in32 n ∧ K (pc + 1) L (vI n :: St) M
  | .bipush n => len = 2 ∧ (-128 ≤ n ∧ n ≤ 127) ∧ K (pc + 2) L (vI n :: St) M
  | .sipush n => len = 3 ∧ (-32768 ≤ n ∧ n ≤ 32767) ∧ K (pc + 3) L (vI n :: St) M
  | .lconst n => len = 1 ∧ K (pc + 1) L (vJ ((n : Nat) : Int) :: St) M
  | .ldc x => len = 2 ∧ ∃ z, ra_C (mY mi).cls x z ∧ K (pc + 2) L (vI z :: St) M
  | .ldc2_w x => len = 3 ∧ ∃ z, ra_CJ (mY mi).cls x z ∧ K (pc + 3) L (vJ z :: St) M
  | .iload_n k => len = 1 ∧ ∃ z, L[(k : Nat)]? = some (some (vI z)) ∧ K (pc + 1) L (vI z :: St) M
  | .iload k => len = 2 ∧ ∃ z, L[k]? = some (some (vI z)) ∧ K (pc + 2) L (vI z :: St) M
  | .lload_n k => len = 1 ∧ ∃ z, L[(k : Nat)]? = some (some (vJ z)) ∧ K (pc + 1) L (vJ z :: St) M
  | .lload k => len = 2 ∧ ∃ z, L[k]? = some (some (vJ z)) ∧ K (pc + 2) L (vJ z :: St) M
  | .aload_n k => len = 1 ∧ ∃ z, L[(k : Nat)]? = some (some (vR z)) ∧ K (pc + 1) L (vR z :: St) M
  | .aload k => len = 2 ∧ ∃ z, L[k]? = some (some (vR z)) ∧ K (pc + 2) L (vR z :: St) M
  | .istore_n k => len = 1 ∧ ∃ z st, St = vI z :: st ∧ (k : Nat) < L.length ∧ K (pc + 1) (ra_st L k (vI z)) st M
  | .istore k => len = 2 ∧ ∃ z st, St = vI z :: st ∧ k < L.length ∧ K (pc + 2) (ra_st L k (vI z)) st M
  | .lstore_n k => len = 1 ∧ ∃ z st, St = vJ z :: st ∧ (k : Nat) + 1 < L.length ∧ K (pc + 1) (ra_st2 L k (vJ z)) st M
  | .lstore k => len = 2 ∧ ∃ z st, St = vJ z :: st ∧ k + 1 < L.length ∧ K (pc + 2) (ra_st2 L k (vJ z)) st M
  | .iinc k n => len = 3 ∧ ∃ z, L[k]? = some (some (vI z)) ∧ in32 (z + n) ∧ K (pc + 3) (ra_st L k (vI (z + n))) St M
  | .iadd => len = 1 ∧ ∃ a b st, St = vI b :: vI a :: st ∧ in32 (a + b) ∧ K (pc + 1) L (vI (a + b) :: st) M
  | .isub => len = 1 ∧ ∃ a b st, St = vI b :: vI a :: st ∧ in32 (a - b) ∧ K (pc + 1) L (vI (a - b) :: st) M
  | .imul => len = 1 ∧ ∃ a b st, St = vI b :: vI a :: st ∧ in32 (a * b) ∧ K (pc + 1) L (vI (a * b) :: st) M
  | .ineg => len = 1 ∧ ∃ a st, St = vI a :: st ∧ in32 (-a) ∧ K (pc + 1) L (vI (-a) :: st) M
  | .idiv => len = 1 ∧ ∃ a b st, St = vI b :: vI a :: st ∧ b ≠ 0 ∧ in32 (a.tdiv b) ∧ K (pc + 1) L (vI (a.tdiv b) :: st) M
  | .irem => len = 1 ∧ ∃ a b st, St = vI b :: vI a :: st ∧ b ≠ 0 ∧ in32 (a.tmod b) ∧ K (pc + 1) L (vI (a.tmod b) :: st) M
  | .iand => len = 1 ∧ ∃ (a b : Nat) (st : _), St = vI b :: vI a :: st ∧ K (pc + 1) L (vI ((a &&& b : Nat) : Int) :: st) M
  | .ior => len = 1 ∧ ∃ (a b : Nat) (st : _), St = vI b :: vI a :: st ∧ K (pc + 1) L (vI ((a ||| b : Nat) : Int) :: st) M
  | .ishl => len = 1 ∧ ∃ (a b : Nat) (st : _), St = vI b :: vI a :: st ∧ b < 31 ∧ a * 2 ^ b < 2147483648 ∧ K (pc + 1) L (vI ((a * 2 ^ b : Nat) : Int) :: st) M
  | .ishr => len = 1 ∧ ∃ (a b : Nat) (st : _), St = vI b :: vI a :: st ∧ b < 31 ∧ K (pc + 1) L (vI ((a / 2 ^ b : Nat) : Int) :: st) M
  | .i2l => len = 1 ∧ ∃ a st, St = vI a :: st ∧ K (pc + 1) L (vJ a :: st) M
  | .ladd => len = 1 ∧ ∃ a b st, St = vJ b :: vJ a :: st ∧ in64 (a + b) ∧ K (pc + 1) L (vJ (a + b) :: st) M
  | .lsub => len = 1 ∧ ∃ a b st, St = vJ b :: vJ a :: st ∧ in64 (a - b) ∧ K (pc + 1) L (vJ (a - b) :: st) M
  | .lmul => len = 1 ∧ ∃ a b st, St = vJ b :: vJ a :: st ∧ in64 (a * b) ∧ K (pc + 1) L (vJ (a * b) :: st) M
  | .ldiv => len = 1 ∧ ∃ a b st, St = vJ b :: vJ a :: st ∧ b ≠ 0 ∧ in64 (a.tdiv b) ∧ K (pc + 1) L (vJ (a.tdiv b) :: st) M
  | .lxor => len = 1 ∧ ∃ a b st, St = vJ b :: vJ a :: st ∧ ∀ z, in64 z → (z < 0 ↔ ¬ (a < 0 ↔ b < 0)) → K (pc + 1) L (vJ z :: st) M
  | .lcmp => len = 1 ∧ ∃ a b st, St = vJ b :: vJ a :: st ∧ K (pc + 1) L (vI (if b < a then 1 else if a = b then 0 else -1) :: st) M
  | .dup => len = 1 ∧ ∃ v st, St = v :: st ∧ ra_lng (some (some v)) = false ∧ K (pc + 1) L (v :: v :: st) M
  | .dup2 => len = 1 ∧ ∃ v w st, St = v :: w :: st ∧ ra_lng (some (some v)) = false ∧ ra_lng (some (some w)) = false ∧ K (pc + 1) L (v :: w :: v :: w :: st) M
  | .pop => len = 1 ∧ ∃ v st, St = v :: st ∧ ra_lng (some (some v)) = false ∧ K (pc + 1) L st M
  | .ifCond .eq off => len = 3 ∧ ∃ z st tgt, St = vI z :: st ∧ (pc : Int) + off = (tgt : Nat) ∧ (z = 0 → K tgt L st M) ∧ (¬ z = 0 → K (pc + 3) L st M)
  | .ifCond .ne off => len = 3 ∧ ∃ z st tgt, St = vI z :: st ∧ (pc : Int) + off = (tgt : Nat) ∧ (¬ z = 0 → K tgt L st M) ∧ (z = 0 → K (pc + 3) L st M)
  | .ifCond .lt off => len = 3 ∧ ∃ z st tgt, St = vI z :: st ∧ (pc : Int) + off = (tgt : Nat) ∧ (z < 0 → K tgt L st M) ∧ (¬ z < 0 → K (pc + 3) L st M)
  | .ifCond .ge off => len = 3 ∧ ∃ z st tgt, St = vI z :: st ∧ (pc : Int) + off = (tgt : Nat) ∧ (0 ≤ z → K tgt L st M) ∧ (¬ 0 ≤ z → K (pc + 3) L st M)
  | .ifCond .gt off => len = 3 ∧ ∃ z st tgt, St = vI z :: st ∧ (pc : Int) + off = (tgt : Nat) ∧ (0 < z → K tgt L st M) ∧ (¬ 0 < z → K (pc + 3) L st M)
  | .ifCond .le off => len = 3 ∧ ∃ z st tgt, St = vI z :: st ∧ (pc : Int) + off = (tgt : Nat) ∧ (z ≤ 0 → K tgt L st M) ∧ (¬ z ≤ 0 → K (pc + 3) L st M)
  | .if_icmp .eq off => len = 3 ∧ ∃ a b st tgt, St = vI b :: vI a :: st ∧ (pc : Int) + off = (tgt : Nat) ∧ (a = b → K tgt L st M) ∧ (¬ a = b → K (pc + 3) L st M)
  | .if_icmp .ne off => len = 3 ∧ ∃ a b st tgt, St = vI b :: vI a :: st ∧ (pc : Int) + off = (tgt : Nat) ∧ (¬ a = b → K tgt L st M) ∧ (a = b → K (pc + 3) L st M)
  | .if_icmp .lt off => len = 3 ∧ ∃ a b st tgt, St = vI b :: vI a :: st ∧ (pc : Int) + off = (tgt : Nat) ∧ (a < b → K tgt L st M) ∧ (¬ a < b → K (pc + 3) L st M)
  | .if_icmp .ge off => len = 3 ∧ ∃ a b st tgt, St = vI b :: vI a :: st ∧ (pc : Int) + off = (tgt : Nat) ∧ (b ≤ a → K tgt L st M) ∧ (¬ b ≤ a → K (pc + 3) L st M)
  | .if_icmp .gt off => len = 3 ∧ ∃ a b st tgt, St = vI b :: vI a :: st ∧ (pc : Int) + off = (tgt : Nat) ∧ (b < a → K tgt L st M) ∧ (¬ b < a → K (pc + 3) L st M)
  | .if_icmp .le off => len = 3 ∧ ∃ a b st tgt, St = vI b :: vI a :: st ∧ (pc : Int) + off = (tgt : Nat) ∧ (a ≤ b → K tgt L st M) ∧ (¬ a ≤ b → K (pc + 3) L st M)
  | .goto off => len = 3 ∧ ∃ tgt, (pc : Int) + off = (tgt : Nat) ∧ K tgt L St M
  | .tableswitch dflt lo hi offs => ∃ z st, St = vI z :: st ∧ ((z < lo ∨ hi < z) → ∃ tgt, (pc : Int) + dflt = (tgt : Nat) ∧ K tgt L st M) ∧ (¬ (z < lo ∨ hi < z) → ∃ off tgt, offs[(z - lo).toNat]? = some off ∧ (pc : Int) + off = (tgt : Nat) ∧ K tgt L st M)
  | .getfield x => len = 3 ∧ ∃ k0 st ci ks j kd, St = vR k0 :: st ∧ ra_F (mY mi).cls x ci j ∧ SH[k0]? = some (.inr (ci, ks)) ∧ ks[j]? = some kd ∧ K (pc + 3) L (ra_fa kd (M k0 j) :: st) M
  | .putfield x => len = 3 ∧ ∃ z k0 st ci ks j kd, St = vI z :: vR k0 :: st ∧ ra_FP (mY mi).cls x ci j kd ∧ SH[k0]? = some (.inr (ci, ks)) ∧ ks[j]? = some kd ∧ (kd = 0 ∨ (kd = 1 ∧ (z = 0 ∨ z = 1))) ∧ K (pc + 3) L st (up M k0 j z)
  | .getstatic x => len = 3 ∧ ra_G (mY mi).cls x ∧ K (pc + 3) L (vR roP :: St) M
  | .iaload => len = 1 ∧ ∃ z k0 st, St = vI z :: vR k0 :: st ∧ ((∃ n, SH[k0]? = some (.inl n) ∧ 0 ≤ z ∧ z < (n : Nat) ∧ K (pc + 1) L (vI (M k0 z) :: st) M) ∨ (k0 = roP ∧ 0 ≤ z ∧ z < 5 ∧ K (pc + 1) L (vI (ra_fc z) :: st) M))
  | .iastore => len = 1 ∧ ∃ y z k0 st n, St = vI y :: vI z :: vR k0 :: st ∧ SH[k0]? = some (.inl n) ∧ 0 ≤ z ∧ z < (n : Nat) ∧ K (pc + 1) L st (up M k0 z y)
  | .arraylength => len = 1 ∧ ∃ k0 st, St = vR k0 :: st ∧ ((∃ n : Nat, SH[k0]? = some (.inl n) ∧ K (pc + 1) L (vI n :: st) M) ∨ (k0 = roP ∧ K (pc + 1) L (vI 5 :: st) M))
  | .invokevirtual x => len = 3 ∧ ∃ mj as k0 st ci ks T N, St = as.reverse ++ vR k0 :: st ∧ ra_CV (mY mi).cls x mj as.length ∧ SH[k0]? = some (.inr (ci, ks)) ∧ vwCl[ci]? = some ((mY mj).cls, T, N) ∧ st.length ≤ 4 ∧ C mj (vR k0 :: as) M (fun r M' => K (pc + 3) L (r.toList ++ st) M')
  | .invokestatic x => len = 3 ∧ ∃ mj as st, St = as.reverse ++ st ∧ ra_CS (mY mi).cls x mj as.length ∧ st.length ≤ 4 ∧ C mj as M (fun r M' => K (pc + 3) L (r.toList ++ st) M')
  | .ireturn => len = 1 ∧ ∃ z, St = [vI z] ∧ (mR mi = some .int ∨ (mR mi = some .boolean ∧ (z = 0 ∨ z = 1))) ∧ Q (some (vI z)) M
  | .lreturn => len = 1 ∧ ∃ z, St = [vJ z] ∧ mR mi = some .long ∧ Q (some (vJ z)) M
  | .return_ => len = 1 ∧ St = [] ∧ mR mi = none ∧ Q none M
  | _ => False
/-- fewer locals are known -/
def ra_weak : ra_L → ra_L → Prop
  | [], [] => True
  | a :: l, b :: l2 => (b = a ∨ b = none) ∧ ra_weak l l2
  | _, _ => False
def ra_Clo (C : Nat → List ra_V → ra_M → (Option ra_V → ra_M → Prop) → Prop) (mi : Nat) (b : ByteArray) (Q : Option ra_V → ra_M → Prop) (K : Nat → ra_L → List ra_V → ra_M → Prop) : Prop :=
  (∀ (pc : Nat) (L : ra_L) (St : List ra_V) (M : ra_M) (i : Instr) (len : Nat), decode b pc = .ok (i, len) → ra_stp C mi Q K pc L St M i len → K pc L St M) ∧ ∀ (pc : Nat) (L L2 : ra_L) (St : List ra_V) (M : ra_M), ra_weak L L2 → K pc L2 St M → K pc L St M
def ra_ExF (C : Nat → List ra_V → ra_M → (Option ra_V → ra_M → Prop) → Prop) (mi : Nat) (args : List ra_V) (M : ra_M) (Q : Option ra_V → ra_M → Prop) : Prop :=
  (ra_sl args).length ≤ mX mi ∧ ∀ K : Nat → ra_L → List ra_V → ra_M → Prop, ra_Clo C mi (mB mi) Q K → K 0 (ra_ini mi args) [] M
/-- the method mi, called with these values, ends with Q, in at most d frames more -/
def Ex : Nat → Nat → List ra_V → ra_M → (Option ra_V → ra_M → Prop) → Prop
  | 0 => ra_ExF (fun _ _ _ _ => False)
  | d + 1 => ra_ExF (Ex d)
/-! what it stands for -/
def ra_cv (ad : Nat → Nat) : ra_V → Value
  | .inl z => .int (Int32.ofInt z)
  | .inr (.inl z) => .long (Int64.ofInt z)
  | .inr (.inr k) => .ref (ad k)
def ra_okV : ra_V → Prop
  | .inl z => in32 z
  | .inr (.inl z) => in64 z
  | .inr (.inr _) => True
def ra_okL (L : ra_L) : Prop := ∀ (i : Nat) (v : ra_V), L[i]? = some (some v) → ra_okV v
def ra_okS (St : List ra_V) : Prop := ∀ v ∈ St, ra_okV v
def ra_okM (M : ra_M) : Prop := ∀ (k : Nat) (j : Int), in32 (M k j)
def ra_fv (ad : Nat → Nat) (kd : Nat) (z : Int) : Value := ra_cv ad (ra_fa kd z)
def ra_cel (cA : ClassId) (ad : Nat → Nat) (sh : Nat ⊕ (Nat × List Nat)) (f : Int → Int) : va_E := match sh with
  | .inl n => .inl (cA, n, .inl (fun i => Int32.ofInt (f (i : Nat))))
  | .inr q => .inr (q.1, (List.range q.2.length).map (fun j => ra_fv ad (q.2.getD j 0) (f (j : Nat))))
def ra_w (cA : ClassId) (ad : Nat → Nat) (M : ra_M) : va_W := (List.range SH.length).map (fun k => (ad k, ra_cel cA ad (SH.getD k (.inl 0)) (M k)))
theorem ra_w_len (cA : ClassId) (ad : Nat → Nat) (M : ra_M) : (ra_w cA ad M).length = SH.length := by simp [ra_w]
theorem ra_w_get {cA : ClassId} {ad : Nat → Nat} {M : ra_M} {k : Nat} {sh : Nat ⊕ (Nat × List Nat)} (h : SH[k]? = some sh) : (ra_w cA ad M)[k]? = some (ad k, ra_cel cA ad sh (M k)) := by
  have hk : k < SH.length := (List.getElem?_eq_some_iff.mp h).1
  simp [ra_w, List.getElem?_map, List.getElem?_range hk, h]
theorem ra_w_none {cA : ClassId} {ad : Nat → Nat} {M : ra_M} {k : Nat} {q : Nat × va_E} (h : (ra_w cA ad M)[k]? = some q) : k < SH.length ∧ q.1 = ad k := by
  have hk : k < SH.length := by
    have := (List.getElem?_eq_some_iff.mp h).1
    rwa [ra_w_len] at this
  refine ⟨hk, ?_⟩
  simp [ra_w, List.getElem?_map, List.getElem?_range hk] at h
  rw [← h]
theorem ra_w_set {cA : ClassId} {ad : Nat → Nat} {M : ra_M} {k : Nat} {sh : Nat ⊕ (Nat × List Nat)} {j z : Int} (h : SH[k]? = some sh) {e : va_E} (he : e = ra_cel cA ad sh (up M k j z k)) : (ra_w cA ad M).set k (ad k, e) = ra_w cA ad (up M k j z) := by
  have hk : k < SH.length := (List.getElem?_eq_some_iff.mp h).1
  apply List.ext_getElem?
  intro i
  by_cases hi : i = k
  · subst hi
    rw [List.getElem?_set_self (by rw [ra_w_len]; exact hk), ra_w_get h, he]
  · rw [List.getElem?_set_ne (fun q => hi q.symm)]
    by_cases hl : i < SH.length
    · have h2 : SH[i]? = some SH[i] := List.getElem?_eq_getElem hl
      rw [ra_w_get h2, ra_w_get h2]
      have : up M k j z i = M i := by funext x; simp [up, hi]
      rw [this]
    · rw [List.getElem?_eq_none (by rw [ra_w_len]; omega), List.getElem?_eq_none (by rw [ra_w_len]; omega)]
theorem ra_D_any {A : Nat → Prop} {cA : ClassId} {ad : Nat → Nat} {M M' : ra_M} (h : va_D A (ra_w cA ad M)) : va_D A (ra_w cA ad M') := by
  have key : ∀ (k : Nat) (q : Nat × va_E), (ra_w cA ad M')[k]? = some q → ∃ q0, (ra_w cA ad M)[k]? = some q0 ∧ q0.1 = q.1 := by
    intro k q hq
    obtain ⟨h1, h2⟩ := ra_w_none hq
    exact ⟨_, ra_w_get (List.getElem?_eq_getElem h1), h2.symm⟩
  refine ⟨fun i j p q hp hq hpq => ?_, fun k q hq => ?_⟩
  · obtain ⟨p0, a1, a2⟩ := key i p hp
    obtain ⟨q0, b1, b2⟩ := key j q hq
    exact h.1 i j p0 q0 a1 b1 (by rw [a2, b2, hpq])
  · obtain ⟨q0, b1, b2⟩ := key k q hq
    rw [← b2]
    exact h.2 k q0 b1
theorem ra_A_any {cA : ClassId} {ad : Nat → Nat} {M M' : ra_M} {sz sz' : Nat} (hs : sz' ≤ sz) {q : Nat} (h : va_A (ra_w cA ad M) sz q) : va_A (ra_w cA ad M') sz' q := by
  rcases h with ⟨k, e, h⟩ | h
  · obtain ⟨h1, h2⟩ := ra_w_none h
    refine Or.inl ⟨k, ra_cel cA ad (SH[k]) (M' k), ?_⟩
    have h3 : q = ad k := h2
    rw [h3]
    exact ra_w_get (List.getElem?_eq_getElem h1)
  · exact Or.inr (Nat.le_trans hs h)
theorem ra_okM_up {M : ra_M} (h : ra_okM M) (k : Nat) (j : Int) {z : Int} (hz : in32 z) : ra_okM (up M k j z) := by
  intro k' j'
  unfold up
  split
  · exact hz
  · exact h k' j'
/-! numbers -/
theorem ra_ti {z : Int} (h : in32 z) : (Int32.ofInt z).toInt = z := Int32.toInt_ofInt_of_le (by have := h.1; omega) (by have := h.2; omega)
theorem ra_tj {z : Int} (h : in64 z) : (Int64.ofInt z).toInt = z := Int64.toInt_ofInt_of_le (by have := h.1; omega) (by have := h.2; omega)
theorem ra_eq {a b : Int} (ha : in32 a) (hb : in32 b) : Int32.ofInt a = Int32.ofInt b ↔ a = b := by
  rw [← Int32.toInt_inj, ra_ti ha, ra_ti hb]
theorem ra_lt {a b : Int} (ha : in32 a) (hb : in32 b) : Int32.ofInt a < Int32.ofInt b ↔ a < b := by
  rw [Int32.lt_iff_toInt_lt, ra_ti ha, ra_ti hb]
theorem ra_le {a b : Int} (ha : in32 a) (hb : in32 b) : Int32.ofInt a ≤ Int32.ofInt b ↔ a ≤ b := by
  rw [Int32.le_iff_toInt_le, ra_ti ha, ra_ti hb]
theorem ra_in0 : in32 0 := by unfold in32; omega
theorem ra_eq0 {a : Int} (ha : in32 a) : Int32.ofInt a = 0 ↔ a = 0 := ra_eq ha ra_in0
theorem ra_lt0 {a : Int} (ha : in32 a) : Int32.ofInt a < 0 ↔ a < 0 := ra_lt ha ra_in0
theorem ra_le0 {a : Int} (ha : in32 a) : Int32.ofInt a ≤ 0 ↔ a ≤ 0 := ra_le ha ra_in0
theorem ra_0lt {a : Int} (ha : in32 a) : 0 < Int32.ofInt a ↔ 0 < a := ra_lt ra_in0 ha
theorem ra_0le {a : Int} (ha : in32 a) : 0 ≤ Int32.ofInt a ↔ 0 ≤ a := ra_le ra_in0 ha
theorem ra_cl {z : Int} (h : in32 z) (h0 : 0 ≤ z) : (((Int32.ofInt z).toNatClampNeg : Nat) : Int) = z := by
  rw [Int32.toNatClampNeg_ofInt_of_le (by have := h.1; omega) (by have := h.2; omega)]
  omega
theorem ra_vin {z : Int} {n : Nat} (h : in32 z) (h0 : 0 ≤ z) (hn : z < n) : vp_in (Int32.ofInt z) n := by
  rw [vp_in_iff, ra_ti h]
  exact ⟨h0, hn⟩
theorem ra_b8 {n : Int} (h : -128 ≤ n ∧ n ≤ 127) : (Int8.ofInt n).toInt32 = Int32.ofInt n := by
  apply Int32.toInt_inj.mp
  rw [Int8.toInt_toInt32, Int8.toInt_ofInt_of_le (by have := h.1; omega) (by have := h.2; omega), ra_ti ⟨by omega, by omega⟩]
theorem ra_b16 {n : Int} (h : -32768 ≤ n ∧ n ≤ 32767) : (Int16.ofInt n).toInt32 = Int32.ofInt n := by
  apply Int32.toInt_inj.mp
  rw [Int16.toInt_toInt32, Int16.toInt_ofInt_of_le (by have := h.1; omega) (by have := h.2; omega), ra_ti ⟨by omega, by omega⟩]
theorem ra_div {a b : Int} (ha : in32 a) (hb : in32 b) (h : in32 (a.tdiv b)) : Int32.ofInt a / Int32.ofInt b = Int32.ofInt (a.tdiv b) := by
  apply Int32.toInt_inj.mp
  rw [Int32.toInt_div, ra_ti ha, ra_ti hb, ra_ti h]
  exact Int.bmod_eq_of_le (by have := h.1; omega) (by have := h.2; omega)
theorem ra_divJ {a b : Int} (ha : in64 a) (hb : in64 b) (h : in64 (a.tdiv b)) : Int64.ofInt a / Int64.ofInt b = Int64.ofInt (a.tdiv b) := by
  apply Int64.toInt_inj.mp
  rw [Int64.toInt_div, ra_tj ha, ra_tj hb, ra_tj h]
  exact Int.bmod_eq_of_le (by have := h.1; omega) (by have := h.2; omega)
theorem ra_rem {a b : Int} (ha : in32 a) (hb : in32 b) (h : in32 (a.tmod b)) : Int32.ofInt a - Int32.ofInt a / Int32.ofInt b * Int32.ofInt b = Int32.ofInt (a.tmod b) := by
  apply Int32.toInt_inj.mp
  rw [ra_ti h, Int32.toInt_sub, Int32.toInt_mul, Int32.toInt_div, ra_ti ha, ra_ti hb]
  have e : a.tmod b = a - a.tdiv b * b := by rw [Int.tmod_def, Int.mul_comm]
  have e2 : (a - (((a.tdiv b).bmod (2 ^ 32)) * b).bmod (2 ^ 32)).bmod (2 ^ 32) = (a - a.tdiv b * b).bmod (2 ^ 32) := by
    simp [Int.sub_bmod_bmod, Int.bmod_mul_bmod]
  rw [e2, ← e]
  exact Int.bmod_eq_of_le (by have := h.1; omega) (by have := h.2; omega)
theorem ra_of_nat (n : Nat) : Int32.ofInt (n : Int) = nI n := Int32.ofInt_eq_ofNat
theorem ra_cmpJ {a b : Int} (ha : in64 a) (hb : in64 b) : lg_cmp (Int64.ofInt a) (Int64.ofInt b) = Int32.ofInt (if b < a then 1 else if a = b then 0 else -1) := by
  unfold lg_cmp
  have h1 : (Int64.ofInt a > Int64.ofInt b) ↔ b < a := by
    rw [gt_iff_lt, Int64.lt_iff_toInt_lt, ra_tj ha, ra_tj hb]
  have h2 : (Int64.ofInt a = Int64.ofInt b) ↔ a = b := by rw [← Int64.toInt_inj, ra_tj ha, ra_tj hb]
  by_cases c1 : b < a
  · rw [if_pos (h1.mpr c1), if_pos c1]; rfl
  · rw [if_neg (fun q => c1 (h1.mp q)), if_neg c1]
    by_cases c2 : a = b
    · rw [if_pos (h2.mpr c2), if_pos c2]; rfl
    · rw [if_neg (fun q => c2 (h2.mp q)), if_neg c2]; rfl
theorem ra_xor {a b : Int} (ha : in64 a) (hb : in64 b) : ∃ z, in64 z ∧ (z < 0 ↔ ¬ (a < 0 ↔ b < 0)) ∧ Int64.ofInt a ^^^ Int64.ofInt b = Int64.ofInt z := by
  refine ⟨(Int64.ofInt a ^^^ Int64.ofInt b).toInt, ⟨?_, ?_⟩, ?_, by rw [Int64.ofInt_toInt]⟩
  · have := Int64.le_toInt (Int64.ofInt a ^^^ Int64.ofInt b); omega
  · have := Int64.toInt_lt (Int64.ofInt a ^^^ Int64.ofInt b); omega
  · have h1 : ∀ x : Int64, x.toInt < 0 ↔ x.toBitVec.msb = true := fun x => by
      rw [← Int64.toInt_toBitVec, BitVec.msb_eq_toInt]; simp
    rw [h1, Int64.toBitVec_xor, BitVec.msb_xor]
    have ea : (Int64.ofInt a).toBitVec.msb = true ↔ a < 0 := by rw [← h1, ra_tj ha]
    have eb : (Int64.ofInt b).toBitVec.msb = true ↔ b < 0 := by rw [← h1, ra_tj hb]
    rw [← ea, ← eb]
    cases (Int64.ofInt a).toBitVec.msb <;> cases (Int64.ofInt b).toBitVec.msb <;> simp
end
section
/-! THE ABSTRACT MACHINE IS SOUND: what it says of a method, the method's contract says of the machine. -/
def ra_has (ad : Nat → Nat) (ls : Array Slot) (nL : Nat) (L : ra_L) : Prop := ls.size = nL ∧ lv_wf ls ∧ L.length = nL ∧ ∀ (i : Nat) (v : ra_V), L[i]? = some (some v) → ls[i]? = some (.val (ra_cv ad v))
def ra_en (ad : Nat → Nat) (L : ra_L) : List (Nat × Value) := (List.range L.length).filterMap fun i => match L[i]? with
  | some (some v) => some (i, ra_cv ad v)
  | _ => none
theorem ra_en_of {ad : Nat → Nat} {L : ra_L} {i : Nat} {w : Value} (h : (i, w) ∈ ra_en ad L) : ∃ v, L[i]? = some (some v) ∧ w = ra_cv ad v := by
  obtain ⟨k, hk, he⟩ := List.mem_filterMap.mp h
  rcases hv : L[k]? with _ | _ | v
  · rw [hv] at he; cases he
  · rw [hv] at he; cases he
  · rw [hv] at he
    cases he
    exact ⟨v, hv, rfl⟩
theorem ra_en_in {ad : Nat → Nat} {L : ra_L} {i : Nat} {v : ra_V} (h : L[i]? = some (some v)) : (i, ra_cv ad v) ∈ ra_en ad L := by
  refine List.mem_filterMap.mpr ⟨i, List.mem_range.mpr (List.getElem?_eq_some_iff.mp h).1, ?_⟩
  rw [h]
theorem ra_has.en {ad : Nat → Nat} {ls : Array Slot} {nL : Nat} {L : ra_L} (h : ra_has ad ls nL L) : lv_has ls nL (ra_en ad L) := by
  refine ⟨h.1, h.2.1, fun q hq => ?_⟩
  obtain ⟨i, w⟩ := q
  obtain ⟨v, h1, h2⟩ := ra_en_of hq
  rw [h2]
  exact h.2.2.2 i v h1
theorem ra_cat (ad : Nat → Nat) (v : ra_V) : (ra_cv ad v).category = if ra_lng (some (some v)) then 2 else 1 := by
  rcases v with z | z | k <;> rfl
theorem ra_st_get {L : ra_L} {i j : Nat} {v u : ra_V} (h : (ra_st L i v)[j]? = some (some u)) : (j = i ∧ u = v) ∨ (j ≠ i ∧ L[j]? = some (some u) ∧ ¬ (j + 1 = i ∧ ra_lng (some (some u)) = true)) := by
  by_cases hj : j = i
  · subst hj
    left
    refine ⟨rfl, ?_⟩
    unfold ra_st at h
    rw [List.getElem?_set] at h
    simp at h
    obtain ⟨-, h⟩ := h
    exact h.symm
  · right
    refine ⟨hj, ?_⟩
    unfold ra_st at h
    rw [List.getElem?_set_ne (fun q => hj q.symm)] at h
    cases i with
    | zero => exact ⟨h, fun q => by omega⟩
    | succ i =>
      simp only at h
      split at h
      next hl =>
        by_cases hji : i = j
        · subst hji
          rw [List.getElem?_set] at h
          simp at h
        · rw [List.getElem?_set_ne hji] at h
          exact ⟨h, fun q => by omega⟩
      next hl =>
        refine ⟨h, fun q => ?_⟩
        have : j = i := by omega
        subst this
        rw [h] at hl
        exact hl q.2
theorem ra_st_len (L : ra_L) (i : Nat) (v : ra_V) : (ra_st L i v).length = L.length := by
  unfold ra_st
  rw [List.length_set]
  cases i with
  | zero => rfl
  | succ i => simp only; split <;> simp
theorem ra_okL_st {L : ra_L} {i : Nat} {v : ra_V} (h : ra_okL L) (hv : ra_okV v) : ra_okL (ra_st L i v) := by
  intro j u hj
  rcases ra_st_get hj with ⟨-, rfl⟩ | ⟨-, h1, -⟩
  · exact hv
  · exact h j u h1
theorem ra_st2_get {L : ra_L} {i j : Nat} {v u : ra_V} (h : (ra_st2 L i v)[j]? = some (some u)) : (j = i ∧ u = v) ∨ (j ≠ i ∧ j ≠ i + 1 ∧ L[j]? = some (some u) ∧ ¬ (j + 1 = i ∧ ra_lng (some (some u)) = true)) := by
  unfold ra_st2 at h
  by_cases hj : j = i + 1
  · subst hj
    rw [List.getElem?_set] at h
    simp at h
  · rw [List.getElem?_set_ne (fun q => hj q.symm)] at h
    rcases ra_st_get h with h1 | ⟨h1, h2, h3⟩
    · exact Or.inl h1
    · exact Or.inr ⟨h1, hj, h2, h3⟩
theorem ra_okL_st2 {L : ra_L} {i : Nat} {v : ra_V} (h : ra_okL L) (hv : ra_okV v) : ra_okL (ra_st2 L i v) := by
  intro j u hj
  rcases ra_st2_get hj with ⟨-, rfl⟩ | ⟨-, -, h1, -⟩
  · exact hv
  · exact h j u h1
theorem ra_has.st {ad : Nat → Nat} {ls : Array Slot} {nL : Nat} {L : ra_L} {i : Nat} {v : ra_V} (hn : L.length = nL) (h : lv_has ls nL ((i, ra_cv ad v) :: (ra_en ad L).filter (fun q => !(q.1 == i) && !(q.1 + 1 == i && q.2.category == 2)))) : ra_has ad ls nL (ra_st L i v) := by
  refine ⟨h.1, h.2.1, by rw [ra_st_len]; exact hn, fun j u hj => ?_⟩
  rcases ra_st_get hj with ⟨rfl, rfl⟩ | ⟨h1, h2, h3⟩
  · exact h.2.2 (j, ra_cv ad u) List.mem_cons_self
  · refine h.2.2 (j, ra_cv ad u) (List.mem_cons_of_mem _ (List.mem_filter.mpr ⟨ra_en_in h2, ?_⟩))
    have h4 : (j == i) = false := by simpa using h1
    by_cases h5 : j + 1 = i
    · have h6 : ra_lng (some (some u)) = false := by
        cases hl : ra_lng (some (some u))
        · rfl
        · exact absurd ⟨h5, hl⟩ h3
      have h7 : (ra_cv ad u).category = 1 := by rw [ra_cat, h6]; rfl
      simp [h4, h7]
    · have h6 : (j + 1 == i) = false := by simpa using h5
      simp [h4, h6]
theorem ra_has.st2 {ad : Nat → Nat} {ls : Array Slot} {nL : Nat} {L : ra_L} {i : Nat} {v : ra_V} (hn : L.length = nL) (h : lv_has ls nL ((i, ra_cv ad v) :: (ra_en ad L).filter (fun q => !(q.1 == i) && (!(q.1 == i + 1) && !(q.1 + 1 == i && q.2.category == 2))))) : ra_has ad ls nL (ra_st2 L i v) := by
  refine ⟨h.1, h.2.1, by unfold ra_st2; rw [List.length_set, ra_st_len]; exact hn, fun j u hj => ?_⟩
  rcases ra_st2_get hj with ⟨rfl, rfl⟩ | ⟨h1, h1', h2, h3⟩
  · exact h.2.2 (j, ra_cv ad u) List.mem_cons_self
  · refine h.2.2 (j, ra_cv ad u) (List.mem_cons_of_mem _ (List.mem_filter.mpr ⟨ra_en_in h2, ?_⟩))
    have h4 : (j == i) = false := by simpa using h1
    have h4' : (j == i + 1) = false := by simpa using h1'
    by_cases h5 : j + 1 = i
    · have h6 : ra_lng (some (some u)) = false := by
        cases hl : ra_lng (some (some u))
        · rfl
        · exact absurd ⟨h5, hl⟩ h3
      have h7 : (ra_cv ad u).category = 1 := by rw [ra_cat, h6]; rfl
      simp [h4, h4', h7]
    · have h6 : (j + 1 == i) = false := by simpa using h5
      simp [h4, h4', h6]
/-! the locals at the entry -/
theorem ra_sl_in (ad : Nat → Nat) : ∀ (as : List ra_V) (o i : Nat) (v : ra_V), (ra_sl as)[i]? = some (some v) → (o + i, ra_cv ad v) ∈ lv_args o (as.map (ra_cv ad)) := by
  intro as
  induction as with
  | nil => intro o i v h; simp [ra_sl] at h
  | cons a as ih =>
    intro o i v h
    have hc := ra_cat ad a
    by_cases hl : ra_lng (some (some a)) = true
    · rw [hl] at hc
      have e : ra_sl (a :: as) = some a :: none :: ra_sl as := by simp [ra_sl, hl]
      rw [e] at h
      show _ ∈ (o, ra_cv ad a) :: lv_args (if (ra_cv ad a).category = 2 then o + 2 else o + 1) (as.map (ra_cv ad))
      rw [hc]
      match i, h with
      | 0, h => simp at h; subst h; exact List.mem_cons_self
      | 1, h => simp at h
      | i + 2, h =>
        simp only [List.getElem?_cons_succ] at h
        have := ih (o + 2) i v h
        refine List.mem_cons_of_mem _ ?_
        rw [show o + (i + 2) = o + 2 + i by omega]
        simpa using this
    · have hl' : ra_lng (some (some a)) = false := by simpa using hl
      rw [hl'] at hc
      have e : ra_sl (a :: as) = some a :: ra_sl as := by simp [ra_sl, hl']
      rw [e] at h
      show _ ∈ (o, ra_cv ad a) :: lv_args (if (ra_cv ad a).category = 2 then o + 2 else o + 1) (as.map (ra_cv ad))
      rw [hc]
      match i, h with
      | 0, h => simp at h; subst h; exact List.mem_cons_self
      | i + 1, h =>
        simp only [List.getElem?_cons_succ] at h
        have := ih (o + 1) i v h
        refine List.mem_cons_of_mem _ ?_
        rw [show o + (i + 1) = o + 1 + i by omega]
        simpa using this
theorem ra_sl_len (ad : Nat → Nat) : ∀ as : List ra_V, (lg_sl (as.map (ra_cv ad))).length = (ra_sl as).length := by
  intro as
  induction as with
  | nil => rfl
  | cons a as ih =>
    have hc := ra_cat ad a
    have e1 : lg_sl ((a :: as).map (ra_cv ad)) = (if (ra_cv ad a).category = 2 then [.val (ra_cv ad a), .second] else [.val (ra_cv ad a)]) ++ lg_sl (as.map (ra_cv ad)) := rfl
    have e2 : ra_sl (a :: as) = (if ra_lng (some (some a)) then [some a, none] else [some a]) ++ ra_sl as := rfl
    rw [e1, e2, List.length_append, List.length_append, ih, hc]
    by_cases hl : ra_lng (some (some a)) = true
    · simp [hl]
    · simp [hl]
theorem ra_okL_ini {mi : Nat} {as : List ra_V} (h : ∀ v ∈ as, ra_okV v) : ra_okL (ra_ini mi as) := by
  intro i v hi
  unfold ra_ini at hi
  have hm : some v ∈ ra_sl as ++ List.replicate (mX mi - (ra_sl as).length) none := List.mem_of_getElem? hi
  rcases List.mem_append.mp hm with h1 | h1
  · obtain ⟨a, ha, hv⟩ := List.mem_flatMap.mp h1
    split at hv
    · rcases List.mem_cons.mp hv with h2 | h2
      · cases h2; exact h _ ha
      · simp at h2
    · simp at hv; subst hv; exact h _ ha
  · have := List.eq_of_mem_replicate h1
    cases this
theorem ra_has_ini {ad : Nat → Nat} {mi : Nat} {as : List ra_V} (hl : (ra_sl as).length ≤ mX mi) : ra_has ad ((lg_sl (as.map (ra_cv ad)) ++ List.replicate (mX mi - (lg_sl (as.map (ra_cv ad))).length) Slot.unset).toArray) (mX mi) (ra_ini mi as) := by
  have h := lv_entry (as.map (ra_cv ad)) (n := mX mi) (by rw [ra_sl_len]; exact hl)
  refine ⟨h.1, h.2.1, by simp [ra_ini]; omega, fun i v hi => ?_⟩
  have hi2 : (ra_sl as)[i]? = some (some v) := by
    unfold ra_ini at hi
    by_cases hlt : i < (ra_sl as).length
    · rwa [List.getElem?_append_left hlt] at hi
    · rw [List.getElem?_append_right (by omega)] at hi
      have hm := List.mem_of_getElem? hi
      have := List.eq_of_mem_replicate hm
      cases this
  have := ra_sl_in ad as 0 i v hi2
  rw [Nat.zero_add] at this
  exact h.2.2 _ this
/-! the contract of a method -/
def mW (mi : Nat) : List Cond := Cond.code (mY mi) (mB mi) (mX mi) (mR mi) :: lwg
def ra_rm (d : Nat) : Room := { frames := d, cells := 0, slots := 0, locals := 34 * d }
def ra_fcv (j : Nat) : Value := .int (Int32.ofInt (ra_fc (j : Nat)))
/-- what stands still: the array of the first costs, and the link to it -/
def ra_sta (ad : Nat → Nat) (A : Nat → Prop) (U : State) (H : Heap) : Prop := va_Z "FollowScore" "FIRST_COSTS" "[I" (.ref (ad roP)) A U H ∧ va_T .int (ad roP) 5 ra_fcv A U H ∧ va_Nw ra_gw U
def ra_B (D : va_G) (cA : ClassId) (ad : Nat → Nat) (M : ra_M) (sz : Nat) (U : State) : Prop := U.heap.size = sz ∧ va_P D vwCl (ra_w cA ad M) U.heap ∧ va_K D vwCl [(cA, .int)] U ∧ va_D (fun _ => True) (ra_w cA ad M) ∧ ra_sta ad (va_A (ra_w cA ad M) sz) U U.heap
def ra_Pc (D : va_G) (cA : ClassId) (ad : Nat → Nat) (as : List ra_V) (M : ra_M) (sz : Nat) : Array Value → State → Prop := va_Pc (as.map (ra_cv ad)) (ra_B D cA ad M sz)
def ra_Qc (D : va_G) (cA : ClassId) (ad : Nat → Nat) (Q : Option ra_V → ra_M → Prop) (A : Nat → Prop) : Array Value → State → Outcome → State → Prop := fun _ st oc t =>
  (∃ (r : Option ra_V) (M : ra_M), oc = .returned (r.map (ra_cv ad)) ∧ Q r M ∧ ra_okM M ∧ (∀ v, r = some v → ra_okV v) ∧ va_P D vwCl (ra_w cA ad M) t.heap) ∧ va_F A st t
theorem ra_blind {D : va_G} {cA : ClassId} {ad : Nat → Nat} {as : List ra_V} {M : ra_M} {sz : Nat} : FrameBlind (ra_Pc D cA ad as M sz) := by
  intro a U g mk q
  obtain ⟨q0, q1, qP, qK, qD, qZ, qT, qN⟩ := q
  exact ⟨q0, q1, qP, va_K.moved (u := U) (U := U.calling g mk a) (Vm.Alike.refl U.vm) qK, qD, va_Z.moved (u := U) (U := U.calling g mk a) (Vm.Alike.refl U.vm) qZ, va_T.moved (u := U) (U := U.calling g mk a) (Vm.Alike.refl U.vm) qT, va_Nw.same (u := U) (U := U.calling g mk a) rfl rfl qN⟩
theorem ra_good {mi : Nat} (h : ra_ok mi) : GoodIn lwg (mW mi) := by
  have key : ∀ w ∈ lwg, w ∈ lwg ∧ ((w.onTables && w.keeps) = true ∨ ∃ ty, w = .arrayClass ty) := fun w hw => ⟨hw, good_of_word (List.mem_filter.mp hw).2⟩
  intro w hw
  rcases List.mem_cons.mp hw with h1 | h1
  · rw [h1]
    exact key _ h.2.1
  · exact key w h1
/-- what a method's walk stands on -/
def ra_X (p : Program) (s : State) (m : MethodId) (args : Array Value) (meth : Method) (c : Code) (D : va_G) (cA : ClassId) (ad : Nat → Nat) (A : Nat → Prop) (mi : Nat) : Prop :=
  p.tables.exec = Jvm.exec ∧ c.code = mB mi ∧ c.maxLocals = mX mi ∧ meth.sig.returnType = mR mi ∧ meth.locks = false ∧ s.vm.findClass (mY mi).cls = some m.cls ∧ (∀ w ∈ lwg, w.before args s = true) ∧ va_K D vwCl [(cA, .int)] s ∧ ra_sta ad A s s.heap
/-- the machine at an abstract state -/
def ra_KW (p : Program) (l : Launch) (e : Env) (R : Room) (s : State) (m : MethodId) (args : Array Value) (below : List Frame) (meth : Method) (c : Code) (QF : State → Prop) (D : va_G) (cA : ClassId) (ad : Nat → Nat) (A : Nat → Prop) (nL : Nat) : Nat → ra_L → List ra_V → ra_M → Prop := fun pc L St M =>
  ∀ (H : Heap) (locs : List Loc) (ls : Array Slot), ra_okL L → ra_okS St → ra_okM M → ra_has ad ls nL L → va_P D vwCl (ra_w cA ad M) H → va_D A (ra_w cA ad M) → va_S A s.heap H locs →
    W p l e R s m args below meth c H locs 0 0 QF (F0 m pc ls (St.map (ra_cv ad)))
theorem ra_okS_c {v : ra_V} {st : List ra_V} : ra_okS (v :: st) ↔ ra_okV v ∧ ra_okS st := List.forall_mem_cons
theorem ra_clsfacts : ∀ (ci : Nat) (C : String) (T : u_T) (N : Nat), vwCl[ci]? = some (C, T, N) → (∀ w ∈ u_ws C T N, w ∈ lwg) ∧ ∃ ty0 : Nat → FieldType, (∀ k, k < N → parseFieldDescriptor (T k).2.2.1 = some (ty0 k)) ∧ (∀ a, a < N → ∀ b, b < N → a ≠ b → (T a).2.1 ≠ (T b).2.1) := by
  intro ci C T N h
  match ci, h with
  | 0, h => cases h; exact ⟨by decide +kernel, tyX0, tyX0_ok, nmX0⟩
  | 1, h => cases h; exact ⟨by decide +kernel, tyX1, tyX1_ok, nmX1⟩
  | 2, h => cases h; exact ⟨by decide +kernel, tyX2, tyX2_ok, nmX2⟩
  | 3, h => cases h; exact ⟨by decide +kernel, tyX3, tyX3_ok, nmX3⟩
  | 4, h => cases h; exact ⟨by decide +kernel, tyX4, tyX4_ok, nmX4⟩
  | 5, h => cases h; exact ⟨by decide +kernel, tyX5, tyX5_ok, nmX5⟩
  | 6, h => cases h; exact ⟨by decide +kernel, tyX6, tyX6_ok, nmX6⟩
  | 7, h => cases h; exact ⟨by decide +kernel, tyX7, tyX7_ok, nmX7⟩
  | 8, h => cases h; exact ⟨by decide +kernel, tyX8, tyX8_ok, nmX8⟩
  | k + 9, h => simp [vwCl] at h
end
section
theorem ra_nand (a b : Nat) : Int32.ofInt (a : Int) &&& Int32.ofInt (b : Int) = Int32.ofInt ((a &&& b : Nat) : Int) := by
  rw [Int32.ofInt_eq_ofNat, Int32.ofInt_eq_ofNat, Int32.ofInt_eq_ofNat]
  apply Int32.toBitVec_inj.1
  show BitVec.ofNat 32 a &&& BitVec.ofNat 32 b = BitVec.ofNat 32 (a &&& b)
  apply BitVec.eq_of_getLsbD_eq
  intro i hi
  simp [BitVec.getLsbD_ofNat, hi]
theorem ra_nor (a b : Nat) : Int32.ofInt (a : Int) ||| Int32.ofInt (b : Int) = Int32.ofInt ((a ||| b : Nat) : Int) := by
  rw [Int32.ofInt_eq_ofNat, Int32.ofInt_eq_ofNat, Int32.ofInt_eq_ofNat]
  apply Int32.toBitVec_inj.1
  show BitVec.ofNat 32 a ||| BitVec.ofNat 32 b = BitVec.ofNat 32 (a ||| b)
  apply BitVec.eq_of_getLsbD_eq
  intro i hi
  simp [BitVec.getLsbD_ofNat, hi]
theorem ra_shc : ∀ n : Nat, n < 32 → ((Int32.ofNat n &&& 31).toBitVec.smod 32).toNat = n := by decide
theorem ra_nshl (a b : Nat) (hb : b < 31) (h : a * 2 ^ b < 2147483648) : Int32.ofInt (a : Int) <<< (Int32.ofInt (b : Int) &&& 31) = Int32.ofInt ((a * 2 ^ b : Nat) : Int) := by
  rw [Int32.ofInt_eq_ofNat, Int32.ofInt_eq_ofNat, Int32.ofInt_eq_ofNat]
  exact pk_shlN _ b (ra_shc b (by omega)) (by omega)
theorem ra_nshr (a b : Nat) (hb : b < 31) (h : a < 2147483648) : Int32.ofInt (a : Int) >>> (Int32.ofInt (b : Int) &&& 31) = Int32.ofInt ((a / 2 ^ b : Nat) : Int) := by
  rw [Int32.ofInt_eq_ofNat, Int32.ofInt_eq_ofNat, Int32.ofInt_eq_ofNat]
  exact pk_shrN (by omega) _ b (ra_shc b (by omega))
theorem ra_in_and {a b : Nat} (ha : in32 (a : Int)) : in32 ((a &&& b : Nat) : Int) := by
  have := Nat.and_le_left (n := a) (m := b)
  unfold in32 at *
  omega
theorem ra_in_or {a b : Nat} (ha : in32 (a : Int)) (hb : in32 (b : Int)) : in32 ((a ||| b : Nat) : Int) := by
  unfold in32 at *
  have := Nat.or_lt_two_pow (x := a) (y := b) (n := 31) (by omega) (by omega)
  omega
theorem ra_in_fc (z : Int) : in32 (ra_fc z) := by
  unfold ra_fc in32
  repeat' split
  all_goals omega
theorem ra_fs_get {ad : Nat → Nat} {ks : List Nat} {f : Int → Int} {j kd : Nat} (h : ks[j]? = some kd) : ((List.range ks.length).map (fun j => ra_fv ad (ks.getD j 0) (f (j : Nat))))[j]? = some (ra_fv ad kd (f (j : Nat))) := by
  have hj : j < ks.length := (List.getElem?_eq_some_iff.mp h).1
  simp [List.getElem?_map, List.getElem?_range hj, h]
theorem ra_fs_set {ad : Nat → Nat} {ks : List Nat} {M : ra_M} {k0 : Nat} {j kd : Nat} {z : Int} (h : ks[j]? = some kd) (hk : kd ≤ 1) : ((List.range ks.length).map (fun j => ra_fv ad (ks.getD j 0) (M k0 (j : Nat)))).set j (.int (Int32.ofInt z)) = (List.range ks.length).map (fun i => ra_fv ad (ks.getD i 0) (up M k0 j z k0 (i : Nat))) := by
  have hj : j < ks.length := (List.getElem?_eq_some_iff.mp h).1
  apply List.ext_getElem?
  intro i
  by_cases hi : i = j
  · subst hi
    rw [List.getElem?_set_self (by simpa using hj)]
    simp [List.getElem?_map, List.getElem?_range hj, h, up, ra_fv, ra_fa, hk, ra_cv]
  · rw [List.getElem?_set_ne (fun q => hi q.symm)]
    by_cases hl : i < ks.length
    · have hne : ¬ ((i : Int) = (j : Int)) := by omega
      simp [List.getElem?_map, List.getElem?_range hl, up, hne]
    · rw [List.getElem?_eq_none (by simpa using hl), List.getElem?_eq_none (by simpa using hl)]
theorem ra_ok_fa {M : ra_M} (h : ra_okM M) (kd k : Nat) (j : Int) : ra_okV (ra_fa kd (M k j)) := by
  unfold ra_fa
  split
  · exact h k j
  · trivial
theorem ra_arr_set {cA : ClassId} {ad : Nat → Nat} {M : ra_M} {k n : Nat} {y z : Int} (hz : in32 z) (h0 : 0 ≤ z) : (Sum.inl (cA, n, .inl (upd (fun i : Nat => Int32.ofInt (M k (i : Nat))) (Int32.ofInt z).toNatClampNeg (Int32.ofInt y))) : va_E) = ra_cel cA ad (.inl n) (up M k z y k) := by
  unfold ra_cel
  simp only
  congr 4
  funext i
  have hc := ra_cl hz h0
  by_cases hi : i = (Int32.ofInt z).toNatClampNeg
  · subst hi
    rw [hc]
    simp [upd, up]
  · have hne : ¬ ((i : Int) = z) := by omega
    simp [upd, up, hi, hne]
theorem ra_weak_get : ∀ {L L2 : ra_L}, ra_weak L L2 → L.length = L2.length ∧ ∀ (i : Nat) (v : ra_V), L2[i]? = some (some v) → L[i]? = some (some v) := by
  intro L
  induction L with
  | nil =>
    intro L2 h
    cases L2 with
    | nil => exact ⟨rfl, fun i v h => h⟩
    | cons b l2 => exact h.elim
  | cons a l ih =>
    intro L2 h
    cases L2 with
    | nil => exact h.elim
    | cons b l2 =>
      obtain ⟨h1, h2⟩ := h
      obtain ⟨g1, g2⟩ := ih h2
      refine ⟨by simp [g1], fun i v hv => ?_⟩
      cases i with
      | zero =>
        simp at hv
        rcases h1 with h1 | h1
        · simp [← h1, hv]
        · rw [h1] at hv; cases hv
      | succ i =>
        simp only [List.getElem?_cons_succ] at hv ⊢
        exact g2 i v hv
theorem ra_weak_okL {L L2 : ra_L} (h : ra_weak L L2) (o : ra_okL L) : ra_okL L2 := fun i v hv => o i v ((ra_weak_get h).2 i v hv)
theorem ra_weak_has {ad : Nat → Nat} {ls : Array Slot} {nL : Nat} {L L2 : ra_L} (h : ra_weak L L2) (o : ra_has ad ls nL L) : ra_has ad ls nL L2 := ⟨o.1, o.2.1, by rw [← (ra_weak_get h).1]; exact o.2.2.1, fun i v hv => o.2.2.2 i v ((ra_weak_get h).2 i v hv)⟩
section RA
variable {p : Program} {l : Launch} {e : Env} {R : Room} {s : State} {m : MethodId} {args : Array Value} {below : List Frame} {meth : Method} {c : Code} {QF : State → Prop} {D : va_G} {cA : ClassId} {ad : Nat → Nat} {A : Nat → Prop}
/-- behind a call -/
theorem ra_call {H : Heap} {locs : List Loc} {pc : Nat} {ls : Array Slot} {rest st0 : List Value} {a : Array Value} {A1 : Nat → Prop} {Q : Option ra_V → ra_M → Prop}
    (hr : va_Run p l e R s m args below meth c H locs 0 0 0 0 (F0 m pc ls st0) rest (ra_Qc D cA ad Q A1 a) A1) (hS : va_S A s.heap H locs) (hA : ∀ q, A1 q → A q)
    (kk : ∀ (r : Option ra_V) (M : ra_M) (H1 : Heap) (locs1 : List Loc), Q r M → ra_okM M → (∀ v, r = some v → ra_okV v) → va_P D vwCl (ra_w cA ad M) H1 → va_S A s.heap H1 locs1 → W p l e R s m args below meth c H1 locs1 0 0 QF (F0 m (pc + 3) ls ((r.map (ra_cv ad)).toList ++ rest))) :
    W p l e R s m args below meth c H locs 0 0 QF (F0 m pc ls st0) := by
  intro T hT X
  obtain ⟨v, st₀, t, T', L, h0, X', hL, e1, e2, ⟨⟨r, M, hv, hq, hM, hok, hp⟩, hz, hk⟩, st⟩ := hr T hT X
  have hv' : v = r.map (ra_cv ad) := by cases hv; rfl
  subst hv'
  rw [h0] at hz hk
  obtain ⟨t2, a1, b1⟩ := kk r M T'.heap (locs ++ L) hq hM hok (by rw [e1]; exact hp)
    ⟨Nat.le_trans hS.1 (by rw [e1]; exact hz), fun q h1 h2 => by rw [e1, hk q (Nat.lt_of_lt_of_le h1 hS.1) (fun z => h2 (hA q z))]; exact hS.2.1 q h1 h2, fun q hq => by
      rcases List.mem_append.mp hq with h | h
      · exact hS.2.2 q h
      · exact hA _ (hL q h)⟩ T' rfl X'
  exact ⟨t2, st t2 a1, b1⟩
theorem ra_pre {H : Heap} {locs : List Loc} {as : List ra_V} {M : ra_M} (hK : va_K D vwCl [(cA, .int)] s) (hsta : ra_sta ad A s s.heap) (hAe : ∀ (M : ra_M) (sz q : Nat), s.heap.size ≤ sz → va_A (ra_w cA ad M) sz q → A q) (hP : va_P D vwCl (ra_w cA ad M) H) (hD : va_D A (ra_w cA ad M)) (hS : va_S A s.heap H locs) :
    ∀ U : State, U.heap = H → s.WarmedH U.vm → ra_Pc D cA ad as M H.size (as.map (ra_cv ad)).toArray U := by
  intro U hU hW
  obtain ⟨hZ, hT, hN⟩ := hsta
  have hsub : ∀ q, va_A (ra_w cA ad M) H.size q → A q := fun q h => hAe M H.size q hS.1 h
  refine ⟨rfl, by rw [hU], by rw [hU]; exact hP, va_K.moved hW.alike hK, hD.weaken (fun _ _ _ _ => trivial), ?_, ?_, va_Nw.warmF hW hN⟩
  · rw [hU]
    exact ((hZ.kept hS.2.1).moved hW.alike).narrow hsub
  · rw [hU]
    exact ((hT.kept hS.2.1).moved hW.alike).narrow hsub
theorem ra_catsum (ad : Nat → Nat) : ∀ st : List ra_V, ((st.map (ra_cv ad)).map fun v => v.category).sum ≤ 2 * st.length := by
  intro st
  induction st with
  | nil => simp
  | cons v st ih =>
    have := ra_cat ad v
    have h2 : (ra_cv ad v).category ≤ 2 := by rw [this]; split <;> omega
    simp only [List.map_cons, List.sum_cons, List.length_cons]
    omega
set_option maxHeartbeats 4000000 in
set_option maxRecDepth 100000 in
theorem ra_step {C : Nat → List ra_V → ra_M → (Option ra_V → ra_M → Prop) → Prop} {mi d : Nat} {Q : Option ra_V → ra_M → Prop} {Qc : Array Value → State → Outcome → State → Prop} (X : ra_X p s m args meth c D cA ad A mi)
    (hR : d + 1 ≤ R.frames ∧ 34 * d + 34 ≤ R.locals) (hAe : ∀ (M : ra_M) (sz q : Nat), s.heap.size ≤ sz → va_A (ra_w cA ad M) sz q → A q)
    (hcall : ∀ (mj : Nat) (as : List ra_V) (M : ra_M) (Q' : Option ra_V → ra_M → Prop), C mj as M Q' → ra_ok mj → (∀ v ∈ as, ra_okV v) → ra_okM M → ∀ sz : Nat, Met l (mY mj) (mW mj) (ra_rm d) (ra_Pc D cA ad as M sz) (ra_Qc D cA ad Q' (va_A (ra_w cA ad M) sz)) 0 0 (va_A (ra_w cA ad M) sz))
    (hret : ∀ (r : Option ra_V) (M : ra_M) (H : Heap) (locs : List Loc), Q r M → ra_okM M → (∀ v, r = some v → ra_okV v) → va_P D vwCl (ra_w cA ad M) H → va_S A s.heap H locs → ∀ t : State, t.heap = H → s.WarmedH t.vm → Qc args s (.returned (r.map (ra_cv ad))) t) :
    ra_Clo C mi (mB mi) Q (ra_KW p l e R s m args below meth c (MQ below Qc args s 0 0 A) D cA ad A (mX mi)) := by
  obtain ⟨hx, hb, hml, hr, hlocks, hown, hts, hK, hsta⟩ := X
  refine ⟨?_, fun pc L L2 St M hw hk H locs ls oL oS oM hl hP hD hS => hk H locs ls (ra_weak_okL hw oL) oS oM (ra_weak_has hw hl) hP hD hS⟩
  intro pc L St M i len hd h H locs ls oL oS oM hl hP hD hS
  unfold ra_stp at h
  split at h
  · obtain ⟨rfl, h1, hk⟩ := h
    exact lv_iconst hx hb hd rfl (hk H locs ls oL (ra_okS_c.mpr ⟨h1, oS⟩) oM hl hP hD hS)
  · obtain ⟨rfl, h1, hk⟩ := h
    exact lv_bipush hx hb hd (ra_b8 h1) (hk H locs ls oL (ra_okS_c.mpr ⟨⟨by omega, by omega⟩, oS⟩) oM hl hP hD hS)
  · obtain ⟨rfl, h1, hk⟩ := h
    exact lv_sipush hx hb hd (ra_b16 h1) (hk H locs ls oL (ra_okS_c.mpr ⟨⟨by omega, by omega⟩, oS⟩) oM hl hP hD hS)
  · rename_i n
    obtain ⟨rfl, hk⟩ := h
    exact lv_lconst hx hb hd Int64.ofInt_eq_ofNat.symm (hk H locs ls oL (ra_okS_c.mpr ⟨⟨by omega, by omega⟩, oS⟩) oM hl hP hD hS)
  · obtain ⟨rfl, z, h1, hk⟩ := h
    exact lv_ldc hx hb hown (hts _ h1.1) hd (hk H locs ls oL (ra_okS_c.mpr ⟨h1.2, oS⟩) oM hl hP hD hS)
  · obtain ⟨rfl, z, h1, hk⟩ := h
    exact lv_ldc2 hx hb hown (hts _ h1.1) hd (hk H locs ls oL (ra_okS_c.mpr ⟨h1.2, oS⟩) oM hl hP hD hS)
  · obtain ⟨rfl, z, h1, hk⟩ := h
    exact lv_iload_n hx hb hd rfl (hl.2.2.2 _ _ h1) (hk H locs ls oL (ra_okS_c.mpr ⟨oL _ _ h1, oS⟩) oM hl hP hD hS)
  · obtain ⟨rfl, z, h1, hk⟩ := h
    exact lv_iload hx hb hd (hl.2.2.2 _ _ h1) (hk H locs ls oL (ra_okS_c.mpr ⟨oL _ _ h1, oS⟩) oM hl hP hD hS)
  · obtain ⟨rfl, z, h1, hk⟩ := h
    exact lv_lload_n hx hb hd rfl (hl.2.2.2 _ _ h1) (hk H locs ls oL (ra_okS_c.mpr ⟨oL _ _ h1, oS⟩) oM hl hP hD hS)
  · obtain ⟨rfl, z, h1, hk⟩ := h
    exact lv_lload hx hb hd (hl.2.2.2 _ _ h1) (hk H locs ls oL (ra_okS_c.mpr ⟨oL _ _ h1, oS⟩) oM hl hP hD hS)
  · obtain ⟨rfl, z, h1, hk⟩ := h
    exact lv_aload_n hx hb hd rfl (hl.2.2.2 _ _ h1) (hk H locs ls oL (ra_okS_c.mpr ⟨oL _ _ h1, oS⟩) oM hl hP hD hS)
  · obtain ⟨rfl, z, h1, hk⟩ := h
    exact lv_aload hx hb hd (hl.2.2.2 _ _ h1) (hk H locs ls oL (ra_okS_c.mpr ⟨oL _ _ h1, oS⟩) oM hl hP hD hS)
  · obtain ⟨rfl, z, st, rfl, h1, hk⟩ := h
    obtain ⟨oz, os⟩ := ra_okS_c.mp oS
    exact lv_istore_n hx hb hd rfl hl.en (by rw [hl.2.2.1] at h1; exact h1) rfl (fun ls9 hl9 => hk H locs ls9 (ra_okL_st oL oz) os oM (ra_has.st hl.2.2.1 hl9) hP hD hS)
  · obtain ⟨rfl, z, st, rfl, h1, hk⟩ := h
    obtain ⟨oz, os⟩ := ra_okS_c.mp oS
    exact lv_istore hx hb hd hl.en (by rw [hl.2.2.1] at h1; exact h1) rfl (fun ls9 hl9 => hk H locs ls9 (ra_okL_st oL oz) os oM (ra_has.st hl.2.2.1 hl9) hP hD hS)
  · obtain ⟨rfl, z, st, rfl, h1, hk⟩ := h
    obtain ⟨oz, os⟩ := ra_okS_c.mp oS
    exact lv_lstore_n hx hb hd rfl hl.en (by rw [hl.2.2.1] at h1; exact h1) rfl (fun ls9 hl9 => hk H locs ls9 (ra_okL_st2 oL oz) os oM (ra_has.st2 hl.2.2.1 hl9) hP hD hS)
  · obtain ⟨rfl, z, st, rfl, h1, hk⟩ := h
    obtain ⟨oz, os⟩ := ra_okS_c.mp oS
    exact lv_lstore hx hb hd hl.en (by rw [hl.2.2.1] at h1; exact h1) rfl (fun ls9 hl9 => hk H locs ls9 (ra_okL_st2 oL oz) os oM (ra_has.st2 hl.2.2.1 hl9) hP hD hS)
  · obtain ⟨rfl, z, h1, h2, hk⟩ := h
    obtain ⟨k9, hk9⟩ := List.getElem?_of_mem (ra_en_in (ad := ad) h1)
    exact lv_iinc hx hb hd hl.en hk9 (Int32.ofInt_add _ _).symm (by rw [← hl.2.2.1]; exact (List.getElem?_eq_some_iff.mp h1).1) rfl (fun ls9 hl9 => hk H locs ls9 (ra_okL_st oL h2) oS oM (ra_has.st hl.2.2.1 hl9) hP hD hS)
  · obtain ⟨rfl, a, b, st, rfl, h1, hk⟩ := h
    obtain ⟨ob, os⟩ := ra_okS_c.mp oS
    obtain ⟨oa, os⟩ := ra_okS_c.mp os
    refine lv_iadd hx hb hd ?_
    rw [← Int32.ofInt_add]
    exact hk H locs ls oL (ra_okS_c.mpr ⟨h1, os⟩) oM hl hP hD hS
  · obtain ⟨rfl, a, b, st, rfl, h1, hk⟩ := h
    obtain ⟨ob, os⟩ := ra_okS_c.mp oS
    obtain ⟨oa, os⟩ := ra_okS_c.mp os
    refine lv_isub hx hb hd ?_
    rw [← Int32.ofInt_sub]
    exact hk H locs ls oL (ra_okS_c.mpr ⟨h1, os⟩) oM hl hP hD hS
  · obtain ⟨rfl, a, b, st, rfl, h1, hk⟩ := h
    obtain ⟨ob, os⟩ := ra_okS_c.mp oS
    obtain ⟨oa, os⟩ := ra_okS_c.mp os
    refine lv_imul hx hb hd ?_
    rw [← Int32.ofInt_mul]
    exact hk H locs ls oL (ra_okS_c.mpr ⟨h1, os⟩) oM hl hP hD hS
  · obtain ⟨rfl, a, st, rfl, h1, hk⟩ := h
    obtain ⟨oa, os⟩ := ra_okS_c.mp oS
    refine lv_ineg hx hb hd ?_
    rw [← Int32.ofInt_neg]
    exact hk H locs ls oL (ra_okS_c.mpr ⟨h1, os⟩) oM hl hP hD hS
  · obtain ⟨rfl, a, b, st, rfl, h0, h1, hk⟩ := h
    obtain ⟨ob, os⟩ := ra_okS_c.mp oS
    obtain ⟨oa, os⟩ := ra_okS_c.mp os
    refine lv_idiv hx hb hd (fun q => h0 ((ra_eq0 ob).mp q)) ?_
    rw [ra_div oa ob h1]
    exact hk H locs ls oL (ra_okS_c.mpr ⟨h1, os⟩) oM hl hP hD hS
  · obtain ⟨rfl, a, b, st, rfl, h0, h1, hk⟩ := h
    obtain ⟨ob, os⟩ := ra_okS_c.mp oS
    obtain ⟨oa, os⟩ := ra_okS_c.mp os
    refine lv_irem hx hb hd (fun q => h0 ((ra_eq0 ob).mp q)) ?_
    rw [ra_rem oa ob h1]
    exact hk H locs ls oL (ra_okS_c.mpr ⟨h1, os⟩) oM hl hP hD hS
  · obtain ⟨rfl, a, b, st, rfl, hk⟩ := h
    obtain ⟨ob, os⟩ := ra_okS_c.mp oS
    obtain ⟨oa, os⟩ := ra_okS_c.mp os
    refine lv_iand hx hb hd ?_
    rw [ra_nand]
    exact hk H locs ls oL (ra_okS_c.mpr ⟨ra_in_and oa, os⟩) oM hl hP hD hS
  · obtain ⟨rfl, a, b, st, rfl, hk⟩ := h
    obtain ⟨ob, os⟩ := ra_okS_c.mp oS
    obtain ⟨oa, os⟩ := ra_okS_c.mp os
    refine lv_ior hx hb hd ?_
    rw [ra_nor]
    exact hk H locs ls oL (ra_okS_c.mpr ⟨ra_in_or oa ob, os⟩) oM hl hP hD hS
  · obtain ⟨rfl, a, b, st, rfl, h1, h2, hk⟩ := h
    obtain ⟨ob, os⟩ := ra_okS_c.mp oS
    obtain ⟨oa, os⟩ := ra_okS_c.mp os
    refine lv_ishl hx hb hd ?_
    rw [ra_nshl a b h1 h2]
    exact hk H locs ls oL (ra_okS_c.mpr ⟨⟨by omega, by omega⟩, os⟩) oM hl hP hD hS
  · obtain ⟨rfl, a, b, st, rfl, h1, hk⟩ := h
    obtain ⟨ob, os⟩ := ra_okS_c.mp oS
    obtain ⟨oa, os⟩ := ra_okS_c.mp os
    have ha : a < 2147483648 := by have := oa.2; omega
    have hq := Nat.div_le_self a (2 ^ b)
    have hin : in32 ((a / 2 ^ b : Nat) : Int) := by
      generalize a / 2 ^ b = w at hq
      exact ⟨by omega, by omega⟩
    refine lv_ishr hx hb hd ?_
    rw [ra_nshr a b h1 ha]
    exact hk H locs ls oL (ra_okS_c.mpr ⟨hin, os⟩) oM hl hP hD hS
  · obtain ⟨rfl, a, st, rfl, hk⟩ := h
    obtain ⟨oa, os⟩ := ra_okS_c.mp oS
    refine lv_i2l hx hb hd (v := Int64.ofInt a) (Int64.toInt_inj.mp ?_) (hk H locs ls oL (ra_okS_c.mpr ⟨⟨by have := oa.1; omega, by have := oa.2; omega⟩, os⟩) oM hl hP hD hS)
    rw [Int32.toInt_toInt64, ra_ti oa, ra_tj ⟨by have := oa.1; omega, by have := oa.2; omega⟩]
  · obtain ⟨rfl, a, b, st, rfl, h1, hk⟩ := h
    obtain ⟨ob, os⟩ := ra_okS_c.mp oS
    obtain ⟨oa, os⟩ := ra_okS_c.mp os
    refine lv_ladd hx hb hd ?_
    rw [← Int64.ofInt_add]
    exact hk H locs ls oL (ra_okS_c.mpr ⟨h1, os⟩) oM hl hP hD hS
  · obtain ⟨rfl, a, b, st, rfl, h1, hk⟩ := h
    obtain ⟨ob, os⟩ := ra_okS_c.mp oS
    obtain ⟨oa, os⟩ := ra_okS_c.mp os
    refine lv_lsub hx hb hd ?_
    rw [← Int64.ofInt_sub]
    exact hk H locs ls oL (ra_okS_c.mpr ⟨h1, os⟩) oM hl hP hD hS
  · obtain ⟨rfl, a, b, st, rfl, h1, hk⟩ := h
    obtain ⟨ob, os⟩ := ra_okS_c.mp oS
    obtain ⟨oa, os⟩ := ra_okS_c.mp os
    refine lv_lmul hx hb hd ?_
    rw [← Int64.ofInt_mul]
    exact hk H locs ls oL (ra_okS_c.mpr ⟨h1, os⟩) oM hl hP hD hS
  · obtain ⟨rfl, a, b, st, rfl, h0, h1, hk⟩ := h
    obtain ⟨ob, os⟩ := ra_okS_c.mp oS
    obtain ⟨oa, os⟩ := ra_okS_c.mp os
    refine lv_ldiv hx hb hd (fun q => h0 ?_) ?_
    · have e9 : (Int64.ofInt b).toInt = 0 := by rw [q]; rfl
      rwa [ra_tj ob] at e9
    · rw [ra_divJ oa ob h1]
      exact hk H locs ls oL (ra_okS_c.mpr ⟨h1, os⟩) oM hl hP hD hS
  · obtain ⟨rfl, a, b, st, rfl, hk⟩ := h
    obtain ⟨ob, os⟩ := ra_okS_c.mp oS
    obtain ⟨oa, os⟩ := ra_okS_c.mp os
    obtain ⟨z, z1, z2, z3⟩ := ra_xor oa ob
    refine lv_lxor hx hb hd ?_
    rw [z3]
    exact hk z z1 z2 H locs ls oL (ra_okS_c.mpr ⟨z1, os⟩) oM hl hP hD hS
  · obtain ⟨rfl, a, b, st, rfl, hk⟩ := h
    obtain ⟨ob, os⟩ := ra_okS_c.mp oS
    obtain ⟨oa, os⟩ := ra_okS_c.mp os
    refine W.lcmp hx hb hd ?_
    rw [ra_cmpJ oa ob]
    exact hk H locs ls oL (ra_okS_c.mpr ⟨by show in32 _; unfold in32; repeat' split <;> omega, os⟩) oM hl hP hD hS
  · obtain ⟨rfl, v, st, rfl, h1, hk⟩ := h
    obtain ⟨ov, os⟩ := ra_okS_c.mp oS
    exact lv_dup hx hb hd (by rw [ra_cat, h1]; rfl) (hk H locs ls oL (ra_okS_c.mpr ⟨ov, oS⟩) oM hl hP hD hS)
  · obtain ⟨rfl, v, w, st, rfl, h1, h2, hk⟩ := h
    obtain ⟨ov, os⟩ := ra_okS_c.mp oS
    obtain ⟨ow, os⟩ := ra_okS_c.mp os
    exact lv_dup2_11 hx hb hd (by rw [ra_cat, h1]; rfl) (by rw [ra_cat, h2]; rfl) (hk H locs ls oL (ra_okS_c.mpr ⟨ov, ra_okS_c.mpr ⟨ow, oS⟩⟩) oM hl hP hD hS)
  · obtain ⟨rfl, v, st, rfl, h1, hk⟩ := h
    obtain ⟨ov, os⟩ := ra_okS_c.mp oS
    exact lv_pop hx hb hd (by rw [ra_cat, h1]; rfl) (hk H locs ls oL os oM hl hP hD hS)
  · obtain ⟨rfl, z, st, tgt, rfl, ht, k1, k2⟩ := h
    obtain ⟨oz, os⟩ := ra_okS_c.mp oS
    exact lv_if_eq hx hb hd ht (fun q => k1 ((ra_eq0 oz).mp q) H locs ls oL os oM hl hP hD hS) (fun q => k2 (fun q2 => q ((ra_eq0 oz).mpr q2)) H locs ls oL os oM hl hP hD hS)
  · obtain ⟨rfl, z, st, tgt, rfl, ht, k1, k2⟩ := h
    obtain ⟨oz, os⟩ := ra_okS_c.mp oS
    exact lv_if_ne hx hb hd ht (fun q => k1 (fun q2 => q ((ra_eq0 oz).mpr q2)) H locs ls oL os oM hl hP hD hS) (fun q => k2 ((ra_eq0 oz).mp q) H locs ls oL os oM hl hP hD hS)
  · obtain ⟨rfl, z, st, tgt, rfl, ht, k1, k2⟩ := h
    obtain ⟨oz, os⟩ := ra_okS_c.mp oS
    exact lv_if_lt hx hb hd ht (fun q => k1 ((ra_lt0 oz).mp q) H locs ls oL os oM hl hP hD hS) (fun q => k2 (fun q2 => q ((ra_lt0 oz).mpr q2)) H locs ls oL os oM hl hP hD hS)
  · obtain ⟨rfl, z, st, tgt, rfl, ht, k1, k2⟩ := h
    obtain ⟨oz, os⟩ := ra_okS_c.mp oS
    exact lv_if_ge hx hb hd ht (fun q => k1 ((ra_0le oz).mp q) H locs ls oL os oM hl hP hD hS) (fun q => k2 (fun q2 => q ((ra_0le oz).mpr q2)) H locs ls oL os oM hl hP hD hS)
  · obtain ⟨rfl, z, st, tgt, rfl, ht, k1, k2⟩ := h
    obtain ⟨oz, os⟩ := ra_okS_c.mp oS
    exact lv_if_gt hx hb hd ht (fun q => k1 ((ra_0lt oz).mp q) H locs ls oL os oM hl hP hD hS) (fun q => k2 (fun q2 => q ((ra_0lt oz).mpr q2)) H locs ls oL os oM hl hP hD hS)
  · obtain ⟨rfl, z, st, tgt, rfl, ht, k1, k2⟩ := h
    obtain ⟨oz, os⟩ := ra_okS_c.mp oS
    exact lv_if_le hx hb hd ht (fun q => k1 ((ra_le0 oz).mp q) H locs ls oL os oM hl hP hD hS) (fun q => k2 (fun q2 => q ((ra_le0 oz).mpr q2)) H locs ls oL os oM hl hP hD hS)
  · obtain ⟨rfl, a, b, st, tgt, rfl, ht, k1, k2⟩ := h
    obtain ⟨ob, os⟩ := ra_okS_c.mp oS
    obtain ⟨oa, os⟩ := ra_okS_c.mp os
    exact lv_icmp_eq hx hb hd ht (fun q => k1 ((ra_eq oa ob).mp q) H locs ls oL os oM hl hP hD hS) (fun q => k2 (fun q2 => q ((ra_eq oa ob).mpr q2)) H locs ls oL os oM hl hP hD hS)
  · obtain ⟨rfl, a, b, st, tgt, rfl, ht, k1, k2⟩ := h
    obtain ⟨ob, os⟩ := ra_okS_c.mp oS
    obtain ⟨oa, os⟩ := ra_okS_c.mp os
    exact lv_icmp_ne hx hb hd ht (fun q => k1 (fun q2 => q ((ra_eq oa ob).mpr q2)) H locs ls oL os oM hl hP hD hS) (fun q => k2 ((ra_eq oa ob).mp q) H locs ls oL os oM hl hP hD hS)
  · obtain ⟨rfl, a, b, st, tgt, rfl, ht, k1, k2⟩ := h
    obtain ⟨ob, os⟩ := ra_okS_c.mp oS
    obtain ⟨oa, os⟩ := ra_okS_c.mp os
    exact lv_icmp_lt hx hb hd ht (fun q => k1 ((ra_lt oa ob).mp q) H locs ls oL os oM hl hP hD hS) (fun q => k2 (fun q2 => q ((ra_lt oa ob).mpr q2)) H locs ls oL os oM hl hP hD hS)
  · obtain ⟨rfl, a, b, st, tgt, rfl, ht, k1, k2⟩ := h
    obtain ⟨ob, os⟩ := ra_okS_c.mp oS
    obtain ⟨oa, os⟩ := ra_okS_c.mp os
    exact lv_icmp_ge hx hb hd ht (fun q => k1 ((ra_le ob oa).mp q) H locs ls oL os oM hl hP hD hS) (fun q => k2 (fun q2 => q ((ra_le ob oa).mpr q2)) H locs ls oL os oM hl hP hD hS)
  · obtain ⟨rfl, a, b, st, tgt, rfl, ht, k1, k2⟩ := h
    obtain ⟨ob, os⟩ := ra_okS_c.mp oS
    obtain ⟨oa, os⟩ := ra_okS_c.mp os
    exact lv_icmp_gt hx hb hd ht (fun q => k1 ((ra_lt ob oa).mp q) H locs ls oL os oM hl hP hD hS) (fun q => k2 (fun q2 => q ((ra_lt ob oa).mpr q2)) H locs ls oL os oM hl hP hD hS)
  · obtain ⟨rfl, a, b, st, tgt, rfl, ht, k1, k2⟩ := h
    obtain ⟨ob, os⟩ := ra_okS_c.mp oS
    obtain ⟨oa, os⟩ := ra_okS_c.mp os
    exact lv_icmp_le hx hb hd ht (fun q => k1 ((ra_le oa ob).mp q) H locs ls oL os oM hl hP hD hS) (fun q => k2 (fun q2 => q ((ra_le oa ob).mpr q2)) H locs ls oL os oM hl hP hD hS)
  · obtain ⟨rfl, tgt, ht, hk⟩ := h
    exact lv_goto hx hb hd ht (hk H locs ls oL oS oM hl hP hD hS)
  · rename_i dflt lo hi offs
    obtain ⟨z, st, rfl, k1, k2⟩ := h
    obtain ⟨oz, os⟩ := ra_okS_c.mp oS
    have ez := ra_ti oz
    by_cases hc : z < lo ∨ hi < z
    · obtain ⟨tgt, ht, hk⟩ := k1 hc
      exact lv_tableOut hx hb hd (by rw [ez]; exact hc) ht (hk H locs ls oL os oM hl hP hD hS)
    · obtain ⟨off, tgt, ho, ht, hk⟩ := k2 hc
      exact lv_tableIn hx hb hd (by rw [ez]; exact fun q => hc (Or.inl q)) (by rw [ez]; exact fun q => hc (Or.inr q)) (by rw [ez]; exact ho) ht (hk H locs ls oL os oM hl hP hD hS)
  · obtain ⟨rfl, k0, st, ci, ks, j, kd, rfl, hF, hsh, hkd, hk⟩ := h
    obtain ⟨ok0, os⟩ := ra_okS_c.mp oS
    obtain ⟨C1, T1, N1, hc, hj, hT1, hlk⟩ := hF
    exact va_get (D := D) (ci := ci) (C := C1) (T := T1) (N := N1) hx hb hts (ra_clsfacts ci C1 T1 N1 hc).1 hown hK hP k0 (ra_w_get hsh) hc j hj (hts _ hlk) (fun x9 q => by rw [hT1] at q; exact q) (ra_fs_get hkd) hd (hk H locs ls oL (ra_okS_c.mpr ⟨ra_ok_fa oM _ _ _, os⟩) oM hl hP hD hS)
  · obtain ⟨rfl, z, k0, st, ci, ks, j, kd, rfl, hF, hsh, hkd, hkz, hk⟩ := h
    obtain ⟨oz, os⟩ := ra_okS_c.mp oS
    obtain ⟨ok0, os⟩ := ra_okS_c.mp os
    obtain ⟨C1, T1, N1, hc, hj, hT1, hlk, hfin, hpd⟩ := hF
    obtain ⟨hin9, ty9, hty9, hnm9⟩ := ra_clsfacts ci C1 T1 N1 hc
    have hk1 : kd ≤ 1 := by omega
    refine va_put (D := D) (ci := ci) (C := C1) (T := T1) (N := N1) (ty := if kd = 0 then .int else .boolean) (v := .int (Int32.ofInt z)) hx hb hts hin9 ty9 hty9 hnm9 hown hK hP hD hS k0 (ra_w_get hsh) hc j hj (hts _ hlk) (fun x9 q => by rw [hT1] at q; exact q) hfin hpd ?_ ?_ ?_ hd (fun H1 locs1 hP1 hD1 hS1 => ?_)
    · rcases hkz with q | ⟨q, q2 | q2⟩
      · rw [if_pos q]; rfl
      · rw [if_neg (by omega), q2]; rfl
      · rw [if_neg (by omega), q2]; rfl
    · rcases hkz with q | ⟨q, q2 | q2⟩
      · rw [if_pos q]; rfl
      · rw [if_neg (by omega), q2]; rfl
      · rw [if_neg (by omega), q2]; rfl
    · simpa using (List.getElem?_eq_some_iff.mp hkd).1
    · have e9 := ra_w_set (cA := cA) (ad := ad) (M := M) (j := (j : Int)) (z := z) hsh (e := .inr (ci, ((List.range ks.length).map (fun j => ra_fv ad (ks.getD j 0) (M k0 (j : Nat)))).set j (.int (Int32.ofInt z)))) (by rw [ra_fs_set hkd hk1]; rfl)
      have hP2 : va_P D vwCl (ra_w cA ad (up M k0 j z)) H1 := by rw [← e9]; exact hP1
      exact hk H1 locs1 ls oL os (ra_okM_up oM _ _ oz) hl hP2 (ra_D_any hD) hS1
  · obtain ⟨rfl, h1, hk⟩ := h
    obtain ⟨hZ, hT, hN⟩ := hsta
    obtain ⟨g1, g2⟩ := h1
    subst g2
    rw [g1] at hown
    exact va_getsN hx hb hZ hS hown (va_Nw.use rfl hN) (fun _ q => q) hd (hk H locs ls oL (ra_okS_c.mpr ⟨trivial, oS⟩) oM hl hP hD hS)
  · obtain ⟨rfl, z, k0, st, rfl, ⟨n, hsh, h0, h1, hk⟩ | ⟨rfl, h0, h1, hk⟩⟩ := h
    · obtain ⟨oz, os⟩ := ra_okS_c.mp oS
      obtain ⟨ok0, os⟩ := ra_okS_c.mp os
      refine va_iald hx hb hK hP k0 0 (ra_w_get hsh) rfl (ra_vin oz h0 h1) hd ?_
      show W p l e R s m args below meth c H locs 0 0 _ (F0 m (pc + 1) ls (.int (Int32.ofInt (M k0 ((Int32.ofInt z).toNatClampNeg : Nat))) :: st.map (ra_cv ad)))
      rw [ra_cl oz h0]
      exact hk H locs ls oL (ra_okS_c.mpr ⟨oM _ _, os⟩) oM hl hP hD hS
    · obtain ⟨oz, os⟩ := ra_okS_c.mp oS
      obtain ⟨ok0, os⟩ := ra_okS_c.mp os
      obtain ⟨hZ, ⟨cell, t1, t2, t3, t4, t5, t6, t7⟩, hN⟩ := hsta
      have hc := ra_cl oz h0
      have hlt : (Int32.ofInt z).toNatClampNeg < 5 := by omega
      refine W.iald (v := .int (Int32.ofInt (ra_fc z))) hx hb (by rw [hS.2.1 _ (Array.getElem?_eq_some_iff.mp t1).1 t7]; exact t1) t2 t3 (fun q => ?_) (by rw [t6 _ hlt, ra_fcv, hc]) rfl rfl hd (hk H locs ls oL (ra_okS_c.mpr ⟨ra_in_fc z, os⟩) oM hl hP hD hS)
      rcases q with q | q
      · exact absurd ((ra_lt0 oz).mp q) (by omega)
      · omega
  · obtain ⟨rfl, y, z, k0, st, n, rfl, hsh, h0, h1, hk⟩ := h
    obtain ⟨oy, os⟩ := ra_okS_c.mp oS
    obtain ⟨oz, os⟩ := ra_okS_c.mp os
    obtain ⟨ok0, os⟩ := ra_okS_c.mp os
    refine va_iast hx hb hK hP hD hS k0 0 (ra_w_get hsh) rfl (ra_vin oz h0 h1) hd (fun H1 locs1 hP1 hD1 hS1 => ?_)
    have e9 := ra_w_set (cA := cA) (ad := ad) (M := M) (j := z) (z := y) hsh (e := .inl (cA, n, .inl (upd (fun i : Nat => Int32.ofInt (M k0 (i : Nat))) (Int32.ofInt z).toNatClampNeg (Int32.ofInt y)))) (ra_arr_set oz h0)
    have hP2 : va_P D vwCl (ra_w cA ad (up M k0 z y)) H1 := by rw [← e9]; exact hP1
    exact hk H1 locs1 ls oL os (ra_okM_up oM _ _ oy) hl hP2 (ra_D_any hD) hS1
  · obtain ⟨rfl, k0, st, rfl, ⟨n, hsh, hk⟩ | ⟨rfl, hk⟩⟩ := h
    · obtain ⟨ok0, os⟩ := ra_okS_c.mp oS
      have hn : in32 (n : Int) := by
        have h9 : SH.all (fun x => match x with | .inl n => decide (n ≤ 10000) | .inr _ => true) = true := by decide +kernel
        have := List.all_eq_true.mp h9 _ (List.mem_of_getElem? hsh)
        have : n ≤ 10000 := by simpa using this
        exact ⟨by omega, by omega⟩
      exact va_alen hx hb hK hP k0 0 (ra_w_get hsh) rfl Int32.ofInt_eq_ofNat.symm hd (hk H locs ls oL (ra_okS_c.mpr ⟨hn, os⟩) oM hl hP hD hS)
    · obtain ⟨ok0, os⟩ := ra_okS_c.mp oS
      obtain ⟨hZ, ⟨cell, t1, t2, t3, t4, t5, t6, t7⟩, hN⟩ := hsta
      exact W.alen (n := 5) hx hb (by rw [hS.2.1 _ (Array.getElem?_eq_some_iff.mp t1).1 t7]; exact t1) t2 t5 rfl rfl hd (hk H locs ls oL (ra_okS_c.mpr ⟨⟨by omega, by omega⟩, os⟩) oM hl hP hD hS)
  · obtain ⟨rfl, mj, as, k0, st, ci, ks, T1, N1, rfl, hcv, hsh, hc, hst, hk⟩ := h
    obtain ⟨hlk, hin, hsel, hpar, hok⟩ := hcv
    have oS2 : (∀ v ∈ as, ra_okV v) ∧ ra_okS st := ⟨fun v hv => oS v (List.mem_append_left _ (List.mem_reverse.mpr hv)), fun v hv => oS v (List.mem_append_right _ (List.mem_cons_of_mem _ hv))⟩
    have hM := hcall mj (vR k0 :: as) M _ hk hok (List.forall_mem_cons.mpr ⟨trivial, oS2.1⟩) oM H.size
    have hcs := ra_catsum ad st
    refine ra_call (va_runV (As := as.map (ra_cv ad)) (rest := st.map (ra_cv ad)) (b := ad k0) (C := (mY mj).cls) (Ts := lwg) ⟨hx, hb, hml, hown, hts⟩ hM ⟨callB_of (ws' := lwg) as.length hts (ra_good hok) rfl rfl rfl (hts _ hok.2.2.1) (hts _ hlk) ⟨hok.1.2.1, hok.1.2.2, hpar⟩ ⟨hR.1, by have := hok.2.2.2; show 8 + (mX mj + 11) + 34 * d ≤ R.locals; omega⟩, hts _ hin, hts _ hsel⟩ ⟨ra_blind, va_recv hK hP hc (ra_w_get hsh), ra_pre hK hsta hAe hP hD hS⟩ rfl (by simp) hl.1 (by simp [ra_cv]) (lv_room (by omega)) hd ⟨Nat.zero_le _, Nat.zero_le _⟩) hS (fun q hq => hAe M H.size q hS.1 hq) (fun r M1 H1 locs1 hq oM1 or1 hP1 hS1 => ?_)
    have := hq H1 locs1 ls oL (fun v hv => by rcases List.mem_append.mp hv with h | h; exact or1 v (Option.mem_toList.mp h); exact oS2.2 v h) oM1 hl hP1 (ra_D_any hD) hS1
    rw [List.map_append] at this
    cases r with
    | none => exact this
    | some v => exact this
  · obtain ⟨rfl, mj, as, st, rfl, hcv, hst, hk⟩ := h
    obtain ⟨hlk, hstt, hpar, hok⟩ := hcv
    have oS2 : (∀ v ∈ as, ra_okV v) ∧ ra_okS st := ⟨fun v hv => oS v (List.mem_append_left _ (List.mem_reverse.mpr hv)), fun v hv => oS v (List.mem_append_right _ hv)⟩
    have hM := hcall mj as M _ hk hok oS2.1 oM H.size
    have hcs := ra_catsum ad st
    refine ra_call (va_runS (As := as.map (ra_cv ad)) (rest := st.map (ra_cv ad)) (Ts := lwg) ⟨hx, hb, hml, hown, hts⟩ hM ⟨callB_of (ws' := lwg) as.length hts (ra_good hok) rfl rfl rfl (hts _ hok.2.2.1) (hts _ hlk) ⟨hok.1.2.1, hok.1.2.2, hpar⟩ ⟨hR.1, by have := hok.2.2.2; show 8 + (mX mj + 11) + 34 * d ≤ R.locals; omega⟩, hts _ hstt⟩ ⟨ra_blind, ra_pre hK hsta hAe hP hD hS⟩ rfl (by simp) hl.1 (by simp) (lv_room (by omega)) hd ⟨Nat.zero_le _, Nat.zero_le _⟩) hS (fun q hq => hAe M H.size q hS.1 hq) (fun r M1 H1 locs1 hq oM1 or1 hP1 hS1 => ?_)
    have := hq H1 locs1 ls oL (fun v hv => by rcases List.mem_append.mp hv with h | h; exact or1 v (Option.mem_toList.mp h); exact oS2.2 v h) oM1 hl hP1 (ra_D_any hD) hS1
    rw [List.map_append] at this
    cases r with
    | none => exact this
    | some v => exact this
  · obtain ⟨rfl, z, rfl, hty, hq⟩ := h
    obtain ⟨oz, os⟩ := ra_okS_c.mp oS
    rcases hty with hty | ⟨hty, hz⟩
    · exact W.iret hx hb (hr.trans hty) (fun t ht hW => hret (some (vI z)) M H locs hq oM (fun v hv => by cases hv; exact oz) hP hS t ht hW) hS.2.2 hd hlocks
    · exact W.zret hx hb (hr.trans hty) (by rcases hz with q | q <;> rw [q] <;> rfl) (fun t ht hW => hret (some (vI z)) M H locs hq oM (fun v hv => by cases hv; exact oz) hP hS t ht hW) hS.2.2 hd hlocks
  · obtain ⟨rfl, z, rfl, hty, hq⟩ := h
    obtain ⟨oz, os⟩ := ra_okS_c.mp oS
    exact W.lret hx hb (hr.trans hty) (fun t ht hW => hret (some (vJ z)) M H locs hq oM (fun v hv => by cases hv; exact oz) hP hS t ht hW) hS.2.2 hd hlocks
  · obtain ⟨rfl, rfl, hty, hq⟩ := h
    exact W.vret hx hb (hr.trans hty) (fun t ht hW => hret none M H locs hq oM (fun v hv => by cases hv) hP hS t ht hW) hS.2.2 hd hlocks
  · exact absurd h id
theorem ra_met {C : Nat → List ra_V → ra_M → (Option ra_V → ra_M → Prop) → Prop} {mi d : Nat} {as : List ra_V} {M : ra_M} {Q : Option ra_V → ra_M → Prop} {R : Room}
    (hex : ra_ExF C mi as M Q) (hok : ra_ok mi) (has : ∀ v ∈ as, ra_okV v) (hM : ra_okM M) (hR : d + 1 ≤ R.frames ∧ 34 * d + 34 ≤ R.locals)
    (hcall : ∀ (mj : Nat) (as : List ra_V) (M : ra_M) (Q' : Option ra_V → ra_M → Prop), C mj as M Q' → ra_ok mj → (∀ v ∈ as, ra_okV v) → ra_okM M → ∀ sz : Nat, Met l (mY mj) (mW mj) (ra_rm d) (ra_Pc D cA ad as M sz) (ra_Qc D cA ad Q' (va_A (ra_w cA ad M) sz)) 0 0 (va_A (ra_w cA ad M) sz))
    (sz : Nat) : Met l (mY mi) (mW mi) R (ra_Pc D cA ad as M sz) (ra_Qc D cA ad Q (va_A (ra_w cA ad M) sz)) 0 0 (va_A (ra_w cA ad M) sz) := by
  obtain ⟨hlen, hex⟩ := hex
  refine MetFree.of_bodySF (code := mB mi) (maxLocals := mX mi) (ret := mR mi) hok.1.1 ?_ ?_
  · intro args s m h hn
    obtain ⟨meth, c, h1, h2, h3, h4, h5, h6, -, -⟩ := Cond.code_spec hn (atoms_spec (ws := mW mi) h _ List.mem_cons_self)
    exact ⟨meth, c, h1, h2, h3, h4, h5, h6⟩
  · intro p e s m args below meth c s₁ B hml hP _
    have hh0 : s₁.heap = s.heap := by rw [B.state]; rfl
    obtain ⟨rfl, hsz, hPw, hK, hD0, hsta⟩ := hP
    subst hsz
    have hts0 := atoms_spec (ws := mW mi) B.pre
    have hown : s.vm.findClass (mY mi).cls = some m.cls := findClass_of_methodNamed B.named
    have key : W p l e R s m (as.map (ra_cv ad)).toArray below meth c s.heap [] 0 0 (MQ below (ra_Qc D cA ad Q (va_A (ra_w cA ad M) s.heap.size)) (as.map (ra_cv ad)).toArray s 0 0 (va_A (ra_w cA ad M) s.heap.size)) (entryFrame m (as.map (ra_cv ad)).toArray (mX mi)) := by
      rw [lg_entry_eq]
      have hclo := ra_step (C := C) (d := d) (Q := Q) (Qc := ra_Qc D cA ad Q (va_A (ra_w cA ad M) s.heap.size)) (below := below) (e := e) (R := R) (l := l) (A := va_A (ra_w cA ad M) s.heap.size) (mi := mi)
        ⟨B.exec, B.bytes, hml, B.returns, B.notSynchronized, hown, fun w hw => hts0 w (List.mem_cons_of_mem _ hw), hK, hsta⟩ hR (fun M1 sz1 q h1 h2 => ra_A_any h1 h2) hcall
        (fun r M1 H locs hq oM1 or1 hP1 hS1 t ht hW => ⟨⟨r, M1, rfl, hq, oM1, or1, by rw [ht]; exact hP1⟩, hS1.F ht⟩)
      exact hex _ hclo s.heap [] _ (ra_okL_ini has) (fun v hv => by cases hv) hM (ra_has_ini hlen) hPw hD0.self va_S.rf
    obtain ⟨t, a1, o, b1, b2, b3⟩ := key s₁ hh0 (Stand.of_body B)
    exact ⟨t, o, a1, b1, b2, ⟨b3.1, b3.2⟩⟩
theorem ra_sound : ∀ (d mi : Nat) (as : List ra_V) (M : ra_M) (Q : Option ra_V → ra_M → Prop), Ex d mi as M Q → ra_ok mi → (∀ v ∈ as, ra_okV v) → ra_okM M → ∀ sz : Nat, Met l (mY mi) (mW mi) (ra_rm (d + 1)) (ra_Pc D cA ad as M sz) (ra_Qc D cA ad Q (va_A (ra_w cA ad M) sz)) 0 0 (va_A (ra_w cA ad M) sz) := by
  intro d
  induction d with
  | zero =>
    intro mi as M Q hex hok has hM sz
    exact ra_met (d := 0) hex hok has hM ⟨by show 0 + 1 ≤ 0 + 1; omega, by show 34 * 0 + 34 ≤ 34 * (0 + 1); omega⟩ (fun _ _ _ _ h => h.elim) sz
  | succ d ih =>
    intro mi as M Q hex hok has hM sz
    exact ra_met (d := d + 1) hex hok has hM ⟨by show d + 1 + 1 ≤ d + 1 + 1; omega, by show 34 * (d + 1) + 34 ≤ 34 * (d + 1 + 1); omega⟩ ih sz
end RA
end
section
/-! the rules by which the abstract machine is walked, one an instruction -/
theorem Ex_mono : ∀ (d mi : Nat) (as : List ra_V) (M : ra_M) {P Q : Option ra_V → ra_M → Prop}, Ex d mi as M P → (∀ r M, P r M → Q r M) → Ex d mi as M Q := by
  have key : ∀ (C : Nat → List ra_V → ra_M → (Option ra_V → ra_M → Prop) → Prop) (mi : Nat) (as : List ra_V) (M : ra_M) {P Q : Option ra_V → ra_M → Prop}, ra_ExF C mi as M P → (∀ r M, P r M → Q r M) → ra_ExF C mi as M Q := by
    intro C mi as M P Q h hPQ
    refine ⟨h.1, fun K hK => h.2 K ⟨fun pc L St M i len hd hs => hK.1 pc L St M i len hd ?_, hK.2⟩⟩
    unfold ra_stp at hs ⊢
    split at hs
    case h_60 => obtain ⟨h1, z, h2, h3, h4⟩ := hs; exact ⟨h1, z, h2, h3, hPQ _ _ h4⟩
    case h_61 => obtain ⟨h1, z, h2, h3, h4⟩ := hs; exact ⟨h1, z, h2, h3, hPQ _ _ h4⟩
    case h_62 => obtain ⟨h1, h2, h3, h4⟩ := hs; exact ⟨h1, h2, h3, hPQ _ _ h4⟩
    all_goals exact hs
  intro d mi as M P Q h hPQ
  cases d with
  | zero => exact key _ _ _ _ h hPQ
  | succ d => exact key _ _ _ _ h hPQ
theorem Ex_leaf {d mi : Nat} {as : List ra_V} {M : ra_M} {Q : Option ra_V → ra_M → Prop} (h1 : (ra_sl as).length ≤ mX mi) (h2 : ∀ (C : Nat → List ra_V → ra_M → (Option ra_V → ra_M → Prop) → Prop) (K : Nat → ra_L → List ra_V → ra_M → Prop), ra_Clo C mi (mB mi) Q K → K 0 (ra_ini mi as) [] M) : Ex d mi as M Q := by
  cases d with
  | zero => exact ⟨h1, fun K hK => h2 _ K hK⟩
  | succ d => exact ⟨h1, fun K hK => h2 _ K hK⟩
theorem Ex_call {d mi : Nat} {as : List ra_V} {M : ra_M} {Q : Option ra_V → ra_M → Prop} (h1 : (ra_sl as).length ≤ mX mi) (h2 : ∀ (K : Nat → ra_L → List ra_V → ra_M → Prop), ra_Clo (Ex d) mi (mB mi) Q K → K 0 (ra_ini mi as) [] M) : Ex (d + 1) mi as M Q := ⟨h1, fun K hK => h2 K hK⟩
section KR
variable {C : Nat → List ra_V → ra_M → (Option ra_V → ra_M → Prop) → Prop} {mi d : Nat} {b : ByteArray} {Q : Option ra_V → ra_M → Prop} {K : Nat → ra_L → List ra_V → ra_M → Prop} {pc q : Nat} {L L2 : ra_L} {St st : List ra_V} {M M2 : ra_M}
theorem k_weak (hK : ra_Clo C mi b Q K) (h : ra_weak L L2) (k : K pc L2 St M) : K pc L St M := hK.2 pc L L2 St M h k
theorem k_ic (hK : ra_Clo C mi b Q K) {n : Int} (hd : decode b pc = .ok (.iconst n, 1)) (hp : pc + 1 = q) (h : -2147483648 ≤ n ∧ n ≤ 2147483647) (k : K q L (vI n :: St) M) : K pc L (St) M := by
  subst hp
  exact hK.1 _ _ _ _ _ _ hd ⟨rfl, h, k⟩
theorem k_bp (hK : ra_Clo C mi b Q K) {n : Int} (hd : decode b pc = .ok (.bipush n, 2)) (hp : pc + 2 = q) (h : -128 ≤ n ∧ n ≤ 127) (k : K q L (vI n :: St) M) : K pc L (St) M := by
  subst hp
  exact hK.1 _ _ _ _ _ _ hd ⟨rfl, h, k⟩
theorem k_sp (hK : ra_Clo C mi b Q K) {n : Int} (hd : decode b pc = .ok (.sipush n, 3)) (hp : pc + 3 = q) (h : -32768 ≤ n ∧ n ≤ 32767) (k : K q L (vI n :: St) M) : K pc L (St) M := by
  subst hp
  exact hK.1 _ _ _ _ _ _ hd ⟨rfl, h, k⟩
theorem k_lc (hK : ra_Clo C mi b Q K) {n : Fin 2} {z : Int} (hd : decode b pc = .ok (.lconst n, 1)) (hp : pc + 1 = q) (h : ((n : Nat) : Int) = z) (k : K q L (vJ z :: St) M) : K pc L (St) M := by
  subst hp
  exact hK.1 _ _ _ _ _ _ hd ⟨rfl, by rw [h]; exact k⟩
theorem k_ldc (hK : ra_Clo C mi b Q K) {x : Nat} {z : Int} (hd : decode b pc = .ok (.ldc x, 2)) (hp : pc + 2 = q) (h : ra_C (mY mi).cls x z) (k : K q L (vI z :: St) M) : K pc L (St) M := by
  subst hp
  exact hK.1 _ _ _ _ _ _ hd ⟨rfl, z, h, k⟩
theorem k_ldc2 (hK : ra_Clo C mi b Q K) {x : Nat} {z : Int} (hd : decode b pc = .ok (.ldc2_w x, 3)) (hp : pc + 3 = q) (h : ra_CJ (mY mi).cls x z) (k : K q L (vJ z :: St) M) : K pc L (St) M := by
  subst hp
  exact hK.1 _ _ _ _ _ _ hd ⟨rfl, z, h, k⟩
theorem k_iln (hK : ra_Clo C mi b Q K) {x : Fin 4} {z : Int} (hd : decode b pc = .ok (.iload_n x, 1)) (hp : pc + 1 = q) (h : L[(x : Nat)]? = some (some (vI z))) (k : K q L (vI z :: St) M) : K pc L (St) M := by
  subst hp
  exact hK.1 _ _ _ _ _ _ hd ⟨rfl, z, h, k⟩
theorem k_il (hK : ra_Clo C mi b Q K) {x : Nat} {z : Int} (hd : decode b pc = .ok (.iload x, 2)) (hp : pc + 2 = q) (h : L[x]? = some (some (vI z))) (k : K q L (vI z :: St) M) : K pc L (St) M := by
  subst hp
  exact hK.1 _ _ _ _ _ _ hd ⟨rfl, z, h, k⟩
theorem k_lln (hK : ra_Clo C mi b Q K) {x : Fin 4} {z : Int} (hd : decode b pc = .ok (.lload_n x, 1)) (hp : pc + 1 = q) (h : L[(x : Nat)]? = some (some (vJ z))) (k : K q L (vJ z :: St) M) : K pc L (St) M := by
  subst hp
  exact hK.1 _ _ _ _ _ _ hd ⟨rfl, z, h, k⟩
theorem k_ll (hK : ra_Clo C mi b Q K) {x : Nat} {z : Int} (hd : decode b pc = .ok (.lload x, 2)) (hp : pc + 2 = q) (h : L[x]? = some (some (vJ z))) (k : K q L (vJ z :: St) M) : K pc L (St) M := by
  subst hp
  exact hK.1 _ _ _ _ _ _ hd ⟨rfl, z, h, k⟩
theorem k_aln (hK : ra_Clo C mi b Q K) {x : Fin 4} {z : Nat} (hd : decode b pc = .ok (.aload_n x, 1)) (hp : pc + 1 = q) (h : L[(x : Nat)]? = some (some (vR z))) (k : K q L (vR z :: St) M) : K pc L (St) M := by
  subst hp
  exact hK.1 _ _ _ _ _ _ hd ⟨rfl, z, h, k⟩
theorem k_al (hK : ra_Clo C mi b Q K) {x : Nat} {z : Nat} (hd : decode b pc = .ok (.aload x, 2)) (hp : pc + 2 = q) (h : L[x]? = some (some (vR z))) (k : K q L (vR z :: St) M) : K pc L (St) M := by
  subst hp
  exact hK.1 _ _ _ _ _ _ hd ⟨rfl, z, h, k⟩
theorem k_isn (hK : ra_Clo C mi b Q K) {x : Fin 4} {z : Int} (hd : decode b pc = .ok (.istore_n x, 1)) (hp : pc + 1 = q) (h : (x : Nat) < L.length) (hL : ra_st L x (vI z) = L2) (k : K q L2 st M) : K pc L (vI z :: st) M := by
  subst hp
  exact hK.1 _ _ _ _ _ _ hd ⟨rfl, z, st, rfl, h, by rw [hL]; exact k⟩
theorem k_is (hK : ra_Clo C mi b Q K) {x : Nat} {z : Int} (hd : decode b pc = .ok (.istore x, 2)) (hp : pc + 2 = q) (h : x < L.length) (hL : ra_st L x (vI z) = L2) (k : K q L2 st M) : K pc L (vI z :: st) M := by
  subst hp
  exact hK.1 _ _ _ _ _ _ hd ⟨rfl, z, st, rfl, h, by rw [hL]; exact k⟩
theorem k_lsn (hK : ra_Clo C mi b Q K) {x : Fin 4} {z : Int} (hd : decode b pc = .ok (.lstore_n x, 1)) (hp : pc + 1 = q) (h : (x : Nat) + 1 < L.length) (hL : ra_st2 L x (vJ z) = L2) (k : K q L2 st M) : K pc L (vJ z :: st) M := by
  subst hp
  exact hK.1 _ _ _ _ _ _ hd ⟨rfl, z, st, rfl, h, by rw [hL]; exact k⟩
theorem k_ls (hK : ra_Clo C mi b Q K) {x : Nat} {z : Int} (hd : decode b pc = .ok (.lstore x, 2)) (hp : pc + 2 = q) (h : x + 1 < L.length) (hL : ra_st2 L x (vJ z) = L2) (k : K q L2 st M) : K pc L (vJ z :: st) M := by
  subst hp
  exact hK.1 _ _ _ _ _ _ hd ⟨rfl, z, st, rfl, h, by rw [hL]; exact k⟩
theorem k_inc (hK : ra_Clo C mi b Q K) {x : Nat} {n z y : Int} (hd : decode b pc = .ok (.iinc x n, 3)) (hp : pc + 3 = q) (h : L[x]? = some (some (vI z))) (hy : z + n = y) (h2 : -2147483648 ≤ y ∧ y ≤ 2147483647) (hL : ra_st L x (vI y) = L2) (k : K q L2 St M) : K pc L (St) M := by
  subst hp
  exact hK.1 _ _ _ _ _ _ hd ⟨rfl, z, h, by rw [hy]; exact h2, by rw [hy, hL]; exact k⟩
theorem k_add (hK : ra_Clo C mi b Q K) {x y z : Int} (hd : decode b pc = .ok (.iadd, 1)) (hp : pc + 1 = q) (hz : x + y = z) (h : -2147483648 ≤ z ∧ z ≤ 2147483647) (k : K q L (vI z :: st) M) : K pc L (vI y :: vI x :: st) M := by
  subst hp
  exact hK.1 _ _ _ _ _ _ hd ⟨rfl, x, y, st, rfl, by rw [hz]; exact h, by rw [hz]; exact k⟩
theorem k_sub (hK : ra_Clo C mi b Q K) {x y z : Int} (hd : decode b pc = .ok (.isub, 1)) (hp : pc + 1 = q) (hz : x - y = z) (h : -2147483648 ≤ z ∧ z ≤ 2147483647) (k : K q L (vI z :: st) M) : K pc L (vI y :: vI x :: st) M := by
  subst hp
  exact hK.1 _ _ _ _ _ _ hd ⟨rfl, x, y, st, rfl, by rw [hz]; exact h, by rw [hz]; exact k⟩
theorem k_mul (hK : ra_Clo C mi b Q K) {x y z : Int} (hd : decode b pc = .ok (.imul, 1)) (hp : pc + 1 = q) (hz : x * y = z) (h : -2147483648 ≤ z ∧ z ≤ 2147483647) (k : K q L (vI z :: st) M) : K pc L (vI y :: vI x :: st) M := by
  subst hp
  exact hK.1 _ _ _ _ _ _ hd ⟨rfl, x, y, st, rfl, by rw [hz]; exact h, by rw [hz]; exact k⟩
theorem k_ladd (hK : ra_Clo C mi b Q K) {x y z : Int} (hd : decode b pc = .ok (.ladd, 1)) (hp : pc + 1 = q) (hz : x + y = z) (h : -9223372036854775808 ≤ z ∧ z ≤ 9223372036854775807) (k : K q L (vJ z :: st) M) : K pc L (vJ y :: vJ x :: st) M := by
  subst hp
  exact hK.1 _ _ _ _ _ _ hd ⟨rfl, x, y, st, rfl, by rw [hz]; exact h, by rw [hz]; exact k⟩
theorem k_lsub (hK : ra_Clo C mi b Q K) {x y z : Int} (hd : decode b pc = .ok (.lsub, 1)) (hp : pc + 1 = q) (hz : x - y = z) (h : -9223372036854775808 ≤ z ∧ z ≤ 9223372036854775807) (k : K q L (vJ z :: st) M) : K pc L (vJ y :: vJ x :: st) M := by
  subst hp
  exact hK.1 _ _ _ _ _ _ hd ⟨rfl, x, y, st, rfl, by rw [hz]; exact h, by rw [hz]; exact k⟩
theorem k_lmul (hK : ra_Clo C mi b Q K) {x y z : Int} (hd : decode b pc = .ok (.lmul, 1)) (hp : pc + 1 = q) (hz : x * y = z) (h : -9223372036854775808 ≤ z ∧ z ≤ 9223372036854775807) (k : K q L (vJ z :: st) M) : K pc L (vJ y :: vJ x :: st) M := by
  subst hp
  exact hK.1 _ _ _ _ _ _ hd ⟨rfl, x, y, st, rfl, by rw [hz]; exact h, by rw [hz]; exact k⟩
theorem k_neg (hK : ra_Clo C mi b Q K) {x z : Int} (hd : decode b pc = .ok (.ineg, 1)) (hp : pc + 1 = q) (hz : -x = z) (h : -2147483648 ≤ z ∧ z ≤ 2147483647) (k : K q L (vI z :: st) M) : K pc L (vI x :: st) M := by
  subst hp
  exact hK.1 _ _ _ _ _ _ hd ⟨rfl, x, st, rfl, by rw [hz]; exact h, by rw [hz]; exact k⟩
theorem k_div (hK : ra_Clo C mi b Q K) {x y z : Int} (hd : decode b pc = .ok (.idiv, 1)) (hp : pc + 1 = q) (h0 : y ≠ 0) (hz : x.tdiv y = z) (h : -2147483648 ≤ z ∧ z ≤ 2147483647) (k : K q L (vI z :: st) M) : K pc L (vI y :: vI x :: st) M := by
  subst hp
  exact hK.1 _ _ _ _ _ _ hd ⟨rfl, x, y, st, rfl, h0, by rw [hz]; exact h, by rw [hz]; exact k⟩
theorem k_rem (hK : ra_Clo C mi b Q K) {x y z : Int} (hd : decode b pc = .ok (.irem, 1)) (hp : pc + 1 = q) (h0 : y ≠ 0) (hz : x.tmod y = z) (h : -2147483648 ≤ z ∧ z ≤ 2147483647) (k : K q L (vI z :: st) M) : K pc L (vI y :: vI x :: st) M := by
  subst hp
  exact hK.1 _ _ _ _ _ _ hd ⟨rfl, x, y, st, rfl, h0, by rw [hz]; exact h, by rw [hz]; exact k⟩
theorem k_ldiv (hK : ra_Clo C mi b Q K) {x y z : Int} (hd : decode b pc = .ok (.ldiv, 1)) (hp : pc + 1 = q) (h0 : y ≠ 0) (hz : x.tdiv y = z) (h : -9223372036854775808 ≤ z ∧ z ≤ 9223372036854775807) (k : K q L (vJ z :: st) M) : K pc L (vJ y :: vJ x :: st) M := by
  subst hp
  exact hK.1 _ _ _ _ _ _ hd ⟨rfl, x, y, st, rfl, h0, by rw [hz]; exact h, by rw [hz]; exact k⟩
theorem k_and (hK : ra_Clo C mi b Q K) {x y z : Int} {m n : Nat} (hd : decode b pc = .ok (.iand, 1)) (hp : pc + 1 = q) (hx : x = m) (hy : y = n) (hz : z = ((m &&& n : Nat) : Int)) (k : K q L (vI z :: st) M) : K pc L (vI y :: vI x :: st) M := by
  subst hp
  exact hK.1 _ _ _ _ _ _ hd ⟨rfl, m, n, st, by rw [hx, hy], by rw [← hz]; exact k⟩
theorem k_or (hK : ra_Clo C mi b Q K) {x y z : Int} {m n : Nat} (hd : decode b pc = .ok (.ior, 1)) (hp : pc + 1 = q) (hx : x = m) (hy : y = n) (hz : z = ((m ||| n : Nat) : Int)) (k : K q L (vI z :: st) M) : K pc L (vI y :: vI x :: st) M := by
  subst hp
  exact hK.1 _ _ _ _ _ _ hd ⟨rfl, m, n, st, by rw [hx, hy], by rw [← hz]; exact k⟩
theorem k_shl (hK : ra_Clo C mi b Q K) {x y z : Int} {m n : Nat} (hd : decode b pc = .ok (.ishl, 1)) (hp : pc + 1 = q) (hx : x = m) (hy : y = n) (h1 : n < 31) (h2 : m * 2 ^ n < 2147483648) (hz : z = ((m * 2 ^ n : Nat) : Int)) (k : K q L (vI z :: st) M) : K pc L (vI y :: vI x :: st) M := by
  subst hp
  exact hK.1 _ _ _ _ _ _ hd ⟨rfl, m, n, st, by rw [hx, hy], h1, h2, by rw [← hz]; exact k⟩
theorem k_shr (hK : ra_Clo C mi b Q K) {x y z : Int} {m n : Nat} (hd : decode b pc = .ok (.ishr, 1)) (hp : pc + 1 = q) (hx : x = m) (hy : y = n) (h1 : n < 31) (hz : z = ((m / 2 ^ n : Nat) : Int)) (k : K q L (vI z :: st) M) : K pc L (vI y :: vI x :: st) M := by
  subst hp
  exact hK.1 _ _ _ _ _ _ hd ⟨rfl, m, n, st, by rw [hx, hy], h1, by rw [← hz]; exact k⟩
theorem k_i2l (hK : ra_Clo C mi b Q K) {x : Int} (hd : decode b pc = .ok (.i2l, 1)) (hp : pc + 1 = q) (k : K q L (vJ x :: st) M) : K pc L (vI x :: st) M := by
  subst hp
  exact hK.1 _ _ _ _ _ _ hd ⟨rfl, x, st, rfl, k⟩
theorem k_lxor (hK : ra_Clo C mi b Q K) {x y : Int} (hd : decode b pc = .ok (.lxor, 1)) (hp : pc + 1 = q) (k : ∀ z, in64 z → (z < 0 ↔ ¬ (x < 0 ↔ y < 0)) → K q L (vJ z :: st) M) : K pc L (vJ y :: vJ x :: st) M := by
  subst hp
  exact hK.1 _ _ _ _ _ _ hd ⟨rfl, x, y, st, rfl, k⟩
theorem k_lcmp (hK : ra_Clo C mi b Q K) {x y : Int} (hd : decode b pc = .ok (.lcmp, 1)) (hp : pc + 1 = q) (k : K q L (vI (if y < x then 1 else if x = y then 0 else -1) :: st) M) : K pc L (vJ y :: vJ x :: st) M := by
  subst hp
  exact hK.1 _ _ _ _ _ _ hd ⟨rfl, x, y, st, rfl, k⟩
theorem k_dup (hK : ra_Clo C mi b Q K) {v : ra_V} (hd : decode b pc = .ok (.dup, 1)) (hp : pc + 1 = q) (h : ra_lng (some (some v)) = false) (k : K q L (v :: v :: st) M) : K pc L (v :: st) M := by
  subst hp
  exact hK.1 _ _ _ _ _ _ hd ⟨rfl, v, st, rfl, h, k⟩
theorem k_dup2 (hK : ra_Clo C mi b Q K) {v w : ra_V} (hd : decode b pc = .ok (.dup2, 1)) (hp : pc + 1 = q) (h : ra_lng (some (some v)) = false) (h2 : ra_lng (some (some w)) = false) (k : K q L (v :: w :: v :: w :: st) M) : K pc L (v :: w :: st) M := by
  subst hp
  exact hK.1 _ _ _ _ _ _ hd ⟨rfl, v, w, st, rfl, h, h2, k⟩
theorem k_pop (hK : ra_Clo C mi b Q K) {v : ra_V} (hd : decode b pc = .ok (.pop, 1)) (hp : pc + 1 = q) (h : ra_lng (some (some v)) = false) (k : K q L st M) : K pc L (v :: st) M := by
  subst hp
  exact hK.1 _ _ _ _ _ _ hd ⟨rfl, v, st, rfl, h, k⟩
theorem k_ifeq (hK : ra_Clo C mi b Q K) {z off : Int} {t : Nat} (hd : decode b pc = .ok (.ifCond .eq off, 3)) (hp : pc + 3 = q) (ht : (pc : Int) + off = (t : Nat)) (k1 : z = 0 → K t L st M) (k2 : ¬ z = 0 → K q L st M) : K pc L (vI z :: st) M := by
  subst hp
  exact hK.1 _ _ _ _ _ _ hd ⟨rfl, z, st, t, rfl, ht, k1, k2⟩
theorem k_ifne (hK : ra_Clo C mi b Q K) {z off : Int} {t : Nat} (hd : decode b pc = .ok (.ifCond .ne off, 3)) (hp : pc + 3 = q) (ht : (pc : Int) + off = (t : Nat)) (k1 : ¬ z = 0 → K t L st M) (k2 : z = 0 → K q L st M) : K pc L (vI z :: st) M := by
  subst hp
  exact hK.1 _ _ _ _ _ _ hd ⟨rfl, z, st, t, rfl, ht, k1, k2⟩
theorem k_iflt (hK : ra_Clo C mi b Q K) {z off : Int} {t : Nat} (hd : decode b pc = .ok (.ifCond .lt off, 3)) (hp : pc + 3 = q) (ht : (pc : Int) + off = (t : Nat)) (k1 : z < 0 → K t L st M) (k2 : ¬ z < 0 → K q L st M) : K pc L (vI z :: st) M := by
  subst hp
  exact hK.1 _ _ _ _ _ _ hd ⟨rfl, z, st, t, rfl, ht, k1, k2⟩
theorem k_ifge (hK : ra_Clo C mi b Q K) {z off : Int} {t : Nat} (hd : decode b pc = .ok (.ifCond .ge off, 3)) (hp : pc + 3 = q) (ht : (pc : Int) + off = (t : Nat)) (k1 : 0 ≤ z → K t L st M) (k2 : ¬ 0 ≤ z → K q L st M) : K pc L (vI z :: st) M := by
  subst hp
  exact hK.1 _ _ _ _ _ _ hd ⟨rfl, z, st, t, rfl, ht, k1, k2⟩
theorem k_ifgt (hK : ra_Clo C mi b Q K) {z off : Int} {t : Nat} (hd : decode b pc = .ok (.ifCond .gt off, 3)) (hp : pc + 3 = q) (ht : (pc : Int) + off = (t : Nat)) (k1 : 0 < z → K t L st M) (k2 : ¬ 0 < z → K q L st M) : K pc L (vI z :: st) M := by
  subst hp
  exact hK.1 _ _ _ _ _ _ hd ⟨rfl, z, st, t, rfl, ht, k1, k2⟩
theorem k_ifle (hK : ra_Clo C mi b Q K) {z off : Int} {t : Nat} (hd : decode b pc = .ok (.ifCond .le off, 3)) (hp : pc + 3 = q) (ht : (pc : Int) + off = (t : Nat)) (k1 : z ≤ 0 → K t L st M) (k2 : ¬ z ≤ 0 → K q L st M) : K pc L (vI z :: st) M := by
  subst hp
  exact hK.1 _ _ _ _ _ _ hd ⟨rfl, z, st, t, rfl, ht, k1, k2⟩
theorem k_ceq (hK : ra_Clo C mi b Q K) {x y off : Int} {t : Nat} (hd : decode b pc = .ok (.if_icmp .eq off, 3)) (hp : pc + 3 = q) (ht : (pc : Int) + off = (t : Nat)) (k1 : x = y → K t L st M) (k2 : ¬ x = y → K q L st M) : K pc L (vI y :: vI x :: st) M := by
  subst hp
  exact hK.1 _ _ _ _ _ _ hd ⟨rfl, x, y, st, t, rfl, ht, k1, k2⟩
theorem k_cne (hK : ra_Clo C mi b Q K) {x y off : Int} {t : Nat} (hd : decode b pc = .ok (.if_icmp .ne off, 3)) (hp : pc + 3 = q) (ht : (pc : Int) + off = (t : Nat)) (k1 : ¬ x = y → K t L st M) (k2 : x = y → K q L st M) : K pc L (vI y :: vI x :: st) M := by
  subst hp
  exact hK.1 _ _ _ _ _ _ hd ⟨rfl, x, y, st, t, rfl, ht, k1, k2⟩
theorem k_clt (hK : ra_Clo C mi b Q K) {x y off : Int} {t : Nat} (hd : decode b pc = .ok (.if_icmp .lt off, 3)) (hp : pc + 3 = q) (ht : (pc : Int) + off = (t : Nat)) (k1 : x < y → K t L st M) (k2 : ¬ x < y → K q L st M) : K pc L (vI y :: vI x :: st) M := by
  subst hp
  exact hK.1 _ _ _ _ _ _ hd ⟨rfl, x, y, st, t, rfl, ht, k1, k2⟩
theorem k_cge (hK : ra_Clo C mi b Q K) {x y off : Int} {t : Nat} (hd : decode b pc = .ok (.if_icmp .ge off, 3)) (hp : pc + 3 = q) (ht : (pc : Int) + off = (t : Nat)) (k1 : y ≤ x → K t L st M) (k2 : ¬ y ≤ x → K q L st M) : K pc L (vI y :: vI x :: st) M := by
  subst hp
  exact hK.1 _ _ _ _ _ _ hd ⟨rfl, x, y, st, t, rfl, ht, k1, k2⟩
theorem k_cgt (hK : ra_Clo C mi b Q K) {x y off : Int} {t : Nat} (hd : decode b pc = .ok (.if_icmp .gt off, 3)) (hp : pc + 3 = q) (ht : (pc : Int) + off = (t : Nat)) (k1 : y < x → K t L st M) (k2 : ¬ y < x → K q L st M) : K pc L (vI y :: vI x :: st) M := by
  subst hp
  exact hK.1 _ _ _ _ _ _ hd ⟨rfl, x, y, st, t, rfl, ht, k1, k2⟩
theorem k_cle (hK : ra_Clo C mi b Q K) {x y off : Int} {t : Nat} (hd : decode b pc = .ok (.if_icmp .le off, 3)) (hp : pc + 3 = q) (ht : (pc : Int) + off = (t : Nat)) (k1 : x ≤ y → K t L st M) (k2 : ¬ x ≤ y → K q L st M) : K pc L (vI y :: vI x :: st) M := by
  subst hp
  exact hK.1 _ _ _ _ _ _ hd ⟨rfl, x, y, st, t, rfl, ht, k1, k2⟩
theorem k_goto (hK : ra_Clo C mi b Q K) {off : Int} {t : Nat} (hd : decode b pc = .ok (.goto off, 3)) (ht : (pc : Int) + off = (t : Nat)) (k : K t L St M) : K pc L St M := hK.1 _ _ _ _ _ _ hd ⟨rfl, t, ht, k⟩
theorem k_ts (hK : ra_Clo C mi b Q K) {z dflt lo hi : Int} {offs : Array Int} {len : Nat} (hd : decode b pc = .ok (.tableswitch dflt lo hi offs, len)) (k1 : (z < lo ∨ hi < z) → ∃ tgt, (pc : Int) + dflt = (tgt : Nat) ∧ K tgt L st M) (k2 : ¬ (z < lo ∨ hi < z) → ∃ off tgt, offs[(z - lo).toNat]? = some off ∧ (pc : Int) + off = (tgt : Nat) ∧ K tgt L st M) : K pc L (vI z :: st) M := hK.1 _ _ _ _ _ _ hd ⟨z, st, rfl, k1, k2⟩
theorem k_gI (hK : ra_Clo C mi b Q K) {x k0 ci j : Nat} {z : Int} {ks : List Nat} (kd : Nat) (hd : decode b pc = .ok (.getfield x, 3)) (hp : pc + 3 = q) (hF : ra_F (mY mi).cls x ci j) (hs : SH[k0]? = some (.inr (ci, ks))) (hk : ks[j]? = some kd) (hkd : ra_fa kd z = vI z) (hz : M k0 (j : Nat) = z) (k : K q L (vI z :: st) M) : K pc L (vR k0 :: st) M := by
  subst hp
  exact hK.1 _ _ _ _ _ _ hd ⟨rfl, k0, st, ci, ks, j, kd, rfl, hF, hs, hk, by rw [hz, hkd]; exact k⟩
theorem k_gR (hK : ra_Clo C mi b Q K) {x k0 ci j r : Nat} {ks : List Nat} (hd : decode b pc = .ok (.getfield x, 3)) (hp : pc + 3 = q) (hF : ra_F (mY mi).cls x ci j) (hs : SH[k0]? = some (.inr (ci, ks))) (hk : ks[j]? = some (r + 2)) (k : K q L (vR r :: st) M) : K pc L (vR k0 :: st) M := by
  subst hp
  exact hK.1 _ _ _ _ _ _ hd ⟨rfl, k0, st, ci, ks, j, r + 2, rfl, hF, hs, hk, k⟩
theorem k_pI (hK : ra_Clo C mi b Q K) {x k0 ci j : Nat} {z : Int} {ks : List Nat} (hd : decode b pc = .ok (.putfield x, 3)) (hp : pc + 3 = q) (hF : ra_FP (mY mi).cls x ci j 0) (hs : SH[k0]? = some (.inr (ci, ks))) (hk : ks[j]? = some 0) (hM : up M k0 (j : Nat) z = M2) (k : K q L st M2) : K pc L (vI z :: vR k0 :: st) M := by
  subst hp
  exact hK.1 _ _ _ _ _ _ hd ⟨rfl, z, k0, st, ci, ks, j, 0, rfl, hF, hs, hk, Or.inl rfl, by rw [hM]; exact k⟩
theorem k_pZ (hK : ra_Clo C mi b Q K) {x k0 ci j : Nat} {z : Int} {ks : List Nat} (hd : decode b pc = .ok (.putfield x, 3)) (hp : pc + 3 = q) (hF : ra_FP (mY mi).cls x ci j 1) (hs : SH[k0]? = some (.inr (ci, ks))) (hk : ks[j]? = some 1) (hz : z = 0 ∨ z = 1) (hM : up M k0 (j : Nat) z = M2) (k : K q L st M2) : K pc L (vI z :: vR k0 :: st) M := by
  subst hp
  exact hK.1 _ _ _ _ _ _ hd ⟨rfl, z, k0, st, ci, ks, j, 1, rfl, hF, hs, hk, Or.inr ⟨rfl, hz⟩, by rw [hM]; exact k⟩
theorem k_gs (hK : ra_Clo C mi b Q K) {x : Nat} (hd : decode b pc = .ok (.getstatic x, 3)) (hp : pc + 3 = q) (hG : ra_G (mY mi).cls x) (k : K q L (vR roP :: St) M) : K pc L (St) M := by
  subst hp
  exact hK.1 _ _ _ _ _ _ hd ⟨rfl, hG, k⟩
theorem k_ald (hK : ra_Clo C mi b Q K) {k0 n : Nat} {z y : Int} (hd : decode b pc = .ok (.iaload, 1)) (hp : pc + 1 = q) (hs : SH[k0]? = some (.inl n)) (h : 0 ≤ z ∧ z < (n : Nat)) (hy : M k0 z = y) (k : K q L (vI y :: st) M) : K pc L (vI z :: vR k0 :: st) M := by
  subst hp
  exact hK.1 _ _ _ _ _ _ hd ⟨rfl, z, k0, st, rfl, Or.inl ⟨n, hs, h.1, h.2, by rw [hy]; exact k⟩⟩
theorem k_aldR (hK : ra_Clo C mi b Q K) {z : Int} (hd : decode b pc = .ok (.iaload, 1)) (hp : pc + 1 = q) (h : 0 ≤ z ∧ z < 5) (k : K q L (vI (ra_fc z) :: st) M) : K pc L (vI z :: vR roP :: st) M := by
  subst hp
  exact hK.1 _ _ _ _ _ _ hd ⟨rfl, z, roP, st, rfl, Or.inr ⟨rfl, h.1, h.2, k⟩⟩
theorem k_ast (hK : ra_Clo C mi b Q K) {k0 n : Nat} {z y : Int} (hd : decode b pc = .ok (.iastore, 1)) (hp : pc + 1 = q) (hs : SH[k0]? = some (.inl n)) (h : 0 ≤ z ∧ z < (n : Nat)) (k : K q L st (up M k0 z y)) : K pc L (vI y :: vI z :: vR k0 :: st) M := by
  subst hp
  exact hK.1 _ _ _ _ _ _ hd ⟨rfl, y, z, k0, st, n, rfl, hs, h.1, h.2, k⟩
theorem k_len (hK : ra_Clo C mi b Q K) {k0 n : Nat} {z : Int} (hd : decode b pc = .ok (.arraylength, 1)) (hp : pc + 1 = q) (hs : SH[k0]? = some (.inl n)) (hz : ((n : Nat) : Int) = z) (k : K q L (vI z :: st) M) : K pc L (vR k0 :: st) M := by
  subst hp
  exact hK.1 _ _ _ _ _ _ hd ⟨rfl, k0, st, rfl, Or.inl ⟨n, hs, by rw [hz]; exact k⟩⟩
theorem k_lenR (hK : ra_Clo C mi b Q K) (hd : decode b pc = .ok (.arraylength, 1)) (hp : pc + 1 = q) (k : K q L (vI 5 :: st) M) : K pc L (vR roP :: st) M := by
  subst hp
  exact hK.1 _ _ _ _ _ _ hd ⟨rfl, roP, st, rfl, Or.inr ⟨rfl, k⟩⟩
theorem k_iv0 (hK : ra_Clo (Ex d) mi b Q K) {x k0 ci mj N : Nat} {ks : List Nat} {T : u_T} {P : Option ra_V → ra_M → Prop} (hd : decode b pc = .ok (.invokevirtual x, 3)) (hp : pc + 3 = q) (hm : ra_CV (mY mi).cls x mj 0) (hs : SH[k0]? = some (.inr (ci, ks))) (hc : vwCl[ci]? = some ((mY mj).cls, T, N)) (hl : st.length ≤ 4) (hE : Ex d mj [vR k0] M P) (k : ∀ r M2, P r M2 → K q L (r.toList ++ st) M2) : K pc L (vR k0 :: st) M := by
  subst hp
  exact hK.1 _ _ _ _ _ _ hd ⟨rfl, mj, [], k0, st, ci, ks, T, N, rfl, hm, hs, hc, hl, Ex_mono _ _ _ _ hE k⟩
theorem k_st0 (hK : ra_Clo (Ex d) mi b Q K) {x mj : Nat} {P : Option ra_V → ra_M → Prop} (hd : decode b pc = .ok (.invokestatic x, 3)) (hp : pc + 3 = q) (hm : ra_CS (mY mi).cls x mj 0) (hl : st.length ≤ 4) (hE : Ex d mj [] M P) (k : ∀ r M2, P r M2 → K q L (r.toList ++ st) M2) : K pc L (st) M := by
  subst hp
  exact hK.1 _ _ _ _ _ _ hd ⟨rfl, mj, [], st, rfl, hm, hl, Ex_mono _ _ _ _ hE k⟩
theorem k_iv0I (hK : ra_Clo (Ex d) mi b Q K) {v : Int} {x k0 ci mj N : Nat} {ks : List Nat} {T : u_T} (hd : decode b pc = .ok (.invokevirtual x, 3)) (hp : pc + 3 = q) (hm : ra_CV (mY mi).cls x mj 0) (hs : SH[k0]? = some (.inr (ci, ks))) (hc : vwCl[ci]? = some ((mY mj).cls, T, N)) (hl : st.length ≤ 4) (hE : Ex d mj [vR k0] M (fun r M3 => r = some (vI v) ∧ M3 = M2)) (k : K q L (vI v :: st) M2) : K pc L (vR k0 :: st) M := k_iv0 hK hd hp hm hs hc hl hE (fun r M3 h => by obtain ⟨rfl, rfl⟩ := h; exact k)
theorem k_st0I (hK : ra_Clo (Ex d) mi b Q K) {v : Int} {x mj : Nat} (hd : decode b pc = .ok (.invokestatic x, 3)) (hp : pc + 3 = q) (hm : ra_CS (mY mi).cls x mj 0) (hl : st.length ≤ 4) (hE : Ex d mj [] M (fun r M3 => r = some (vI v) ∧ M3 = M2)) (k : K q L (vI v :: st) M2) : K pc L (st) M := k_st0 hK hd hp hm hl hE (fun r M3 h => by obtain ⟨rfl, rfl⟩ := h; exact k)
theorem k_iv0J (hK : ra_Clo (Ex d) mi b Q K) {v : Int} {x k0 ci mj N : Nat} {ks : List Nat} {T : u_T} (hd : decode b pc = .ok (.invokevirtual x, 3)) (hp : pc + 3 = q) (hm : ra_CV (mY mi).cls x mj 0) (hs : SH[k0]? = some (.inr (ci, ks))) (hc : vwCl[ci]? = some ((mY mj).cls, T, N)) (hl : st.length ≤ 4) (hE : Ex d mj [vR k0] M (fun r M3 => r = some (vJ v) ∧ M3 = M2)) (k : K q L (vJ v :: st) M2) : K pc L (vR k0 :: st) M := k_iv0 hK hd hp hm hs hc hl hE (fun r M3 h => by obtain ⟨rfl, rfl⟩ := h; exact k)
theorem k_st0J (hK : ra_Clo (Ex d) mi b Q K) {v : Int} {x mj : Nat} (hd : decode b pc = .ok (.invokestatic x, 3)) (hp : pc + 3 = q) (hm : ra_CS (mY mi).cls x mj 0) (hl : st.length ≤ 4) (hE : Ex d mj [] M (fun r M3 => r = some (vJ v) ∧ M3 = M2)) (k : K q L (vJ v :: st) M2) : K pc L (st) M := k_st0 hK hd hp hm hl hE (fun r M3 h => by obtain ⟨rfl, rfl⟩ := h; exact k)
theorem k_iv0V (hK : ra_Clo (Ex d) mi b Q K) {x k0 ci mj N : Nat} {ks : List Nat} {T : u_T} (hd : decode b pc = .ok (.invokevirtual x, 3)) (hp : pc + 3 = q) (hm : ra_CV (mY mi).cls x mj 0) (hs : SH[k0]? = some (.inr (ci, ks))) (hc : vwCl[ci]? = some ((mY mj).cls, T, N)) (hl : st.length ≤ 4) (hE : Ex d mj [vR k0] M (fun r M3 => r = none ∧ M3 = M2)) (k : K q L (st) M2) : K pc L (vR k0 :: st) M := k_iv0 hK hd hp hm hs hc hl hE (fun r M3 h => by obtain ⟨rfl, rfl⟩ := h; exact k)
theorem k_st0V (hK : ra_Clo (Ex d) mi b Q K) {x mj : Nat} (hd : decode b pc = .ok (.invokestatic x, 3)) (hp : pc + 3 = q) (hm : ra_CS (mY mi).cls x mj 0) (hl : st.length ≤ 4) (hE : Ex d mj [] M (fun r M3 => r = none ∧ M3 = M2)) (k : K q L (st) M2) : K pc L (st) M := k_st0 hK hd hp hm hl hE (fun r M3 h => by obtain ⟨rfl, rfl⟩ := h; exact k)
theorem k_iv1 (hK : ra_Clo (Ex d) mi b Q K) {x1 : ra_V} {x k0 ci mj N : Nat} {ks : List Nat} {T : u_T} {P : Option ra_V → ra_M → Prop} (hd : decode b pc = .ok (.invokevirtual x, 3)) (hp : pc + 3 = q) (hm : ra_CV (mY mi).cls x mj 1) (hs : SH[k0]? = some (.inr (ci, ks))) (hc : vwCl[ci]? = some ((mY mj).cls, T, N)) (hl : st.length ≤ 4) (hE : Ex d mj [vR k0, x1] M P) (k : ∀ r M2, P r M2 → K q L (r.toList ++ st) M2) : K pc L (x1 :: vR k0 :: st) M := by
  subst hp
  exact hK.1 _ _ _ _ _ _ hd ⟨rfl, mj, [x1], k0, st, ci, ks, T, N, rfl, hm, hs, hc, hl, Ex_mono _ _ _ _ hE k⟩
theorem k_st1 (hK : ra_Clo (Ex d) mi b Q K) {x1 : ra_V} {x mj : Nat} {P : Option ra_V → ra_M → Prop} (hd : decode b pc = .ok (.invokestatic x, 3)) (hp : pc + 3 = q) (hm : ra_CS (mY mi).cls x mj 1) (hl : st.length ≤ 4) (hE : Ex d mj [x1] M P) (k : ∀ r M2, P r M2 → K q L (r.toList ++ st) M2) : K pc L (x1 :: st) M := by
  subst hp
  exact hK.1 _ _ _ _ _ _ hd ⟨rfl, mj, [x1], st, rfl, hm, hl, Ex_mono _ _ _ _ hE k⟩
theorem k_iv1I (hK : ra_Clo (Ex d) mi b Q K) {x1 : ra_V} {v : Int} {x k0 ci mj N : Nat} {ks : List Nat} {T : u_T} (hd : decode b pc = .ok (.invokevirtual x, 3)) (hp : pc + 3 = q) (hm : ra_CV (mY mi).cls x mj 1) (hs : SH[k0]? = some (.inr (ci, ks))) (hc : vwCl[ci]? = some ((mY mj).cls, T, N)) (hl : st.length ≤ 4) (hE : Ex d mj [vR k0, x1] M (fun r M3 => r = some (vI v) ∧ M3 = M2)) (k : K q L (vI v :: st) M2) : K pc L (x1 :: vR k0 :: st) M := k_iv1 hK hd hp hm hs hc hl hE (fun r M3 h => by obtain ⟨rfl, rfl⟩ := h; exact k)
theorem k_st1I (hK : ra_Clo (Ex d) mi b Q K) {x1 : ra_V} {v : Int} {x mj : Nat} (hd : decode b pc = .ok (.invokestatic x, 3)) (hp : pc + 3 = q) (hm : ra_CS (mY mi).cls x mj 1) (hl : st.length ≤ 4) (hE : Ex d mj [x1] M (fun r M3 => r = some (vI v) ∧ M3 = M2)) (k : K q L (vI v :: st) M2) : K pc L (x1 :: st) M := k_st1 hK hd hp hm hl hE (fun r M3 h => by obtain ⟨rfl, rfl⟩ := h; exact k)
theorem k_iv1J (hK : ra_Clo (Ex d) mi b Q K) {x1 : ra_V} {v : Int} {x k0 ci mj N : Nat} {ks : List Nat} {T : u_T} (hd : decode b pc = .ok (.invokevirtual x, 3)) (hp : pc + 3 = q) (hm : ra_CV (mY mi).cls x mj 1) (hs : SH[k0]? = some (.inr (ci, ks))) (hc : vwCl[ci]? = some ((mY mj).cls, T, N)) (hl : st.length ≤ 4) (hE : Ex d mj [vR k0, x1] M (fun r M3 => r = some (vJ v) ∧ M3 = M2)) (k : K q L (vJ v :: st) M2) : K pc L (x1 :: vR k0 :: st) M := k_iv1 hK hd hp hm hs hc hl hE (fun r M3 h => by obtain ⟨rfl, rfl⟩ := h; exact k)
theorem k_st1J (hK : ra_Clo (Ex d) mi b Q K) {x1 : ra_V} {v : Int} {x mj : Nat} (hd : decode b pc = .ok (.invokestatic x, 3)) (hp : pc + 3 = q) (hm : ra_CS (mY mi).cls x mj 1) (hl : st.length ≤ 4) (hE : Ex d mj [x1] M (fun r M3 => r = some (vJ v) ∧ M3 = M2)) (k : K q L (vJ v :: st) M2) : K pc L (x1 :: st) M := k_st1 hK hd hp hm hl hE (fun r M3 h => by obtain ⟨rfl, rfl⟩ := h; exact k)
theorem k_iv1V (hK : ra_Clo (Ex d) mi b Q K) {x1 : ra_V} {x k0 ci mj N : Nat} {ks : List Nat} {T : u_T} (hd : decode b pc = .ok (.invokevirtual x, 3)) (hp : pc + 3 = q) (hm : ra_CV (mY mi).cls x mj 1) (hs : SH[k0]? = some (.inr (ci, ks))) (hc : vwCl[ci]? = some ((mY mj).cls, T, N)) (hl : st.length ≤ 4) (hE : Ex d mj [vR k0, x1] M (fun r M3 => r = none ∧ M3 = M2)) (k : K q L (st) M2) : K pc L (x1 :: vR k0 :: st) M := k_iv1 hK hd hp hm hs hc hl hE (fun r M3 h => by obtain ⟨rfl, rfl⟩ := h; exact k)
theorem k_st1V (hK : ra_Clo (Ex d) mi b Q K) {x1 : ra_V} {x mj : Nat} (hd : decode b pc = .ok (.invokestatic x, 3)) (hp : pc + 3 = q) (hm : ra_CS (mY mi).cls x mj 1) (hl : st.length ≤ 4) (hE : Ex d mj [x1] M (fun r M3 => r = none ∧ M3 = M2)) (k : K q L (st) M2) : K pc L (x1 :: st) M := k_st1 hK hd hp hm hl hE (fun r M3 h => by obtain ⟨rfl, rfl⟩ := h; exact k)
theorem k_iv2 (hK : ra_Clo (Ex d) mi b Q K) {x1 x2 : ra_V} {x k0 ci mj N : Nat} {ks : List Nat} {T : u_T} {P : Option ra_V → ra_M → Prop} (hd : decode b pc = .ok (.invokevirtual x, 3)) (hp : pc + 3 = q) (hm : ra_CV (mY mi).cls x mj 2) (hs : SH[k0]? = some (.inr (ci, ks))) (hc : vwCl[ci]? = some ((mY mj).cls, T, N)) (hl : st.length ≤ 4) (hE : Ex d mj [vR k0, x1, x2] M P) (k : ∀ r M2, P r M2 → K q L (r.toList ++ st) M2) : K pc L (x2 :: x1 :: vR k0 :: st) M := by
  subst hp
  exact hK.1 _ _ _ _ _ _ hd ⟨rfl, mj, [x1, x2], k0, st, ci, ks, T, N, rfl, hm, hs, hc, hl, Ex_mono _ _ _ _ hE k⟩
theorem k_st2 (hK : ra_Clo (Ex d) mi b Q K) {x1 x2 : ra_V} {x mj : Nat} {P : Option ra_V → ra_M → Prop} (hd : decode b pc = .ok (.invokestatic x, 3)) (hp : pc + 3 = q) (hm : ra_CS (mY mi).cls x mj 2) (hl : st.length ≤ 4) (hE : Ex d mj [x1, x2] M P) (k : ∀ r M2, P r M2 → K q L (r.toList ++ st) M2) : K pc L (x2 :: x1 :: st) M := by
  subst hp
  exact hK.1 _ _ _ _ _ _ hd ⟨rfl, mj, [x1, x2], st, rfl, hm, hl, Ex_mono _ _ _ _ hE k⟩
theorem k_iv2I (hK : ra_Clo (Ex d) mi b Q K) {x1 x2 : ra_V} {v : Int} {x k0 ci mj N : Nat} {ks : List Nat} {T : u_T} (hd : decode b pc = .ok (.invokevirtual x, 3)) (hp : pc + 3 = q) (hm : ra_CV (mY mi).cls x mj 2) (hs : SH[k0]? = some (.inr (ci, ks))) (hc : vwCl[ci]? = some ((mY mj).cls, T, N)) (hl : st.length ≤ 4) (hE : Ex d mj [vR k0, x1, x2] M (fun r M3 => r = some (vI v) ∧ M3 = M2)) (k : K q L (vI v :: st) M2) : K pc L (x2 :: x1 :: vR k0 :: st) M := k_iv2 hK hd hp hm hs hc hl hE (fun r M3 h => by obtain ⟨rfl, rfl⟩ := h; exact k)
theorem k_st2I (hK : ra_Clo (Ex d) mi b Q K) {x1 x2 : ra_V} {v : Int} {x mj : Nat} (hd : decode b pc = .ok (.invokestatic x, 3)) (hp : pc + 3 = q) (hm : ra_CS (mY mi).cls x mj 2) (hl : st.length ≤ 4) (hE : Ex d mj [x1, x2] M (fun r M3 => r = some (vI v) ∧ M3 = M2)) (k : K q L (vI v :: st) M2) : K pc L (x2 :: x1 :: st) M := k_st2 hK hd hp hm hl hE (fun r M3 h => by obtain ⟨rfl, rfl⟩ := h; exact k)
theorem k_iv2J (hK : ra_Clo (Ex d) mi b Q K) {x1 x2 : ra_V} {v : Int} {x k0 ci mj N : Nat} {ks : List Nat} {T : u_T} (hd : decode b pc = .ok (.invokevirtual x, 3)) (hp : pc + 3 = q) (hm : ra_CV (mY mi).cls x mj 2) (hs : SH[k0]? = some (.inr (ci, ks))) (hc : vwCl[ci]? = some ((mY mj).cls, T, N)) (hl : st.length ≤ 4) (hE : Ex d mj [vR k0, x1, x2] M (fun r M3 => r = some (vJ v) ∧ M3 = M2)) (k : K q L (vJ v :: st) M2) : K pc L (x2 :: x1 :: vR k0 :: st) M := k_iv2 hK hd hp hm hs hc hl hE (fun r M3 h => by obtain ⟨rfl, rfl⟩ := h; exact k)
theorem k_st2J (hK : ra_Clo (Ex d) mi b Q K) {x1 x2 : ra_V} {v : Int} {x mj : Nat} (hd : decode b pc = .ok (.invokestatic x, 3)) (hp : pc + 3 = q) (hm : ra_CS (mY mi).cls x mj 2) (hl : st.length ≤ 4) (hE : Ex d mj [x1, x2] M (fun r M3 => r = some (vJ v) ∧ M3 = M2)) (k : K q L (vJ v :: st) M2) : K pc L (x2 :: x1 :: st) M := k_st2 hK hd hp hm hl hE (fun r M3 h => by obtain ⟨rfl, rfl⟩ := h; exact k)
theorem k_iv2V (hK : ra_Clo (Ex d) mi b Q K) {x1 x2 : ra_V} {x k0 ci mj N : Nat} {ks : List Nat} {T : u_T} (hd : decode b pc = .ok (.invokevirtual x, 3)) (hp : pc + 3 = q) (hm : ra_CV (mY mi).cls x mj 2) (hs : SH[k0]? = some (.inr (ci, ks))) (hc : vwCl[ci]? = some ((mY mj).cls, T, N)) (hl : st.length ≤ 4) (hE : Ex d mj [vR k0, x1, x2] M (fun r M3 => r = none ∧ M3 = M2)) (k : K q L (st) M2) : K pc L (x2 :: x1 :: vR k0 :: st) M := k_iv2 hK hd hp hm hs hc hl hE (fun r M3 h => by obtain ⟨rfl, rfl⟩ := h; exact k)
theorem k_st2V (hK : ra_Clo (Ex d) mi b Q K) {x1 x2 : ra_V} {x mj : Nat} (hd : decode b pc = .ok (.invokestatic x, 3)) (hp : pc + 3 = q) (hm : ra_CS (mY mi).cls x mj 2) (hl : st.length ≤ 4) (hE : Ex d mj [x1, x2] M (fun r M3 => r = none ∧ M3 = M2)) (k : K q L (st) M2) : K pc L (x2 :: x1 :: st) M := k_st2 hK hd hp hm hl hE (fun r M3 h => by obtain ⟨rfl, rfl⟩ := h; exact k)
theorem k_iv3 (hK : ra_Clo (Ex d) mi b Q K) {x1 x2 x3 : ra_V} {x k0 ci mj N : Nat} {ks : List Nat} {T : u_T} {P : Option ra_V → ra_M → Prop} (hd : decode b pc = .ok (.invokevirtual x, 3)) (hp : pc + 3 = q) (hm : ra_CV (mY mi).cls x mj 3) (hs : SH[k0]? = some (.inr (ci, ks))) (hc : vwCl[ci]? = some ((mY mj).cls, T, N)) (hl : st.length ≤ 4) (hE : Ex d mj [vR k0, x1, x2, x3] M P) (k : ∀ r M2, P r M2 → K q L (r.toList ++ st) M2) : K pc L (x3 :: x2 :: x1 :: vR k0 :: st) M := by
  subst hp
  exact hK.1 _ _ _ _ _ _ hd ⟨rfl, mj, [x1, x2, x3], k0, st, ci, ks, T, N, rfl, hm, hs, hc, hl, Ex_mono _ _ _ _ hE k⟩
theorem k_st3 (hK : ra_Clo (Ex d) mi b Q K) {x1 x2 x3 : ra_V} {x mj : Nat} {P : Option ra_V → ra_M → Prop} (hd : decode b pc = .ok (.invokestatic x, 3)) (hp : pc + 3 = q) (hm : ra_CS (mY mi).cls x mj 3) (hl : st.length ≤ 4) (hE : Ex d mj [x1, x2, x3] M P) (k : ∀ r M2, P r M2 → K q L (r.toList ++ st) M2) : K pc L (x3 :: x2 :: x1 :: st) M := by
  subst hp
  exact hK.1 _ _ _ _ _ _ hd ⟨rfl, mj, [x1, x2, x3], st, rfl, hm, hl, Ex_mono _ _ _ _ hE k⟩
theorem k_iv3I (hK : ra_Clo (Ex d) mi b Q K) {x1 x2 x3 : ra_V} {v : Int} {x k0 ci mj N : Nat} {ks : List Nat} {T : u_T} (hd : decode b pc = .ok (.invokevirtual x, 3)) (hp : pc + 3 = q) (hm : ra_CV (mY mi).cls x mj 3) (hs : SH[k0]? = some (.inr (ci, ks))) (hc : vwCl[ci]? = some ((mY mj).cls, T, N)) (hl : st.length ≤ 4) (hE : Ex d mj [vR k0, x1, x2, x3] M (fun r M3 => r = some (vI v) ∧ M3 = M2)) (k : K q L (vI v :: st) M2) : K pc L (x3 :: x2 :: x1 :: vR k0 :: st) M := k_iv3 hK hd hp hm hs hc hl hE (fun r M3 h => by obtain ⟨rfl, rfl⟩ := h; exact k)
theorem k_st3I (hK : ra_Clo (Ex d) mi b Q K) {x1 x2 x3 : ra_V} {v : Int} {x mj : Nat} (hd : decode b pc = .ok (.invokestatic x, 3)) (hp : pc + 3 = q) (hm : ra_CS (mY mi).cls x mj 3) (hl : st.length ≤ 4) (hE : Ex d mj [x1, x2, x3] M (fun r M3 => r = some (vI v) ∧ M3 = M2)) (k : K q L (vI v :: st) M2) : K pc L (x3 :: x2 :: x1 :: st) M := k_st3 hK hd hp hm hl hE (fun r M3 h => by obtain ⟨rfl, rfl⟩ := h; exact k)
theorem k_iv3J (hK : ra_Clo (Ex d) mi b Q K) {x1 x2 x3 : ra_V} {v : Int} {x k0 ci mj N : Nat} {ks : List Nat} {T : u_T} (hd : decode b pc = .ok (.invokevirtual x, 3)) (hp : pc + 3 = q) (hm : ra_CV (mY mi).cls x mj 3) (hs : SH[k0]? = some (.inr (ci, ks))) (hc : vwCl[ci]? = some ((mY mj).cls, T, N)) (hl : st.length ≤ 4) (hE : Ex d mj [vR k0, x1, x2, x3] M (fun r M3 => r = some (vJ v) ∧ M3 = M2)) (k : K q L (vJ v :: st) M2) : K pc L (x3 :: x2 :: x1 :: vR k0 :: st) M := k_iv3 hK hd hp hm hs hc hl hE (fun r M3 h => by obtain ⟨rfl, rfl⟩ := h; exact k)
theorem k_st3J (hK : ra_Clo (Ex d) mi b Q K) {x1 x2 x3 : ra_V} {v : Int} {x mj : Nat} (hd : decode b pc = .ok (.invokestatic x, 3)) (hp : pc + 3 = q) (hm : ra_CS (mY mi).cls x mj 3) (hl : st.length ≤ 4) (hE : Ex d mj [x1, x2, x3] M (fun r M3 => r = some (vJ v) ∧ M3 = M2)) (k : K q L (vJ v :: st) M2) : K pc L (x3 :: x2 :: x1 :: st) M := k_st3 hK hd hp hm hl hE (fun r M3 h => by obtain ⟨rfl, rfl⟩ := h; exact k)
theorem k_iv3V (hK : ra_Clo (Ex d) mi b Q K) {x1 x2 x3 : ra_V} {x k0 ci mj N : Nat} {ks : List Nat} {T : u_T} (hd : decode b pc = .ok (.invokevirtual x, 3)) (hp : pc + 3 = q) (hm : ra_CV (mY mi).cls x mj 3) (hs : SH[k0]? = some (.inr (ci, ks))) (hc : vwCl[ci]? = some ((mY mj).cls, T, N)) (hl : st.length ≤ 4) (hE : Ex d mj [vR k0, x1, x2, x3] M (fun r M3 => r = none ∧ M3 = M2)) (k : K q L (st) M2) : K pc L (x3 :: x2 :: x1 :: vR k0 :: st) M := k_iv3 hK hd hp hm hs hc hl hE (fun r M3 h => by obtain ⟨rfl, rfl⟩ := h; exact k)
theorem k_st3V (hK : ra_Clo (Ex d) mi b Q K) {x1 x2 x3 : ra_V} {x mj : Nat} (hd : decode b pc = .ok (.invokestatic x, 3)) (hp : pc + 3 = q) (hm : ra_CS (mY mi).cls x mj 3) (hl : st.length ≤ 4) (hE : Ex d mj [x1, x2, x3] M (fun r M3 => r = none ∧ M3 = M2)) (k : K q L (st) M2) : K pc L (x3 :: x2 :: x1 :: st) M := k_st3 hK hd hp hm hl hE (fun r M3 h => by obtain ⟨rfl, rfl⟩ := h; exact k)
theorem k_iv4 (hK : ra_Clo (Ex d) mi b Q K) {x1 x2 x3 x4 : ra_V} {x k0 ci mj N : Nat} {ks : List Nat} {T : u_T} {P : Option ra_V → ra_M → Prop} (hd : decode b pc = .ok (.invokevirtual x, 3)) (hp : pc + 3 = q) (hm : ra_CV (mY mi).cls x mj 4) (hs : SH[k0]? = some (.inr (ci, ks))) (hc : vwCl[ci]? = some ((mY mj).cls, T, N)) (hl : st.length ≤ 4) (hE : Ex d mj [vR k0, x1, x2, x3, x4] M P) (k : ∀ r M2, P r M2 → K q L (r.toList ++ st) M2) : K pc L (x4 :: x3 :: x2 :: x1 :: vR k0 :: st) M := by
  subst hp
  exact hK.1 _ _ _ _ _ _ hd ⟨rfl, mj, [x1, x2, x3, x4], k0, st, ci, ks, T, N, rfl, hm, hs, hc, hl, Ex_mono _ _ _ _ hE k⟩
theorem k_st4 (hK : ra_Clo (Ex d) mi b Q K) {x1 x2 x3 x4 : ra_V} {x mj : Nat} {P : Option ra_V → ra_M → Prop} (hd : decode b pc = .ok (.invokestatic x, 3)) (hp : pc + 3 = q) (hm : ra_CS (mY mi).cls x mj 4) (hl : st.length ≤ 4) (hE : Ex d mj [x1, x2, x3, x4] M P) (k : ∀ r M2, P r M2 → K q L (r.toList ++ st) M2) : K pc L (x4 :: x3 :: x2 :: x1 :: st) M := by
  subst hp
  exact hK.1 _ _ _ _ _ _ hd ⟨rfl, mj, [x1, x2, x3, x4], st, rfl, hm, hl, Ex_mono _ _ _ _ hE k⟩
theorem k_iv4I (hK : ra_Clo (Ex d) mi b Q K) {x1 x2 x3 x4 : ra_V} {v : Int} {x k0 ci mj N : Nat} {ks : List Nat} {T : u_T} (hd : decode b pc = .ok (.invokevirtual x, 3)) (hp : pc + 3 = q) (hm : ra_CV (mY mi).cls x mj 4) (hs : SH[k0]? = some (.inr (ci, ks))) (hc : vwCl[ci]? = some ((mY mj).cls, T, N)) (hl : st.length ≤ 4) (hE : Ex d mj [vR k0, x1, x2, x3, x4] M (fun r M3 => r = some (vI v) ∧ M3 = M2)) (k : K q L (vI v :: st) M2) : K pc L (x4 :: x3 :: x2 :: x1 :: vR k0 :: st) M := k_iv4 hK hd hp hm hs hc hl hE (fun r M3 h => by obtain ⟨rfl, rfl⟩ := h; exact k)
theorem k_st4I (hK : ra_Clo (Ex d) mi b Q K) {x1 x2 x3 x4 : ra_V} {v : Int} {x mj : Nat} (hd : decode b pc = .ok (.invokestatic x, 3)) (hp : pc + 3 = q) (hm : ra_CS (mY mi).cls x mj 4) (hl : st.length ≤ 4) (hE : Ex d mj [x1, x2, x3, x4] M (fun r M3 => r = some (vI v) ∧ M3 = M2)) (k : K q L (vI v :: st) M2) : K pc L (x4 :: x3 :: x2 :: x1 :: st) M := k_st4 hK hd hp hm hl hE (fun r M3 h => by obtain ⟨rfl, rfl⟩ := h; exact k)
theorem k_iv4J (hK : ra_Clo (Ex d) mi b Q K) {x1 x2 x3 x4 : ra_V} {v : Int} {x k0 ci mj N : Nat} {ks : List Nat} {T : u_T} (hd : decode b pc = .ok (.invokevirtual x, 3)) (hp : pc + 3 = q) (hm : ra_CV (mY mi).cls x mj 4) (hs : SH[k0]? = some (.inr (ci, ks))) (hc : vwCl[ci]? = some ((mY mj).cls, T, N)) (hl : st.length ≤ 4) (hE : Ex d mj [vR k0, x1, x2, x3, x4] M (fun r M3 => r = some (vJ v) ∧ M3 = M2)) (k : K q L (vJ v :: st) M2) : K pc L (x4 :: x3 :: x2 :: x1 :: vR k0 :: st) M := k_iv4 hK hd hp hm hs hc hl hE (fun r M3 h => by obtain ⟨rfl, rfl⟩ := h; exact k)
theorem k_st4J (hK : ra_Clo (Ex d) mi b Q K) {x1 x2 x3 x4 : ra_V} {v : Int} {x mj : Nat} (hd : decode b pc = .ok (.invokestatic x, 3)) (hp : pc + 3 = q) (hm : ra_CS (mY mi).cls x mj 4) (hl : st.length ≤ 4) (hE : Ex d mj [x1, x2, x3, x4] M (fun r M3 => r = some (vJ v) ∧ M3 = M2)) (k : K q L (vJ v :: st) M2) : K pc L (x4 :: x3 :: x2 :: x1 :: st) M := k_st4 hK hd hp hm hl hE (fun r M3 h => by obtain ⟨rfl, rfl⟩ := h; exact k)
theorem k_iv4V (hK : ra_Clo (Ex d) mi b Q K) {x1 x2 x3 x4 : ra_V} {x k0 ci mj N : Nat} {ks : List Nat} {T : u_T} (hd : decode b pc = .ok (.invokevirtual x, 3)) (hp : pc + 3 = q) (hm : ra_CV (mY mi).cls x mj 4) (hs : SH[k0]? = some (.inr (ci, ks))) (hc : vwCl[ci]? = some ((mY mj).cls, T, N)) (hl : st.length ≤ 4) (hE : Ex d mj [vR k0, x1, x2, x3, x4] M (fun r M3 => r = none ∧ M3 = M2)) (k : K q L (st) M2) : K pc L (x4 :: x3 :: x2 :: x1 :: vR k0 :: st) M := k_iv4 hK hd hp hm hs hc hl hE (fun r M3 h => by obtain ⟨rfl, rfl⟩ := h; exact k)
theorem k_st4V (hK : ra_Clo (Ex d) mi b Q K) {x1 x2 x3 x4 : ra_V} {x mj : Nat} (hd : decode b pc = .ok (.invokestatic x, 3)) (hp : pc + 3 = q) (hm : ra_CS (mY mi).cls x mj 4) (hl : st.length ≤ 4) (hE : Ex d mj [x1, x2, x3, x4] M (fun r M3 => r = none ∧ M3 = M2)) (k : K q L (st) M2) : K pc L (x4 :: x3 :: x2 :: x1 :: st) M := k_st4 hK hd hp hm hl hE (fun r M3 h => by obtain ⟨rfl, rfl⟩ := h; exact k)
theorem k_ir (hK : ra_Clo C mi b Q K) {z : Int} (hd : decode b pc = .ok (.ireturn, 1)) (hr : mR mi = some .int) (k : Q (some (vI z)) M) : K pc L [vI z] M := hK.1 _ _ _ _ _ _ hd ⟨rfl, z, rfl, Or.inl hr, k⟩
theorem k_irz (hK : ra_Clo C mi b Q K) {z : Int} (hd : decode b pc = .ok (.ireturn, 1)) (hr : mR mi = some .boolean) (hz : z = 0 ∨ z = 1) (k : Q (some (vI z)) M) : K pc L [vI z] M := hK.1 _ _ _ _ _ _ hd ⟨rfl, z, rfl, Or.inr ⟨hr, hz⟩, k⟩
theorem k_lr (hK : ra_Clo C mi b Q K) {z : Int} (hd : decode b pc = .ok (.lreturn, 1)) (hr : mR mi = some .long) (k : Q (some (vJ z)) M) : K pc L [vJ z] M := hK.1 _ _ _ _ _ _ hd ⟨rfl, z, rfl, hr, k⟩
theorem k_vr (hK : ra_Clo C mi b Q K) (hd : decode b pc = .ok (.return_, 1)) (hr : mR mi = none) (k : Q none M) : K pc L [] M := hK.1 _ _ _ _ _ _ hd ⟨rfl, rfl, hr, k⟩
end KR
theorem up_same (M : ra_M) (k : Nat) (j z : Int) : up M k j z k j = z := by simp [up]
theorem up_ne (M : ra_M) {k k2 : Nat} {j j2 z : Int} (h : ¬ (k2 = k ∧ j2 = j)) : up M k j z k2 j2 = M k2 j2 := by simp [up, h]
theorem up_k (M : ra_M) {k k2 : Nat} (j z : Int) (h : k2 ≠ k) : up M k j z k2 = M k2 := by funext x; simp [up, h]
theorem up_j (M : ra_M) (k : Nat) {j j2 z : Int} (h : j2 ≠ j) : up M k j z k j2 = M k j2 := by simp [up, h]
end
section
/-! small methods -/
def bi (p : Prop) [Decidable p] : Int := if p then 1 else 0
theorem bi_0 {p : Prop} [Decidable p] : bi p = 0 ↔ ¬ p := by unfold bi; split <;> simp_all
theorem bi_1 {p : Prop} [Decidable p] : ¬ bi p = 0 ↔ p := by unfold bi; split <;> simp_all
theorem bi_p {p : Prop} [Decidable p] (h : p) : bi p = 1 := by simp [bi, h]
theorem bi_n {p : Prop} [Decidable p] (h : ¬ p) : bi p = 0 := by simp [bi, h]
theorem bi_in {p : Prop} [Decidable p] : bi p = 0 ∨ bi p = 1 := by unfold bi; split <;> simp
theorem ri1 {p : Prop} [Decidable p] (h : p) : some (vI 1) = some (vI (bi p)) := by rw [bi_p h]
theorem ri0 {p : Prop} [Decidable p] (h : ¬ p) : some (vI 0) = some (vI (bi p)) := by rw [bi_n h]

set_option maxRecDepth 20000 in
set_option maxHeartbeats 2000000 in
theorem t_min (d : Nat) (M : ra_M) (x y : Int) : Ex d m_J9_min_7cf53 [vI x, vI y] M (fun r M2 => r = some (vI (min x y)) ∧ M2 = M) := by
  refine Ex_leaf (Nat.le_of_ble_eq_true rfl) (fun C K hK => ?_)
  show K 0 [some (vI x), some (vI y)] [] M
  have hK : ra_Clo _ m_J9_min_7cf53 cJ9_min_7cf53 _ K := hK
  refine k_iln hK (q := 1)  dJ9_min_7cf53_0 rfl (z := x) rfl (k_iln hK (q := 2)  dJ9_min_7cf53_1 rfl (z := y) rfl ?_)
  refine k_cgt hK (q := 5) (t := 9) dJ9_min_7cf53_2 rfl rfl (fun h2 => ?_) (fun h2 => ?_)
  · refine k_iln hK (q := 10)  dJ9_min_7cf53_9 rfl (z := y) rfl ?_
    refine k_ir hK dJ9_min_7cf53_10 rfl ?_
    exact ⟨by rw [show min x y = y by omega], rfl⟩
  · refine k_iln hK (q := 6)  dJ9_min_7cf53_5 rfl (z := x) rfl (k_goto hK (t := 10) dJ9_min_7cf53_6 rfl ?_)
    refine k_ir hK dJ9_min_7cf53_10 rfl ?_
    exact ⟨by rw [show min x y = x by omega], rfl⟩

set_option maxRecDepth 20000 in
set_option maxHeartbeats 2000000 in
theorem t_max (d : Nat) (M : ra_M) (x y : Int) : Ex d m_J9_max_7cf53 [vI x, vI y] M (fun r M2 => r = some (vI (max x y)) ∧ M2 = M) := by
  refine Ex_leaf (Nat.le_of_ble_eq_true rfl) (fun C K hK => ?_)
  show K 0 [some (vI x), some (vI y)] [] M
  have hK : ra_Clo _ m_J9_max_7cf53 cJ9_max_7cf53 _ K := hK
  refine k_iln hK (q := 1)  dJ9_max_7cf53_0 rfl (z := x) rfl (k_iln hK (q := 2)  dJ9_max_7cf53_1 rfl (z := y) rfl ?_)
  refine k_clt hK (q := 5) (t := 9) dJ9_max_7cf53_2 rfl rfl (fun h2 => ?_) (fun h2 => ?_)
  · refine k_iln hK (q := 10)  dJ9_max_7cf53_9 rfl (z := y) rfl ?_
    refine k_ir hK dJ9_max_7cf53_10 rfl ?_
    exact ⟨by rw [show max x y = y by omega], rfl⟩
  · refine k_iln hK (q := 6)  dJ9_max_7cf53_5 rfl (z := x) rfl (k_goto hK (t := 10) dJ9_max_7cf53_6 rfl ?_)
    refine k_ir hK dJ9_max_7cf53_10 rfl ?_
    exact ⟨by rw [show max x y = x by omega], rfl⟩

set_option maxRecDepth 20000 in
set_option maxHeartbeats 2000000 in
theorem t_abs (d : Nat) (M : ra_M) (x : Int) (h1 : -2147483647 ≤ x ∧ x ≤ 2147483647) : Ex d m_J9_abs_0f7a4 [vI x] M (fun r M2 => r = some (vI (if 0 ≤ x then x else -x)) ∧ M2 = M) := by
  refine Ex_leaf (Nat.le_of_ble_eq_true rfl) (fun C K hK => ?_)
  show K 0 [some (vI x)] [] M
  have hK : ra_Clo _ m_J9_abs_0f7a4 cJ9_abs_0f7a4 _ K := hK
  refine k_iln hK (q := 1)  dJ9_abs_0f7a4_0 rfl (z := x) rfl ?_
  refine k_ifge hK (q := 4) (t := 9) dJ9_abs_0f7a4_1 rfl rfl (fun h1 => ?_) (fun h1 => ?_)
  · refine k_iln hK (q := 10)  dJ9_abs_0f7a4_9 rfl (z := x) rfl ?_
    refine k_ir hK dJ9_abs_0f7a4_10 rfl ?_
    exact ⟨by congr 2; split <;> omega, rfl⟩
  · refine k_iln hK (q := 5)  dJ9_abs_0f7a4_4 rfl (z := x) rfl (k_neg hK (q := 6)  dJ9_abs_0f7a4_5 rfl (z := -x) rfl (by omega) (k_goto hK (t := 10) dJ9_abs_0f7a4_6 rfl ?_))
    refine k_ir hK dJ9_abs_0f7a4_10 rfl ?_
    exact ⟨by congr 2; split <;> omega, rfl⟩

set_option maxRecDepth 20000 in
set_option maxHeartbeats 2000000 in
theorem t_isWithin (d : Nat) (M : ra_M) (v lo hi : Int) : Ex d m_X7_isWithin [vI v, vI lo, vI hi] M (fun r M2 => r = some (vI (bi (lo ≤ v ∧ v ≤ hi))) ∧ M2 = M) := by
  refine Ex_leaf (Nat.le_of_ble_eq_true rfl) (fun C K hK => ?_)
  show K 0 [some (vI v), some (vI lo), some (vI hi)] [] M
  have hK : ra_Clo _ m_X7_isWithin cX7_isWithin _ K := hK
  refine k_iln hK (q := 1)  dX7_isWithin_0 rfl (z := v) rfl (k_iln hK (q := 2)  dX7_isWithin_1 rfl (z := lo) rfl ?_)
  refine k_clt hK (q := 5) (t := 14) dX7_isWithin_2 rfl rfl (fun h2 => ?_) (fun h2 => ?_)
  · refine k_ic hK (q := 15)  dX7_isWithin_14 rfl (by decide) ?_
    refine k_irz hK dX7_isWithin_15 rfl (by decide) ?_
    exact ⟨ri0 (by omega), rfl⟩
  · refine k_iln hK (q := 6)  dX7_isWithin_5 rfl (z := v) rfl (k_iln hK (q := 7)  dX7_isWithin_6 rfl (z := hi) rfl ?_)
    refine k_cgt hK (q := 10) (t := 14) dX7_isWithin_7 rfl rfl (fun h7 => ?_) (fun h7 => ?_)
    · refine k_ic hK (q := 15)  dX7_isWithin_14 rfl (by decide) ?_
      refine k_irz hK dX7_isWithin_15 rfl (by decide) ?_
      exact ⟨ri0 (by omega), rfl⟩
    · refine k_ic hK (q := 11)  dX7_isWithin_10 rfl (by decide) (k_goto hK (t := 15) dX7_isWithin_11 rfl ?_)
      refine k_irz hK dX7_isWithin_15 rfl (by decide) ?_
      exact ⟨ri1 (by omega), rfl⟩

set_option maxRecDepth 20000 in
set_option maxHeartbeats 2000000 in
theorem t_isNote (d : Nat) (M : ra_M) (n : Int) : Ex d m_X6_isNote [vR 1, vI n] M (fun r M2 => r = some (vI (bi (0 ≤ n ∧ n < M 1 5))) ∧ M2 = M) := by
  refine Ex_leaf (Nat.le_of_ble_eq_true rfl) (fun C K hK => ?_)
  show K 0 [some (vR 1), some (vI n)] [] M
  have hK : ra_Clo _ m_X6_isNote cX6_isNote _ K := hK
  refine k_iln hK (q := 1)  dX6_isNote_0 rfl (z := n) rfl ?_
  refine k_iflt hK (q := 4) (t := 16) dX6_isNote_1 rfl rfl (fun h1 => ?_) (fun h1 => ?_)
  · refine k_ic hK (q := 17)  dX6_isNote_16 rfl (by decide) ?_
    refine k_irz hK dX6_isNote_17 rfl (by decide) ?_
    exact ⟨ri0 (by omega), rfl⟩
  · refine k_iln hK (q := 5)  dX6_isNote_4 rfl (z := n) rfl (k_aln hK (q := 6)  dX6_isNote_5 rfl (z := 1) rfl (k_gI hK (q := 9) (z := M 1 5) 0 dX6_isNote_6 rfl rf_X6_33 rfl rfl rfl rfl ?_))
    refine k_cge hK (q := 12) (t := 16) dX6_isNote_9 rfl rfl (fun h9 => ?_) (fun h9 => ?_)
    · refine k_ic hK (q := 17)  dX6_isNote_16 rfl (by decide) ?_
      refine k_irz hK dX6_isNote_17 rfl (by decide) ?_
      exact ⟨ri0 (by omega), rfl⟩
    · refine k_ic hK (q := 13)  dX6_isNote_12 rfl (by decide) (k_goto hK (t := 17) dX6_isNote_13 rfl ?_)
      refine k_irz hK dX6_isNote_17 rfl (by decide) ?_
      exact ⟨ri1 (by omega), rfl⟩

set_option maxRecDepth 20000 in
set_option maxHeartbeats 2000000 in
theorem t_hasLoop (d : Nat) (M : ra_M) : Ex d m_X6_hasLoop [vR 1] M (fun r M2 => r = some (vI (bi (M 1 7 ≠ -1))) ∧ M2 = M) := by
  refine Ex_leaf (Nat.le_of_ble_eq_true rfl) (fun C K hK => ?_)
  show K 0 [some (vR 1)] [] M
  have hK : ra_Clo _ m_X6_hasLoop cX6_hasLoop _ K := hK
  refine k_aln hK (q := 1)  dX6_hasLoop_0 rfl (z := 1) rfl (k_gI hK (q := 4) (z := M 1 7) 0 dX6_hasLoop_1 rfl rf_X6_40 rfl rfl rfl rfl (k_ic hK (q := 5)  dX6_hasLoop_4 rfl (by decide) ?_))
  refine k_ceq hK (q := 8) (t := 12) dX6_hasLoop_5 rfl rfl (fun h5 => ?_) (fun h5 => ?_)
  · refine k_ic hK (q := 13)  dX6_hasLoop_12 rfl (by decide) ?_
    refine k_irz hK dX6_hasLoop_13 rfl (by decide) ?_
    exact ⟨ri0 (by omega), rfl⟩
  · refine k_ic hK (q := 9)  dX6_hasLoop_8 rfl (by decide) (k_goto hK (t := 13) dX6_hasLoop_9 rfl ?_)
    refine k_irz hK dX6_hasLoop_13 rfl (by decide) ?_
    exact ⟨ri1 (by omega), rfl⟩

set_option maxRecDepth 20000 in
set_option maxHeartbeats 2000000 in
theorem t_lastStart (d : Nat) (M : ra_M) (h1 : 0 ≤ M 1 5 ∧ M 1 5 ≤ 60) : Ex d m_X6_lastStart [vR 1] M (fun r M2 => r = some (vI (if M 1 5 = 0 then -1 else M 3 (M 1 5 - 1))) ∧ M2 = M) := by
  refine Ex_leaf (Nat.le_of_ble_eq_true rfl) (fun C K hK => ?_)
  show K 0 [some (vR 1)] [] M
  have hK : ra_Clo _ m_X6_lastStart cX6_lastStart _ K := hK
  refine k_aln hK (q := 1)  dX6_lastStart_0 rfl (z := 1) rfl (k_gI hK (q := 4) (z := M 1 5) 0 dX6_lastStart_1 rfl rf_X6_33 rfl rfl rfl rfl ?_)
  refine k_ifne hK (q := 7) (t := 11) dX6_lastStart_4 rfl rfl (fun h4 => ?_) (fun h4 => ?_)
  · refine k_aln hK (q := 12)  dX6_lastStart_11 rfl (z := 1) rfl (k_gR hK (q := 15) (r := 3) dX6_lastStart_12 rfl rf_X6_15 rfl rfl (k_aln hK (q := 16)  dX6_lastStart_15 rfl (z := 1) rfl (k_gI hK (q := 19) (z := M 1 5) 0 dX6_lastStart_16 rfl rf_X6_33 rfl rfl rfl rfl (k_ic hK (q := 20)  dX6_lastStart_19 rfl (by decide) (k_sub hK (q := 21)  dX6_lastStart_20 rfl (z := (M 1 5) - 1) rfl (by omega) ?_)))))
    refine k_ald hK (q := 22)  dX6_lastStart_21 rfl (y := M 3 ((M 1 5) - 1)) rfl (by omega) rfl ?_
    refine k_ir hK dX6_lastStart_22 rfl ?_
    exact ⟨by congr 2; split <;> first | rfl | omega, rfl⟩
  · refine k_ic hK (q := 8)  dX6_lastStart_7 rfl (by decide) (k_goto hK (t := 22) dX6_lastStart_8 rfl ?_)
    refine k_ir hK dX6_lastStart_22 rfl ?_
    exact ⟨by congr 2; split <;> first | rfl | omega, rfl⟩

set_option maxRecDepth 20000 in
set_option maxHeartbeats 2000000 in
theorem t_firstThere (d : Nat) (M : ra_M) : Ex (d + 1) m_X6_firstThere [vR 1] M (fun r M2 => r = some (vI (if M 1 7 ≠ -1 then M 1 7 else 0)) ∧ M2 = M) := by
  refine Ex_call (Nat.le_of_ble_eq_true rfl) (fun K hK => ?_)
  show K 0 [some (vR 1)] [] M
  have hK : ra_Clo _ m_X6_firstThere cX6_firstThere _ K := hK
  refine k_aln hK (q := 1)  dX6_firstThere_0 rfl (z := 1) rfl ?_
  refine k_iv0I hK (q := 4) dX6_firstThere_1 rfl rm_X6_49 rfl rfl (Nat.le_of_ble_eq_true rfl) (t_hasLoop _ M) ?_
  refine k_ifeq hK (q := 7) (t := 14) dX6_firstThere_4 rfl rfl (fun h4 => ?_) (fun h4 => ?_)
  · have h4 := bi_0.mp h4
    refine k_ic hK (q := 15)  dX6_firstThere_14 rfl (by decide) ?_
    refine k_ir hK dX6_firstThere_15 rfl ?_
    exact ⟨by congr 2; split <;> first | rfl | omega, rfl⟩
  · have h4 := bi_1.mp h4
    refine k_aln hK (q := 8)  dX6_firstThere_7 rfl (z := 1) rfl (k_gI hK (q := 11) (z := M 1 7) 0 dX6_firstThere_8 rfl rf_X6_40 rfl rfl rfl rfl (k_goto hK (t := 15) dX6_firstThere_11 rfl ?_))
    refine k_ir hK dX6_firstThere_15 rfl ?_
    exact ⟨by congr 2; split <;> first | rfl | omega, rfl⟩

set_option maxRecDepth 20000 in
set_option maxHeartbeats 2000000 in
theorem t_lastThere (d : Nat) (M : ra_M) (h1 : 0 ≤ M 1 5 ∧ M 1 5 ≤ 60) : Ex (d + 1) m_X6_lastThere [vR 1] M (fun r M2 => r = some (vI (if M 1 7 ≠ -1 then M 1 8 else M 1 5 - 1)) ∧ M2 = M) := by
  refine Ex_call (Nat.le_of_ble_eq_true rfl) (fun K hK => ?_)
  show K 0 [some (vR 1)] [] M
  have hK : ra_Clo _ m_X6_lastThere cX6_lastThere _ K := hK
  refine k_aln hK (q := 1)  dX6_lastThere_0 rfl (z := 1) rfl ?_
  refine k_iv0I hK (q := 4) dX6_lastThere_1 rfl rm_X6_49 rfl rfl (Nat.le_of_ble_eq_true rfl) (t_hasLoop _ M) ?_
  refine k_ifeq hK (q := 7) (t := 14) dX6_lastThere_4 rfl rfl (fun h4 => ?_) (fun h4 => ?_)
  · have h4 := bi_0.mp h4
    refine k_aln hK (q := 15)  dX6_lastThere_14 rfl (z := 1) rfl (k_gI hK (q := 18) (z := M 1 5) 0 dX6_lastThere_15 rfl rf_X6_33 rfl rfl rfl rfl (k_ic hK (q := 19)  dX6_lastThere_18 rfl (by decide) (k_sub hK (q := 20)  dX6_lastThere_19 rfl (z := (M 1 5) - 1) rfl (by omega) ?_)))
    refine k_ir hK dX6_lastThere_20 rfl ?_
    exact ⟨by congr 2; split <;> first | rfl | omega, rfl⟩
  · have h4 := bi_1.mp h4
    refine k_aln hK (q := 8)  dX6_lastThere_7 rfl (z := 1) rfl (k_gI hK (q := 11) (z := M 1 8) 0 dX6_lastThere_8 rfl rf_X6_43 rfl rfl rfl rfl (k_goto hK (t := 20) dX6_lastThere_11 rfl ?_))
    refine k_ir hK dX6_lastThere_20 rfl ?_
    exact ⟨by congr 2; split <;> first | rfl | omega, rfl⟩

set_option maxRecDepth 20000 in
set_option maxHeartbeats 2000000 in
theorem t_isThereC (d : Nat) (M : ra_M) (n : Int) (h1 : 0 ≤ M 1 5 ∧ M 1 5 ≤ 60) : Ex (d + 2) m_X6_isThere [vR 1, vI n] M (fun r M2 => r = some (vI (bi ((if M 1 7 ≠ -1 then M 1 7 else 0) ≤ n ∧ n ≤ (if M 1 7 ≠ -1 then M 1 8 else M 1 5 - 1)))) ∧ M2 = M) := by
  refine Ex_call (Nat.le_of_ble_eq_true rfl) (fun K hK => ?_)
  show K 0 [some (vR 1), some (vI n)] [] M
  have hK : ra_Clo _ m_X6_isThere cX6_isThere _ K := hK
  refine k_iln hK (q := 1)  dX6_isThere_0 rfl (z := n) rfl (k_aln hK (q := 2)  dX6_isThere_1 rfl (z := 1) rfl ?_)
  refine k_iv0I hK (q := 5) dX6_isThere_2 rfl rm_X6_53 rfl rfl (Nat.le_of_ble_eq_true rfl) (t_firstThere _ M) ?_
  refine k_clt hK (q := 8) (t := 20) dX6_isThere_5 rfl rfl (fun h5 => ?_) (fun h5 => ?_)
  · refine k_ic hK (q := 21)  dX6_isThere_20 rfl (by decide) ?_
    refine k_irz hK dX6_isThere_21 rfl (by decide) ?_
    exact ⟨ri0 (by omega), rfl⟩
  · refine k_iln hK (q := 9)  dX6_isThere_8 rfl (z := n) rfl (k_aln hK (q := 10)  dX6_isThere_9 rfl (z := 1) rfl ?_)
    refine k_iv0I hK (q := 13) dX6_isThere_10 rfl rm_X6_57 rfl rfl (Nat.le_of_ble_eq_true rfl) (t_lastThere _ M h1) ?_
    refine k_cgt hK (q := 16) (t := 20) dX6_isThere_13 rfl rfl (fun h13 => ?_) (fun h13 => ?_)
    · refine k_ic hK (q := 21)  dX6_isThere_20 rfl (by decide) ?_
      refine k_irz hK dX6_isThere_21 rfl (by decide) ?_
      exact ⟨ri0 (by omega), rfl⟩
    · refine k_ic hK (q := 17)  dX6_isThere_16 rfl (by decide) (k_goto hK (t := 21) dX6_isThere_17 rfl ?_)
      refine k_irz hK dX6_isThere_21 rfl (by decide) ?_
      exact ⟨ri1 (by omega), rfl⟩

set_option maxRecDepth 20000 in
set_option maxHeartbeats 2000000 in
theorem t_mistake (d : Nat) (M : ra_M) (n p : Int) (h1 : 0 ≤ n ∧ n < 60) : Ex d m_X6_mistake [vR 1, vI n, vI p] M (fun r M2 => r = some (vI (if M 2 n = p then 0 else M 6 0)) ∧ M2 = M) := by
  refine Ex_leaf (Nat.le_of_ble_eq_true rfl) (fun C K hK => ?_)
  show K 0 [some (vR 1), some (vI n), some (vI p)] [] M
  have hK : ra_Clo _ m_X6_mistake cX6_mistake _ K := hK
  refine k_aln hK (q := 1)  dX6_mistake_0 rfl (z := 1) rfl (k_gR hK (q := 4) (r := 2) dX6_mistake_1 rfl rf_X6_9 rfl rfl (k_iln hK (q := 5)  dX6_mistake_4 rfl (z := n) rfl (k_ald hK (q := 6)  dX6_mistake_5 rfl (y := M 2 n) rfl (by omega) rfl (k_iln hK (q := 7)  dX6_mistake_6 rfl (z := p) rfl ?_))))
  refine k_cne hK (q := 10) (t := 14) dX6_mistake_7 rfl rfl (fun h7 => ?_) (fun h7 => ?_)
  · refine k_aln hK (q := 15)  dX6_mistake_14 rfl (z := 1) rfl (k_gR hK (q := 18) (r := 6) dX6_mistake_15 rfl rf_X6_27 rfl rfl (k_ic hK (q := 19)  dX6_mistake_18 rfl (by decide) (k_ald hK (q := 20)  dX6_mistake_19 rfl (y := M 6 0) rfl (by omega) rfl ?_)))
    refine k_ir hK dX6_mistake_20 rfl ?_
    exact ⟨by congr 2; split <;> first | rfl | omega, rfl⟩
  · refine k_ic hK (q := 11)  dX6_mistake_10 rfl (by decide) (k_goto hK (t := 20) dX6_mistake_11 rfl ?_)
    refine k_ir hK dX6_mistake_20 rfl ?_
    exact ⟨by congr 2; split <;> first | rfl | omega, rfl⟩

set_option maxRecDepth 20000 in
set_option maxHeartbeats 2000000 in
theorem t_isThere (d : Nat) (M : ra_M) (n : Int) : Ex d m_X8_isThere [vR 32, vI n] M (fun r M2 => r = some (vI (bi (0 ≤ n ∧ n < M 32 4 ∧ (M 32 8 < 0 ∨ (M 32 8 ≤ n ∧ n ≤ M 32 9))))) ∧ M2 = M) := by
  refine Ex_leaf (Nat.le_of_ble_eq_true rfl) (fun C K hK => ?_)
  show K 0 [some (vR 32), some (vI n)] [] M
  have hK : ra_Clo _ m_X8_isThere cX8_isThere _ K := hK
  refine k_iln hK (q := 1)  dX8_isThere_0 rfl (z := n) rfl ?_
  refine k_iflt hK (q := 4) (t := 39) dX8_isThere_1 rfl rfl (fun h1 => ?_) (fun h1 => ?_)
  · refine k_ic hK (q := 40)  dX8_isThere_39 rfl (by decide) ?_
    refine k_irz hK dX8_isThere_40 rfl (by decide) ?_
    exact ⟨ri0 (by omega), rfl⟩
  · refine k_iln hK (q := 5)  dX8_isThere_4 rfl (z := n) rfl (k_aln hK (q := 6)  dX8_isThere_5 rfl (z := 32) rfl (k_gI hK (q := 9) (z := M 32 4) 0 dX8_isThere_6 rfl rf_X8_86 rfl rfl rfl rfl ?_))
    refine k_cge hK (q := 12) (t := 39) dX8_isThere_9 rfl rfl (fun h9 => ?_) (fun h9 => ?_)
    · refine k_ic hK (q := 40)  dX8_isThere_39 rfl (by decide) ?_
      refine k_irz hK dX8_isThere_40 rfl (by decide) ?_
      exact ⟨ri0 (by omega), rfl⟩
    · refine k_aln hK (q := 13)  dX8_isThere_12 rfl (z := 32) rfl (k_gI hK (q := 16) (z := M 32 8) 0 dX8_isThere_13 rfl rf_X8_28 rfl rfl rfl rfl ?_)
      refine k_iflt hK (q := 19) (t := 35) dX8_isThere_16 rfl rfl (fun h16 => ?_) (fun h16 => ?_)
      · refine k_ic hK (q := 36)  dX8_isThere_35 rfl (by decide) (k_goto hK (t := 40) dX8_isThere_36 rfl ?_)
        refine k_irz hK dX8_isThere_40 rfl (by decide) ?_
        exact ⟨ri1 (by omega), rfl⟩
      · refine k_iln hK (q := 20)  dX8_isThere_19 rfl (z := n) rfl (k_aln hK (q := 21)  dX8_isThere_20 rfl (z := 32) rfl (k_gI hK (q := 24) (z := M 32 8) 0 dX8_isThere_21 rfl rf_X8_28 rfl rfl rfl rfl ?_))
        refine k_clt hK (q := 27) (t := 39) dX8_isThere_24 rfl rfl (fun h24 => ?_) (fun h24 => ?_)
        · refine k_ic hK (q := 40)  dX8_isThere_39 rfl (by decide) ?_
          refine k_irz hK dX8_isThere_40 rfl (by decide) ?_
          exact ⟨ri0 (by omega), rfl⟩
        · refine k_iln hK (q := 28)  dX8_isThere_27 rfl (z := n) rfl (k_aln hK (q := 29)  dX8_isThere_28 rfl (z := 32) rfl (k_gI hK (q := 32) (z := M 32 9) 0 dX8_isThere_29 rfl rf_X8_32 rfl rfl rfl rfl ?_))
          refine k_cgt hK (q := 35) (t := 39) dX8_isThere_32 rfl rfl (fun h32 => ?_) (fun h32 => ?_)
          · refine k_ic hK (q := 40)  dX8_isThere_39 rfl (by decide) ?_
            refine k_irz hK dX8_isThere_40 rfl (by decide) ?_
            exact ⟨ri0 (by omega), rfl⟩
          · refine k_ic hK (q := 36)  dX8_isThere_35 rfl (by decide) (k_goto hK (t := 40) dX8_isThere_36 rfl ?_)
            refine k_irz hK dX8_isThere_40 rfl (by decide) ?_
            exact ⟨ri1 (by omega), rfl⟩
end
section
/-! PURE: rounds of lowering along edges, which come to rest (each edge costs 1 at least); what is at rest is one -/
abbrev Eg : Type := Int × Int × Int
/-- along the edge (x, y, w): the value of y becomes at most that of x and w (places stand one higher in the row) -/
def lo1 (c : Int → Int) (e : Eg) : Int → Int := if c (e.1 + 1) + e.2.2 < c (e.2.1 + 1) then fun j => if j = e.2.1 + 1 then c (e.1 + 1) + e.2.2 else c j else c
def rnd (E : List Eg) (c : Int → Int) : Int → Int := E.foldl lo1 c
def rep (E : List Eg) : Nat → (Int → Int) → (Int → Int)
  | 0, c => c
  | n + 1, c => rep E n (rnd E c)
theorem lo1_le (c : Int → Int) (e : Eg) (j : Int) : lo1 c e j ≤ c j := by
  unfold lo1
  split
  · simp only
    split
    · subst_vars; omega
    · omega
  · omega
theorem lo1_tgt (c : Int → Int) (e : Eg) : lo1 c e (e.2.1 + 1) ≤ c (e.1 + 1) + e.2.2 := by
  unfold lo1
  split
  · simp
  · omega
theorem rnd_le (E : List Eg) : ∀ (c : Int → Int) (j : Int), rnd E c j ≤ c j := by
  induction E with
  | nil => intro c j; exact Int.le_refl _
  | cons e E ih => intro c j; exact Int.le_trans (ih (lo1 c e) j) (lo1_le c e j)
theorem rep_succ (E : List Eg) : ∀ (n : Nat) (c : Int → Int), rep E (n + 1) c = rnd E (rep E n c) := by
  intro n
  induction n with
  | zero => intro c; rfl
  | succ n ih => intro c; exact ih (rnd E c)
theorem rep_le (E : List Eg) : ∀ (n : Nat) (c : Int → Int) (j : Int), rep E n c j ≤ c j := by
  intro n
  induction n with
  | zero => intro c j; exact Int.le_refl _
  | succ n ih => intro c j; rw [rep_succ]; exact Int.le_trans (rnd_le E _ j) (ih c j)
theorem rep_fix (E : List Eg) {c : Int → Int} (h : rnd E c = c) : ∀ n : Nat, rep E n c = c := by
  intro n
  induction n with
  | zero => rfl
  | succ n ih => rw [rep_succ, ih, h]
theorem rep_add (E : List Eg) : ∀ (m n : Nat) (c : Int → Int), rep E (m + n) c = rep E n (rep E m c) := by
  intro m
  induction m with
  | zero => intro n c; simp [rep]
  | succ m ih =>
    intro n c
    rw [show m + 1 + n = (m + n) + 1 by omega]
    exact ih n (rnd E c)
/-- edges between places, at a cost of 1 at least -/
def okE (E : List Eg) : Prop := ∀ e ∈ E, (-1 ≤ e.1 ∧ e.1 < 60) ∧ (-1 ≤ e.2.1 ∧ e.2.1 < 60) ∧ 1 ≤ e.2.2
/-- at rest along an edge -/
def att (c : Int → Int) (e : Eg) : Prop := c (e.2.1 + 1) ≤ c (e.1 + 1) + e.2.2
theorem lo1_att {c : Int → Int} {e : Eg} (h : att c e) : lo1 c e = c := by
  unfold lo1 att at *
  rw [if_neg (by omega)]
theorem rnd_att {E : List Eg} : ∀ {c : Int → Int}, (∀ e ∈ E, att c e) → rnd E c = c := by
  induction E with
  | nil => intro c _; rfl
  | cons e E ih =>
    intro c h
    show rnd E (lo1 c e) = c
    rw [lo1_att (h e List.mem_cons_self)]
    exact ih (fun e he => h e (List.mem_cons_of_mem _ he))
/-- behind a round: what did not change at x was handed on along every edge from x -/
theorem rnd_hand (E : List Eg) : ∀ (c : Int → Int) (e : Eg), e ∈ E → rnd E c (e.1 + 1) = c (e.1 + 1) → rnd E c (e.2.1 + 1) ≤ c (e.1 + 1) + e.2.2 := by
  induction E with
  | nil => intro c e he; cases he
  | cons f E ih =>
    intro c e he hx
    have h1 := rnd_le E (lo1 c f) (e.1 + 1)
    have h2 := lo1_le c f (e.1 + 1)
    have hx' : rnd E (lo1 c f) (e.1 + 1) = c (e.1 + 1) := hx
    rcases List.mem_cons.mp he with h | h
    · subst h
      exact Int.le_trans (rnd_le E (lo1 c e) (e.2.1 + 1)) (lo1_tgt c e)
    · have h3 : lo1 c f (e.1 + 1) = c (e.1 + 1) := by omega
      have := ih (lo1 c f) e h (by rw [h3]; exact hx')
      rw [h3] at this
      exact this
theorem rnd_fix_att {E : List Eg} {c : Int → Int} (h : rnd E c = c) : ∀ e ∈ E, att c e := by
  intro e he
  have := rnd_hand E c e he (by rw [h])
  rw [h] at this
  exact this
/-- new values lie above m, where the edges from below m are at rest -/
theorem rnd_above {E : List Eg} (hE : okE E) {m : Int} : ∀ (c c0 : Int → Int), (∀ e ∈ E, c0 (e.1 + 1) < m → att c0 e) → (∀ j, c j ≤ c0 j) → (∀ j, c j = c0 j ∨ m < c j) → ∀ j, rnd E c j = c0 j ∨ m < rnd E c j := by
  induction E with
  | nil => intro c c0 _ _ h j; exact h j
  | cons e E ih =>
    intro c c0 hs hle h
    have hw := (hE e List.mem_cons_self).2.2
    refine ih (fun f hf => hE f (List.mem_cons_of_mem _ hf)) (lo1 c e) c0 (fun f hf => hs f (List.mem_cons_of_mem _ hf)) (fun j => Int.le_trans (lo1_le c e j) (hle j)) (fun j => ?_)
    unfold lo1
    split
    next hlt =>
      simp only
      split
      next hj =>
        right
        rcases h (e.1 + 1) with h1 | h1
        · by_cases h2 : c0 (e.1 + 1) < m
          · have h3 := hs e List.mem_cons_self h2
            unfold att at h3
            have h4 := hle (e.2.1 + 1)
            omega
          · omega
        · omega
      next => exact h j
    next => exact h j
theorem rnd_out {E : List Eg} (hE : okE E) : ∀ (c : Int → Int) (j : Int), (j < 0 ∨ 60 < j) → rnd E c j = c j := by
  induction E with
  | nil => intro c j _; rfl
  | cons e E ih =>
    intro c j hj
    have h1 := (hE e List.mem_cons_self).2.1
    show rnd E (lo1 c e) j = c j
    rw [ih (fun f hf => hE f (List.mem_cons_of_mem _ hf)) (lo1 c e) j hj]
    unfold lo1
    split
    · simp only
      rw [if_neg (by omega)]
    · rfl
theorem pick_min {α : Type} (P : α → Prop) (f : α → Int) : ∀ l : List α, (∃ a ∈ l, P a) → ∃ a ∈ l, P a ∧ ∀ b ∈ l, P b → f a ≤ f b := by
  intro l
  induction l with
  | nil => intro ⟨a, h, _⟩; cases h
  | cons x l ih =>
    intro ⟨a, ha, hP⟩
    by_cases hl : ∃ a ∈ l, P a
    · obtain ⟨b, hb, hPb, hmin⟩ := ih hl
      by_cases hx : P x ∧ f x < f b
      · refine ⟨x, List.mem_cons_self, hx.1, fun y hy hPy => ?_⟩
        rcases List.mem_cons.mp hy with rfl | hy
        · exact Int.le_refl _
        · have := hmin y hy hPy; omega
      · refine ⟨b, List.mem_cons_of_mem _ hb, hPb, fun y hy hPy => ?_⟩
        rcases List.mem_cons.mp hy with rfl | hy
        · by_cases hlt : f y < f b
          · exact absurd ⟨hPy, hlt⟩ hx
          · omega
        · exact hmin y hy hPy
    · rcases List.mem_cons.mp ha with rfl | ha
      · refine ⟨a, List.mem_cons_self, hP, fun y hy hPy => ?_⟩
        rcases List.mem_cons.mp hy with rfl | hy
        · exact Int.le_refl _
        · exact absurd ⟨y, hy, hPy⟩ hl
      · exact absurd ⟨a, ha, hP⟩ hl
def cntLe (c : Int → Int) (m : Int) : Nat := (List.range 61).countP (fun i => decide (c (i : Nat) ≤ m))
theorem countP_lt {α : Type} {p q : α → Bool} : ∀ {l : List α}, (∀ a ∈ l, p a = true → q a = true) → (∃ a ∈ l, q a = true ∧ p a = false) → l.countP p < l.countP q := by
  intro l
  induction l with
  | nil => intro _ ⟨a, h, _⟩; cases h
  | cons x l ih =>
    intro h ⟨a, ha, hq, hp⟩
    have hle : l.countP p ≤ l.countP q := List.countP_mono_left (fun y hy => h y (List.mem_cons_of_mem _ hy))
    rw [List.countP_cons, List.countP_cons]
    rcases List.mem_cons.mp ha with rfl | ha
    · rw [hp, hq]; simp; omega
    · have h1 := ih (fun y hy => h y (List.mem_cons_of_mem _ hy)) ⟨a, ha, hq, hp⟩
      by_cases hx : p x = true
      · rw [hx, h x List.mem_cons_self hx]; omega
      · have : p x = false := by simpa using hx
        rw [this]; simp; omega
def bfI (E : List Eg) (k : Nat) (c : Int → Int) : Prop := ∃ m : Int, k ≤ cntLe c m ∧ ∀ e ∈ E, c (e.1 + 1) < m → att c e
theorem mem61 {j : Int} (h : 0 ≤ j ∧ j ≤ 60) : ∃ i ∈ List.range 61, ((i : Nat) : Int) = j := ⟨j.toNat, List.mem_range.mpr (by omega), by omega⟩
theorem bf_init {E : List Eg} (hE : okE E) (c : Int → Int) : bfI E 1 c := by
  obtain ⟨a, ha, -, hmin⟩ := pick_min (fun _ : Nat => True) (fun i => c (i : Nat)) (List.range 61) ⟨0, by simp, trivial⟩
  refine ⟨c (a : Nat), ?_, fun e he hlt => ?_⟩
  · have : 0 < cntLe c (c (a : Nat)) := List.countP_pos_iff.mpr ⟨a, ha, by simp⟩
    omega
  · obtain ⟨i, hi, hi2⟩ := mem61 (j := e.1 + 1) (by have := (hE e he).1; omega)
    have := hmin i hi trivial
    rw [hi2] at this
    omega
theorem bf_step {E : List Eg} (hE : okE E) {k : Nat} {c : Int → Int} (h : bfI E k c) (hne : rnd E c ≠ c) : bfI E (k + 1) (rnd E c) := by
  obtain ⟨m, hk, hs⟩ := h
  have hab := rnd_above hE c c hs (fun _ => Int.le_refl _) (fun _ => Or.inl rfl)
  have hle := rnd_le E c
  have hex : ∃ i ∈ List.range 61, rnd E c (i : Nat) ≠ c (i : Nat) := by
    by_cases hx : ∃ i ∈ List.range 61, rnd E c (i : Nat) ≠ c (i : Nat)
    · exact hx
    · exfalso
      apply hne
      funext j
      by_cases hj : 0 ≤ j ∧ j ≤ 60
      · obtain ⟨i, hi, hi2⟩ := mem61 hj
        by_cases hq : rnd E c (i : Nat) = c (i : Nat)
        · rw [← hi2]; exact hq
        · exact absurd ⟨i, hi, hq⟩ hx
      · exact rnd_out hE c j (by omega)
  obtain ⟨a, ha, hPa, hmin⟩ := pick_min (fun i : Nat => rnd E c (i : Nat) ≠ c (i : Nat)) (fun i => rnd E c (i : Nat)) (List.range 61) hex
  have hm : m < rnd E c (a : Nat) := by
    rcases hab (a : Nat) with h1 | h1
    · exact absurd h1 hPa
    · exact h1
  refine ⟨rnd E c (a : Nat), ?_, fun e he hlt => ?_⟩
  · have : cntLe c m < cntLe (rnd E c) (rnd E c (a : Nat)) := by
      refine countP_lt (fun i _ hi => ?_) ⟨a, ha, by simp, ?_⟩
      · have hi : c (i : Nat) ≤ m := by simpa using hi
        have := hle (i : Nat)
        simp; omega
      · have := hle (a : Nat)
        simp; omega
    omega
  · have hunch : rnd E c (e.1 + 1) = c (e.1 + 1) := by
      obtain ⟨i, hi, hi2⟩ := mem61 (j := e.1 + 1) (by have := (hE e he).1; omega)
      by_cases hq : rnd E c (i : Nat) = c (i : Nat)
      · rw [← hi2]; exact hq
      · have := hmin i hi hq
        rw [hi2] at this
        omega
    have := rnd_hand E c e he hunch
    unfold att
    omega
theorem bf_end {E : List Eg} (hE : okE E) {c : Int → Int} (h : bfI E 61 c) : rnd E c = c := by
  obtain ⟨m, hk, hs⟩ := h
  have hall : ∀ i ∈ List.range 61, decide (c (i : Nat) ≤ m) = true := by
    have h1 : (List.range 61).countP (fun i => decide (c (i : Nat) ≤ m)) = (List.range 61).length := by
      have := List.countP_le_length (p := fun i : Nat => decide (c (i : Nat) ≤ m)) (l := List.range 61)
      have h2 : (List.range 61).length = 61 := List.length_range
      unfold cntLe at hk
      omega
    exact List.countP_eq_length.mp h1
  apply rnd_att
  intro e he
  by_cases hlt : c (e.1 + 1) < m
  · exact hs e he hlt
  · obtain ⟨i, hi, hi2⟩ := mem61 (j := e.2.1 + 1) (by have := (hE e he).2.1; omega)
    have h1 := hall i hi
    have h2 : c (i : Nat) ≤ m := by simpa using h1
    rw [hi2] at h2
    have := (hE e he).2.2
    unfold att
    omega
theorem bf_rest {E : List Eg} (hE : okE E) (c : Int → Int) : ∃ k : Nat, k ≤ 60 ∧ rnd E (rep E k c) = rep E k c := by
  have key : ∀ n : Nat, n ≤ 60 → (∃ k : Nat, k ≤ n ∧ rnd E (rep E k c) = rep E k c) ∨ bfI E (n + 1) (rep E n c) := by
    intro n
    induction n with
    | zero => intro _; exact Or.inr (bf_init hE c)
    | succ n ih =>
      intro hn
      rcases ih (by omega) with ⟨k, hk, hf⟩ | hb
      · exact Or.inl ⟨k, by omega, hf⟩
      · by_cases hf : rnd E (rep E n c) = rep E n c
        · exact Or.inl ⟨n, by omega, hf⟩
        · right
          rw [rep_succ]
          exact bf_step hE hb hf
  rcases key 60 (Nat.le_refl _) with h | h
  · exact h
  · exact ⟨60, Nat.le_refl _, bf_end hE h⟩
/-- 61 rounds are enough -/
theorem bf_61 {E : List Eg} (hE : okE E) (c : Int → Int) : rnd E (rep E 61 c) = rep E 61 c := by
  obtain ⟨k, hk, hf⟩ := bf_rest hE c
  have : rep E 61 c = rep E k c := by
    rw [show 61 = k + (61 - k) by omega, rep_add, rep_fix E hf]
  rw [this, hf]
/-- who comes to rest after any number of rounds has what 61 rounds give -/
theorem bf_any {E : List Eg} (hE : okE E) (c : Int → Int) {n : Nat} (h : rnd E (rep E n c) = rep E n c) : rep E n c = rep E 61 c := by
  have h1 : rep E (n + 61) c = rep E n c := by rw [rep_add, rep_fix E h]
  have h2 : rep E (61 + n) c = rep E 61 c := by rw [rep_add, rep_fix E (bf_61 hE c)]
  rw [← h1, ← h2, Nat.add_comm]
/-- what a value came from -/
def wit (E : List Eg) (b c : Int → Int) : Prop := ∀ j, c j = b j ∨ ∃ e ∈ E, e.2.1 + 1 = j ∧ c (e.1 + 1) + e.2.2 ≤ c j
theorem wit_lo1 {E : List Eg} {b c : Int → Int} {e : Eg} (he : e ∈ E) (hw : 1 ≤ e.2.2) (h : wit E b c) : wit E b (lo1 c e) := by
  intro j
  have hle := lo1_le c e
  by_cases hlt : c (e.1 + 1) + e.2.2 < c (e.2.1 + 1)
  · by_cases hj : j = e.2.1 + 1
    · right
      refine ⟨e, he, hj.symm, ?_⟩
      have h1 := hle (e.1 + 1)
      have h2 : lo1 c e j = c (e.1 + 1) + e.2.2 := by unfold lo1; rw [if_pos hlt]; simp [hj]
      omega
    · have h2 : lo1 c e j = c j := by unfold lo1; rw [if_pos hlt]; simp [hj]
      rcases h j with h1 | ⟨f, hf, hfj, h1⟩
      · left; omega
      · right
        exact ⟨f, hf, hfj, by have := hle (f.1 + 1); omega⟩
  · have h2 : lo1 c e = c := by unfold lo1; rw [if_neg hlt]
    rw [h2]
    exact h j
theorem wit_rnd {E : List Eg} {b : Int → Int} (hE : okE E) : ∀ (F : List Eg) (c : Int → Int), (∀ e ∈ F, e ∈ E) → wit E b c → wit E b (rnd F c) := by
  intro F
  induction F with
  | nil => intro c _ h; exact h
  | cons e F ih =>
    intro c hF h
    exact ih (lo1 c e) (fun f hf => hF f (List.mem_cons_of_mem _ hf)) (wit_lo1 (hF e List.mem_cons_self) (hE e (hF e List.mem_cons_self)).2.2 h)
theorem wit_rep {E : List Eg} {b : Int → Int} (hE : okE E) : ∀ (n : Nat) (c : Int → Int), wit E b c → wit E b (rep E n c) := by
  intro n
  induction n with
  | zero => intro c h; exact h
  | succ n ih => intro c h; exact ih _ (wit_rnd hE E c (fun _ h => h) h)
theorem wit_self (E : List Eg) (b : Int → Int) : wit E b b := fun _ => Or.inl rfl
end
section
/-! PURE: the score (rows: 0 notes, ways, loop's first and last, span; 1 pitches; 2 starts; 3, 4 ways; 5 costs), NEXT, the edges -/
abbrev Sc : Type := Nat → Int → Int
abbrev NV : Int := 1000000000
abbrev thr (S : Sc) (n : Int) : Prop := 0 ≤ n ∧ n < S 0 0 ∧ (S 0 2 < 0 ∨ (S 0 2 ≤ n ∧ n ≤ S 0 3))
def okSc (S : Sc) : Prop := (0 ≤ S 0 0 ∧ S 0 0 ≤ 60) ∧ (0 ≤ S 0 1 ∧ S 0 1 ≤ 12) ∧ ((S 0 2 = -1 ∧ S 0 3 = -1) ∨ (0 ≤ S 0 2 ∧ S 0 2 ≤ S 0 3 ∧ S 0 3 < S 0 0)) ∧ (0 ≤ S 0 4 ∧ S 0 4 ≤ 100) ∧ (∀ i, 0 ≤ i → i < S 0 0 → (0 ≤ S 1 i ∧ S 1 i ≤ 127) ∧ (0 ≤ S 2 i ∧ S 2 i ≤ 1000000)) ∧ (∀ i j, 0 ≤ i → i < j → j < S 0 0 → S 2 i < S 2 j) ∧ (∀ k, 0 ≤ k → k < S 0 1 → (0 ≤ S 3 k ∧ S 3 k < S 0 0) ∧ (0 ≤ S 4 k ∧ S 4 k < S 0 0)) ∧ (∀ k, 0 ≤ k → k < 5 → 0 ≤ S 5 k ∧ S 5 k ≤ 1000) ∧ 1 ≤ S 5 1 ∧ 1 ≤ S 5 2
def bhd (S : Sc) (p : Int) : Int := if 0 ≤ p then p + 1 else if 0 ≤ S 0 2 then S 0 2 else 0
/-- by the first k WAYS -/
def wyl (S : Sc) (p : Int) : Nat → List (Int × Int)
  | 0 => []
  | k + 1 => wyl S p k ++ (if S 3 (k : Nat) = p ∧ thr S p ∧ thr S (S 4 (k : Nat)) then [(S 4 (k : Nat), S 5 3)] else [])
def nx0 (S : Sc) (p : Int) : List (Int × Int) := if thr S (bhd S p) then [(bhd S p, 0)] else []
def nx1 (S : Sc) (p : Int) : List (Int × Int) := if 0 ≤ S 0 2 ∧ p = S 0 3 then [(S 0 2, 0)] else []
/-- NEXT of a place -/
def nx (S : Sc) (p : Int) : List (Int × Int) := nx0 S p ++ (nx1 S p ++ wyl S p (S 0 1).toNat)
/-- the edges from the first n places that are there (place 0 is -1) -/
def Eu (S : Sc) : Nat → List Eg
  | 0 => []
  | n + 1 => Eu S n ++ (if (n : Int) = 0 ∨ thr S ((n : Int) - 1) then (nx S ((n : Int) - 1)).map (fun q => ((n : Int) - 1, q.1, q.2)) else [])
/-- the same from all places -/
def Ev (S : Sc) : Nat → List Eg
  | 0 => []
  | n + 1 => Ev S n ++ (nx S ((n : Int) - 1)).map (fun q => ((n : Int) - 1, q.1, q.2))
def El (S : Sc) : List Eg := Eu S ((S 0 0).toNat + 1)
def Ew (S : Sc) : List Eg := Ev S ((S 0 0).toNat + 1)
def sk1 (S : Sc) (e : Eg) : Eg := (e.1, e.2.1, e.2.2 + S 5 2)
theorem wyl_mem {S : Sc} (hS : okSc S) {p : Int} {q : Int × Int} : ∀ {k : Nat}, q ∈ wyl S p k → thr S q.1 ∧ 0 ≤ q.2 ∧ q.2 ≤ 1000 ∧ thr S p := by
  intro k
  induction k with
  | zero => intro h; cases h
  | succ k ih =>
    intro h
    rcases List.mem_append.mp h with h | h
    · exact ih h
    · split at h
      next hc =>
        have := List.mem_singleton.mp h
        subst this
        have h5 := hS.2.2.2.2.2.2.2.1 3 (by omega) (by omega)
        exact ⟨hc.2.2, h5.1, h5.2, hc.2.1⟩
      next => cases h
theorem wyl_len (S : Sc) (p : Int) : ∀ k : Nat, (wyl S p k).length ≤ k := by
  intro k
  induction k with
  | zero => simp [wyl]
  | succ k ih => simp only [wyl, List.length_append]; split <;> simp <;> omega
theorem nx0_len (S : Sc) (p : Int) : (nx0 S p).length ≤ 1 := by unfold nx0; split <;> simp
theorem nx1_len (S : Sc) (p : Int) : (nx1 S p).length ≤ 1 := by unfold nx1; split <;> simp
theorem nx_len {S : Sc} (hS : okSc S) (p : Int) : (nx S p).length ≤ 14 := by
  have h1 := wyl_len S p (S 0 1).toNat
  have h2 := nx0_len S p
  have h3 := nx1_len S p
  have h4 := hS.2.1
  simp only [nx, List.length_append]
  omega
theorem nx_mem {S : Sc} (hS : okSc S) {p : Int} {q : Int × Int} (h : q ∈ nx S p) : thr S q.1 ∧ 0 ≤ q.2 ∧ q.2 ≤ 1000 := by
  rcases List.mem_append.mp h with h | h
  · unfold nx0 at h
    split at h
    next hc => have := List.mem_singleton.mp h; subst this; exact ⟨hc, by simp, by simp⟩
    next => cases h
  · rcases List.mem_append.mp h with h | h
    · unfold nx1 at h
      split at h
      next hc =>
        have := List.mem_singleton.mp h; subst this
        have := hS.2.2.1
        refine ⟨⟨by omega, by simp; omega, ?_⟩, by simp, by simp⟩
        right
        simp
        omega
      next => cases h
    · have := wyl_mem hS h; exact ⟨this.1, this.2.1, this.2.2.1⟩
theorem thr_lt {S : Sc} (hS : okSc S) {n : Int} (h : thr S n) : 0 ≤ n ∧ n < 60 := by have := hS.1; omega
theorem Eu_sub (S : Sc) : ∀ n : Nat, ∀ e ∈ Eu S n, e ∈ Ev S n := by
  intro n
  induction n with
  | zero => intro e h; cases h
  | succ n ih =>
    intro e h
    rcases List.mem_append.mp h with h | h
    · exact List.mem_append_left _ (ih e h)
    · split at h
      · exact List.mem_append_right _ h
      · cases h
theorem Ev_mem {S : Sc} (hS : okSc S) : ∀ (n : Nat) (e : Eg), e ∈ Ev S n → (-1 ≤ e.1 ∧ e.1 < (n : Int) - 1) ∧ thr S e.2.1 ∧ 0 ≤ e.2.2 ∧ e.2.2 ≤ 1000 ∧ (e.2.1, e.2.2) ∈ nx S e.1 := by
  intro n
  induction n with
  | zero => intro e h; cases h
  | succ n ih =>
    intro e h
    rcases List.mem_append.mp h with h | h
    · have := ih e h; exact ⟨⟨this.1.1, by omega⟩, this.2⟩
    · obtain ⟨q, hq, rfl⟩ := List.mem_map.mp h
      have := nx_mem hS hq
      exact ⟨⟨by simp; omega, by simp; omega⟩, this.1, this.2.1, this.2.2, hq⟩
theorem Ew_mem {S : Sc} (hS : okSc S) {e : Eg} (h : e ∈ Ew S) : (-1 ≤ e.1 ∧ e.1 < S 0 0) ∧ thr S e.2.1 ∧ 0 ≤ e.2.2 ∧ e.2.2 ≤ 1000 ∧ (e.2.1, e.2.2) ∈ nx S e.1 := by
  have h1 := Ev_mem hS _ e h
  have h2 := hS.1
  exact ⟨⟨h1.1.1, by omega⟩, h1.2⟩
theorem El_mem {S : Sc} (hS : okSc S) {e : Eg} (h : e ∈ El S) : (-1 ≤ e.1 ∧ e.1 < S 0 0) ∧ thr S e.2.1 ∧ 0 ≤ e.2.2 ∧ e.2.2 ≤ 1000 ∧ (e.2.1, e.2.2) ∈ nx S e.1 := Ew_mem hS (Eu_sub S _ e h)
theorem Eu_from {S : Sc} : ∀ (n : Nat) (e : Eg), e ∈ Eu S n → e.1 = -1 ∨ thr S e.1 := by
  intro n
  induction n with
  | zero => intro e h; cases h
  | succ n ih =>
    intro e h
    rcases List.mem_append.mp h with h | h
    · exact ih e h
    · split at h
      next hc =>
        obtain ⟨q, hq, rfl⟩ := List.mem_map.mp h
        rcases hc with hc | hc
        · left; simp; omega
        · right; exact hc
      next => cases h
theorem Eu_in {S : Sc} : ∀ (n : Nat) (p : Int) (q : Int × Int), -1 ≤ p → p < (n : Int) - 1 → (p = -1 ∨ thr S p) → q ∈ nx S p → (p, q.1, q.2) ∈ Eu S n := by
  intro n
  induction n with
  | zero => intro p q h1 h2; omega
  | succ n ih =>
    intro p q h1 h2 h3 h4
    by_cases hp : p = (n : Int) - 1
    · refine List.mem_append_right _ ?_
      rw [if_pos (by rcases h3 with h | h; left; omega; right; rw [← hp]; exact h)]
      exact List.mem_map.mpr ⟨q, by rw [← hp]; exact h4, by rw [hp]⟩
    · exact List.mem_append_left _ (ih p q h1 (by omega) h3 h4)
theorem El_in {S : Sc} (hS : okSc S) {p : Int} {q : Int × Int} (h : p = -1 ∨ thr S p) (hq : q ∈ nx S p) : (p, q.1, q.2) ∈ El S := by
  have := hS.1
  refine Eu_in _ p q ?_ ?_ h hq
  · rcases h with h | h <;> omega
  · rcases h with h | h
    · omega
    · have := h.2.1; omega
theorem okE_sk {S : Sc} (hS : okSc S) {E : List Eg} (h : ∀ e ∈ E, e ∈ Ew S) : okE (E.map (sk1 S)) := by
  intro e he
  obtain ⟨f, hf, rfl⟩ := List.mem_map.mp he
  have h1 := Ew_mem hS (h f hf)
  have h2 := hS.1
  have h3 := hS.2.2.2.2.2.2.2.2.2
  have h4 := thr_lt hS h1.2.1
  exact ⟨⟨h1.1.1, by simp only [sk1]; omega⟩, ⟨by simp only [sk1]; omega, by simp only [sk1]; omega⟩, by simp only [sk1]; omega⟩
/-! how many edges there are -/
def wcnt (S : Sc) (b : Int) : Nat → Nat
  | 0 => 0
  | k + 1 => wcnt S b k + (if S 3 (k : Nat) < b then 1 else 0)
theorem wcnt_le (S : Sc) (b : Int) : ∀ k : Nat, wcnt S b k ≤ k := by
  intro k
  induction k with
  | zero => simp [wcnt]
  | succ k ih => simp only [wcnt]; split <;> omega
theorem wcnt_wyl (S : Sc) (b : Int) : ∀ k : Nat, wcnt S b k + (wyl S b k).length ≤ wcnt S (b + 1) k := by
  intro k
  induction k with
  | zero => simp [wcnt, wyl]
  | succ k ih =>
    simp only [wcnt, wyl, List.length_append]
    split <;> split <;> split <;> simp <;> omega
theorem Eu_len {S : Sc} (hS : okSc S) : ∀ n : Nat, (Eu S n).length ≤ n + (if 0 ≤ S 0 2 ∧ S 0 3 < (n : Int) - 1 then 1 else 0) + wcnt S ((n : Int) - 1) (S 0 1).toNat := by
  intro n
  induction n with
  | zero => simp [Eu]
  | succ n ih =>
    have h1 := wcnt_wyl S ((n : Int) - 1) (S 0 1).toNat
    have h0 := nx0_len S ((n : Int) - 1)
    have e1 : ((n + 1 : Nat) : Int) - 1 = (n : Int) - 1 + 1 := by omega
    rw [e1]
    have h2 : (nx1 S ((n : Int) - 1)).length + (if 0 ≤ S 0 2 ∧ S 0 3 < (n : Int) - 1 then 1 else 0) ≤ (if 0 ≤ S 0 2 ∧ S 0 3 < (n : Int) - 1 + 1 then 1 else 0) := by
      unfold nx1
      split <;> split <;> split <;> simp <;> omega
    have h3 : (Eu S (n + 1)).length ≤ (Eu S n).length + (nx S ((n : Int) - 1)).length := by
      simp only [Eu, List.length_append]
      split <;> simp
    have h4 : (nx S ((n : Int) - 1)).length = (nx0 S ((n : Int) - 1)).length + ((nx1 S ((n : Int) - 1)).length + (wyl S ((n : Int) - 1) (S 0 1).toNat).length) := by simp [nx]
    omega
theorem Eu_mono (S : Sc) : ∀ (n m : Nat), n ≤ m → (Eu S n).length ≤ (Eu S m).length := by
  intro n m h
  induction h with
  | refl => exact Nat.le_refl _
  | step _ ih => refine Nat.le_trans ih ?_; simp [Eu]
theorem El_len {S : Sc} (hS : okSc S) : (El S).length ≤ 74 := by
  have h := Eu_len hS ((S 0 0).toNat + 1)
  have h1 := wcnt_le S (((S 0 0).toNat + 1 : Nat) - 1) (S 0 1).toNat
  have h2 := hS.1
  have h3 := hS.2.1
  unfold El
  split at h <;> omega
end
section
/-! PURE: following, an EVENT on -/
def lw (t : Int → Int) (i v : Int) : Int → Int := fun j => if j = i then min (t j) v else t j
def least (c : Int → Int) : Nat → Int
  | 0 => NV
  | n + 1 => min (least c n) (c (n : Nat))
def wr (S : Sc) (n pit : Int) : Int := if S 1 n = pit then 0 else S 5 0
def ab (x : Int) : Int := if 0 ≤ x then x else -x
def tk0 (S : Sc) (c : Int → Int) : Int → Int := fun j => min NV (c j + S 5 1)
def tk1 (S : Sc) (t : Int → Int) (v pit : Int) : Nat → (Int → Int)
  | 0 => t
  | n + 1 => if thr S (n : Nat) then lw (tk1 S t v pit n) ((n : Nat) + 1) (v + wr S (n : Nat) pit) else tk1 S t v pit n
def tk2 (S : Sc) (c : Int → Int) (pit : Int) (E : List Eg) (t : Int → Int) : Int → Int := E.foldl (fun t e => lw t (e.2.1 + 1) (c (e.1 + 1) + e.2.2 + wr S e.2.1 pit)) t
def chF (t : Int → Int) (goal : Int) : Nat → Int
  | 0 => -1
  | n + 1 => if t ((n : Nat) + 1) - t (chF t goal n + 1) < 0 ∨ (t ((n : Nat) + 1) - t (chF t goal n + 1) = 0 ∧ ab ((n : Nat) - goal) < ab (chF t goal n - goal)) then (n : Nat) else chF t goal n
def fgt (S : Sc) (t : Int → Int) (P : Int) : Int → Int := fun j => if 0 ≤ j ∧ j ≤ S 0 0 ∧ S 0 4 < ab (j - 1 - P) then NV else t j
def fwdC (S : Sc) (v : Int → Int) : Int → Int := rep ((El S).map (sk1 S)) 61 v
def fwdT (S : Sc) (c : Int → Int) (pit : Int) : Int → Int := tk2 S c pit (El S) (tk1 S (tk0 S c) (least c ((S 0 0).toNat + 1) + S 5 4) pit (S 0 0).toNat)
def fwdP (S : Sc) (t : Int → Int) (P : Int) : Int := chF t (P + 1) (S 0 0).toNat
def v00 : Int → Int := fun j => if j = 0 then 0 else NV
/-- the VALUES and THE PLACE behind k EVENTS with the pitches hp -/
def FVP (S : Sc) (hp : Int → Int) : Nat → (Int → Int) × Int
  | 0 => (v00, -1)
  | k + 1 => (fgt S (fwdT S (fwdC S (FVP S hp k).1) (hp (k : Nat))) (fwdP S (fwdT S (fwdC S (FVP S hp k).1) (hp (k : Nat))) (FVP S hp k).2), fwdP S (fwdT S (fwdC S (FVP S hp k).1) (hp (k : Nat))) (FVP S hp k).2)
/-- values: within 0 .. NV; none where no place is; if one, at most B -/
def dd (S : Sc) (B : Int) (c : Int → Int) : Prop := (∀ j, 0 ≤ c j ∧ c j ≤ NV) ∧ (∀ j, (j < 0 ∨ (0 < j ∧ ¬ thr S (j - 1))) → c j = NV) ∧ ∀ j, c j < NV → c j ≤ B
theorem dd_lo1 {S : Sc} {B : Int} {c : Int → Int} {e : Eg} (h : dd S B c) (h1 : -1 ≤ e.1) (h2 : thr S e.2.1) (h3 : 0 ≤ e.2.2 ∧ e.2.2 ≤ 2000) : dd S (B + 2000) (lo1 c e) := by
  obtain ⟨d1, d2, d3⟩ := h
  have hx := d1 (e.1 + 1)
  have hy := d1 (e.2.1 + 1)
  refine ⟨fun j => ?_, fun j hj => ?_, fun j hj => ?_⟩
  · have := d1 j
    unfold lo1
    split
    · simp only; split <;> omega
    · omega
  · unfold lo1
    split
    · simp only
      rw [if_neg ?_]
      · exact d2 j hj
      · intro hq
        subst hq
        rcases hj with hj | hj
        · omega
        · apply hj.2
          rw [show e.2.1 + 1 - 1 = e.2.1 by omega]
          exact h2
    · exact d2 j hj
  · unfold lo1 at hj ⊢
    split at hj
    next hlt =>
      rw [if_pos hlt] 
      simp only at hj ⊢
      split at hj
      next hq =>
        rw [if_pos hq]
        have := d3 (e.1 + 1) (by omega)
        omega
      next hq =>
        rw [if_neg hq]
        have := d3 j hj
        omega
    next hlt =>
      rw [if_neg hlt]
      have := d3 j hj
      omega
theorem dd_rnd {S : Sc} : ∀ (E : List Eg) (B : Int) (c : Int → Int), (∀ e ∈ E, -1 ≤ e.1 ∧ thr S e.2.1 ∧ 0 ≤ e.2.2 ∧ e.2.2 ≤ 2000) → dd S B c → dd S (B + 2000 * E.length) (rnd E c) := by
  intro E
  induction E with
  | nil => intro B c _ h; simpa [rnd] using h
  | cons e E ih =>
    intro B c hE h
    have h1 := hE e List.mem_cons_self
    have := ih (B + 2000) (lo1 c e) (fun f hf => hE f (List.mem_cons_of_mem _ hf)) (dd_lo1 h h1.1 h1.2.1 h1.2.2)
    rw [show B + 2000 + 2000 * (E.length : Int) = B + 2000 * ((e :: E).length : Int) by simp; omega] at this
    exact this
theorem dd_rep {S : Sc} {E : List Eg} (hE : ∀ e ∈ E, -1 ≤ e.1 ∧ thr S e.2.1 ∧ 0 ≤ e.2.2 ∧ e.2.2 ≤ 2000) {L : Int} (hL : 2000 * (E.length : Int) ≤ L) (h0 : 0 ≤ L) : ∀ (n : Nat) (B : Int) (c : Int → Int), dd S B c → dd S (B + L * n) (rep E n c) := by
  intro n
  induction n with
  | zero => intro B c h; simpa [rep] using h
  | succ n ih =>
    intro B c h
    have h1 := dd_rnd E B c hE h
    have h2 : dd S (B + L) (rnd E c) := ⟨h1.1, h1.2.1, fun j hj => by have := h1.2.2 j hj; omega⟩
    have h3 := ih (B + L) (rnd E c) h2
    have e1 : B + L + L * (n : Int) = B + L * ((n + 1 : Nat) : Int) := by
      rw [show ((n + 1 : Nat) : Int) = (n : Int) + 1 by omega, Int.mul_add]; omega
    rw [e1] at h3
    exact h3
theorem sk_ok {S : Sc} (hS : okSc S) {E : List Eg} (h : ∀ e ∈ E, e ∈ Ew S) : ∀ e ∈ E.map (sk1 S), -1 ≤ e.1 ∧ thr S e.2.1 ∧ 0 ≤ e.2.2 ∧ e.2.2 ≤ 2000 := by
  intro e he
  obtain ⟨f, hf, rfl⟩ := List.mem_map.mp he
  have h1 := Ew_mem hS (h f hf)
  have h3 := hS.2.2.2.2.2.2.2.1 2 (by omega) (by omega)
  refine ⟨h1.1.1, h1.2.1, ?_, ?_⟩ <;> simp only [sk1] <;> omega
theorem dd_fwdC {S : Sc} (hS : okSc S) {B : Int} {v : Int → Int} (h : dd S B v) : dd S (B + 9028000) (fwdC S v) := by
  have hl := El_len hS
  have := dd_rep (E := (El S).map (sk1 S)) (sk_ok hS (fun e he => Eu_sub S _ e he)) (L := 148000) (by rw [List.length_map]; omega) (by omega) 61 B v h
  exact this
/-- from where there is no value nothing comes: edges from all places, or from those that are there -/
theorem rnd_Ev {S : Sc} (hS : okSc S) : ∀ (n : Nat) (B : Int) (c : Int → Int), (n : Int) ≤ S 0 0 + 1 → dd S B c → rnd ((Ev S n).map (sk1 S)) c = rnd ((Eu S n).map (sk1 S)) c := by
  intro n
  induction n with
  | zero => intro B c _ h; rfl
  | succ n ih =>
    intro B c hn h
    have e0 : ∀ (E F : List Eg) (c : Int → Int), rnd ((E ++ F).map (sk1 S)) c = rnd (F.map (sk1 S)) (rnd (E.map (sk1 S)) c) := by
      intro E F c; simp [rnd, List.map_append, List.foldl_append]
    simp only [Ev, Eu]
    rw [e0, e0, ih B c (by omega) h]
    split
    next => rfl
    next hc =>
      have hdn := dd_rnd ((Eu S n).map (sk1 S)) B c (sk_ok hS (fun e he => by
        have hm := Eu_sub S n e he
        have : ∀ m, n ≤ m → e ∈ Ev S m := by
          intro m hm2
          induction hm2 with
          | refl => exact hm
          | step _ ih2 => exact List.mem_append_left _ ih2
        exact this _ (by omega))) h
      apply rnd_att
      intro e he
      obtain ⟨f, hf, rfl⟩ := List.mem_map.mp he
      obtain ⟨q, hq, rfl⟩ := List.mem_map.mp hf
      have h1 : rnd ((Eu S n).map (sk1 S)) c ((n : Int) - 1 + 1) = NV := hdn.2.1 _ (Or.inr ⟨by omega, by rw [show (n : Int) - 1 + 1 - 1 = (n : Int) - 1 by omega]; exact fun q => hc (Or.inr q)⟩)
      have h2 := hdn.1 (q.1 + 1)
      have h3 := nx_mem hS hq
      have h4 := hS.2.2.2.2.2.2.2.2.2
      unfold att
      simp only [sk1]
      omega
theorem rep_Ew {S : Sc} (hS : okSc S) : ∀ (n : Nat) (B : Int) (c : Int → Int), dd S B c → rep ((Ew S).map (sk1 S)) n c = rep ((El S).map (sk1 S)) n c := by
  intro n
  induction n with
  | zero => intro B c _; rfl
  | succ n ih =>
    intro B c h
    have hs := hS.1
    have h1 : rnd ((Ew S).map (sk1 S)) c = rnd ((El S).map (sk1 S)) c := rnd_Ev hS _ B c (by omega) h
    show rep ((Ew S).map (sk1 S)) n (rnd ((Ew S).map (sk1 S)) c) = rep ((El S).map (sk1 S)) n (rnd ((El S).map (sk1 S)) c)
    rw [h1]
    exact ih _ _ (dd_rnd _ B c (sk_ok hS (fun e he => Eu_sub S _ e he)) h)
/-- the least value -/
theorem least_le (c : Int → Int) : ∀ (n : Nat), least c n ≤ NV ∧ ∀ i : Nat, i < n → least c n ≤ c (i : Nat) := by
  intro n
  induction n with
  | zero => exact ⟨Int.le_refl _, fun i h => by omega⟩
  | succ n ih =>
    refine ⟨by have := ih.1; simp only [least]; omega, fun i hi => ?_⟩
    simp only [least]
    by_cases h : i = n
    · subst h; omega
    · have := ih.2 i (by omega); omega
theorem least_nn {c : Int → Int} (h : ∀ j, 0 ≤ c j) : ∀ n : Nat, 0 ≤ least c n := by
  intro n
  induction n with
  | zero => simp [least]
  | succ n ih => have := h (n : Nat); simp only [least]; omega
theorem least_more {c : Int → Int} {n m : Nat} (h : n ≤ m) (hc : ∀ i : Nat, n ≤ i → i < m → c (i : Nat) = NV) : least c m = least c n := by
  induction h with
  | refl => rfl
  | step hm ih =>
    rename_i m
    have h1 := ih (fun i h1 h2 => hc i h1 (by omega))
    have h2 := hc m hm (by omega)
    have h3 := (least_le c n).1
    simp only [least]
    rw [h1, h2]
    omega
theorem lw_le (t : Int → Int) (i v j : Int) : lw t i v j ≤ t j := by unfold lw; split <;> omega
theorem wr_in {S : Sc} (hS : okSc S) (n pit : Int) : 0 ≤ wr S n pit ∧ wr S n pit ≤ 1000 := by
  have h := hS.2.2.2.2.2.2.2.1 0 (by omega) (by omega)
  unfold wr
  split <;> omega
/-- a row of new values: within 0 .. NV, none where no note is there -/
def dt (S : Sc) (t : Int → Int) : Prop := (∀ j, 0 ≤ t j ∧ t j ≤ NV) ∧ ∀ j, (j < 0 ∨ (0 < j ∧ ¬ thr S (j - 1))) → t j = NV
theorem dt_lw {S : Sc} {t : Int → Int} {n v : Int} (h : dt S t) (hn : thr S n) (hv : 0 ≤ v) : dt S (lw t (n + 1) v) := by
  refine ⟨fun j => ?_, fun j hj => ?_⟩
  · have := h.1 j
    unfold lw
    split <;> omega
  · unfold lw
    rw [if_neg ?_]
    · exact h.2 j hj
    · intro hq
      subst hq
      rcases hj with hj | hj
      · omega
      · apply hj.2
        rw [show n + 1 - 1 = n by omega]
        exact hn
theorem dt_tk0 {S : Sc} (hS : okSc S) {B : Int} {c : Int → Int} (h : dd S B c) : dt S (tk0 S c) := by
  have h1 := hS.2.2.2.2.2.2.2.2.1
  refine ⟨fun j => ?_, fun j hj => ?_⟩
  · have := h.1 j; unfold tk0; omega
  · have := h.2.1 j hj; unfold tk0; omega
theorem dt_tk1 {S : Sc} (hS : okSc S) {t : Int → Int} {v pit : Int} (h : dt S t) (hv : 0 ≤ v) : ∀ n : Nat, dt S (tk1 S t v pit n) := by
  intro n
  induction n with
  | zero => exact h
  | succ n ih =>
    simp only [tk1]
    split
    next hc => exact dt_lw ih hc (by have := wr_in hS (n : Nat) pit; omega)
    next => exact ih
theorem tk1_le (S : Sc) (t : Int → Int) (v pit : Int) : ∀ (n : Nat) (j : Int), tk1 S t v pit n j ≤ t j := by
  intro n
  induction n with
  | zero => intro j; exact Int.le_refl _
  | succ n ih =>
    intro j
    simp only [tk1]
    split
    · exact Int.le_trans (lw_le _ _ _ _) (ih j)
    · exact ih j
theorem tk1_at {S : Sc} {t : Int → Int} {v pit : Int} : ∀ (n i : Nat), i < n → thr S (i : Nat) → tk1 S t v pit n ((i : Nat) + 1) ≤ v + wr S (i : Nat) pit := by
  intro n
  induction n with
  | zero => intro i h; omega
  | succ n ih =>
    intro i hi ht
    simp only [tk1]
    by_cases h : i = n
    · subst h
      rw [if_pos ht]
      unfold lw
      rw [if_pos rfl]
      omega
    · have := ih i (by omega) ht
      split
      · exact Int.le_trans (lw_le _ _ _ _) this
      · exact this
theorem tk2_le (S : Sc) (c : Int → Int) (pit : Int) : ∀ (E : List Eg) (t : Int → Int) (j : Int), tk2 S c pit E t j ≤ t j := by
  intro E
  induction E with
  | nil => intro t j; exact Int.le_refl _
  | cons e E ih => intro t j; exact Int.le_trans (ih _ j) (lw_le _ _ _ _)
theorem dt_tk2 {S : Sc} (hS : okSc S) {c : Int → Int} {pit : Int} (hc : ∀ j, 0 ≤ c j) : ∀ (E : List Eg) (t : Int → Int), (∀ e ∈ E, e ∈ Ew S) → dt S t → dt S (tk2 S c pit E t) := by
  intro E
  induction E with
  | nil => intro t _ h; exact h
  | cons e E ih =>
    intro t hE h
    have h1 := Ew_mem hS (hE e List.mem_cons_self)
    have h2 := wr_in hS e.2.1 pit
    have h3 := hc (e.1 + 1)
    exact ih _ (fun f hf => hE f (List.mem_cons_of_mem _ hf)) (dt_lw h h1.2.1 (by omega))
theorem tk2_Ev {S : Sc} (hS : okSc S) {B : Int} {c : Int → Int} {pit : Int} (h : dd S B c) : ∀ (n : Nat) (t : Int → Int), (n : Int) ≤ S 0 0 + 1 → dt S t → tk2 S c pit (Ev S n) t = tk2 S c pit (Eu S n) t := by
  intro n
  induction n with
  | zero => intro t _ _; rfl
  | succ n ih =>
    intro t hn ht
    have e0 : ∀ (E F : List Eg) (t : Int → Int), tk2 S c pit (E ++ F) t = tk2 S c pit F (tk2 S c pit E t) := by
      intro E F t; simp [tk2, List.foldl_append]
    simp only [Ev, Eu]
    rw [e0, e0, ih t (by omega) ht]
    split
    next => rfl
    next hc =>
      have hin : ∀ e ∈ Eu S n, e ∈ Ew S := by
        intro e he
        have hm := Eu_sub S n e he
        have : ∀ m, n ≤ m → e ∈ Ev S m := by
          intro m hm2
          induction hm2 with
          | refl => exact hm
          | step _ ih2 => exact List.mem_append_left _ ih2
        exact this _ (by omega)
      have hdt := dt_tk2 hS (pit := pit) (fun j => (h.1 j).1) (Eu S n) t hin ht
      generalize tk2 S c pit (Eu S n) t = u at hdt
      have key : ∀ (F : List Eg), (∀ e ∈ F, e.1 = (n : Int) - 1 ∧ (e.2.1, e.2.2) ∈ nx S ((n : Int) - 1)) → tk2 S c pit F u = u := by
        intro F
        induction F with
        | nil => intro _; rfl
        | cons e F ih2 =>
          intro hF
          have h1 := hF e List.mem_cons_self
          have h2 : c (e.1 + 1) = NV := h.2.1 _ (Or.inr ⟨by omega, by rw [h1.1, show (n : Int) - 1 + 1 - 1 = (n : Int) - 1 by omega]; exact fun q => hc (Or.inr q)⟩)
          have h3 := nx_mem hS h1.2
          have h4 := wr_in hS e.2.1 pit
          have h5 : lw u (e.2.1 + 1) (c (e.1 + 1) + e.2.2 + wr S e.2.1 pit) = u := by
            funext j
            unfold lw
            split
            · have := hdt.1 j; simp only at h3; omega
            · rfl
          show tk2 S c pit F (lw u (e.2.1 + 1) (c (e.1 + 1) + e.2.2 + wr S e.2.1 pit)) = u
          rw [h5]
          exact ih2 (fun f hf => hF f (List.mem_cons_of_mem _ hf))
      exact key _ (fun e he => by obtain ⟨q, hq, rfl⟩ := List.mem_map.mp he; exact ⟨rfl, hq⟩)
/-- the place that is chosen has the least value -/
theorem chF_in (t : Int → Int) (goal : Int) : ∀ n : Nat, -1 ≤ chF t goal n ∧ chF t goal n < n ∧ ∀ i : Nat, i ≤ n → t (chF t goal n + 1) ≤ t (i : Nat) := by
  intro n
  induction n with
  | zero =>
    refine ⟨by simp [chF], by simp [chF], fun i hi => ?_⟩
    have : i = 0 := by omega
    subst this
    simp [chF]
  | succ n ih =>
    obtain ⟨h1, h2, h3⟩ := ih
    simp only [chF]
    split
    next hc =>
      refine ⟨by omega, by omega, fun i hi => ?_⟩
      by_cases h : i = n + 1
      · subst h; rw [show ((n + 1 : Nat) : Int) = (n : Int) + 1 by omega]; exact Int.le_refl _
      · have := h3 i (by omega); omega
    next hc =>
      refine ⟨h1, by omega, fun i hi => ?_⟩
      by_cases h : i = n + 1
      · subst h; rw [show ((n + 1 : Nat) : Int) = (n : Int) + 1 by omega]; omega
      · exact h3 i (by omega)
theorem ab_nn (x : Int) : 0 ≤ ab x := by unfold ab; split <;> omega
theorem ab_0 : ab 0 = 0 := rfl
end
section
/-! PURE: what is kept while EVENTS come -/
theorem thr_ex {S : Sc} (hS : okSc S) (h : 0 < S 0 0) : ∃ n : Int, thr S n := by
  have := hS.2.2.1
  by_cases h2 : S 0 2 < 0
  · exact ⟨0, by omega, h, Or.inl h2⟩
  · exact ⟨S 0 2, by omega, by omega, Or.inr ⟨Int.le_refl _, by omega⟩⟩
theorem rnd_0 {S : Sc} : ∀ (E : List Eg) (c : Int → Int), (∀ e ∈ E, thr S e.2.1) → rnd E c 0 = c 0 := by
  intro E
  induction E with
  | nil => intro c _; rfl
  | cons e E ih =>
    intro c h
    have h1 := h e List.mem_cons_self
    show rnd E (lo1 c e) 0 = c 0
    rw [ih _ (fun f hf => h f (List.mem_cons_of_mem _ hf))]
    unfold lo1
    split
    · simp only; rw [if_neg (by omega)]
    · rfl
theorem rep_0 {S : Sc} {E : List Eg} (h : ∀ e ∈ E, thr S e.2.1) : ∀ (n : Nat) (c : Int → Int), rep E n c 0 = c 0 := by
  intro n
  induction n with
  | zero => intro c; rfl
  | succ n ih => intro c; show rep E n (rnd E c) 0 = c 0; rw [ih, rnd_0 E c h]
theorem tk1_0 (S : Sc) (t : Int → Int) (v pit : Int) : ∀ n : Nat, tk1 S t v pit n 0 = t 0 := by
  intro n
  induction n with
  | zero => rfl
  | succ n ih =>
    simp only [tk1]
    split
    · unfold lw; rw [if_neg (by omega)]; exact ih
    · exact ih
theorem tk2_0 {S : Sc} (hS : okSc S) (c : Int → Int) (pit : Int) : ∀ (E : List Eg) (t : Int → Int), (∀ e ∈ E, e ∈ Ew S) → tk2 S c pit E t 0 = t 0 := by
  intro E
  induction E with
  | nil => intro t _; rfl
  | cons e E ih =>
    intro t h
    have h1 := Ew_mem hS (h e List.mem_cons_self)
    show tk2 S c pit E (lw t (e.2.1 + 1) _) 0 = t 0
    rw [ih _ (fun f hf => h f (List.mem_cons_of_mem _ hf))]
    unfold lw
    rw [if_neg (by omega)]
/-- behind an EVENT -/
theorem fwd_ok {S : Sc} (hS : okSc S) (hn : 0 < S 0 0) {B : Int} {v : Int → Int} {P pit : Int} (hB : 0 ≤ B ∧ B ≤ 900000000) (h : dd S B v) (hP : P = -1 ∨ thr S P) (hf : v (P + 1) < NV) :
    dt S (fwdT S (fwdC S v) pit) ∧ (fwdP S (fwdT S (fwdC S v) pit) P = -1 ∨ thr S (fwdP S (fwdT S (fwdC S v) pit) P)) ∧ fwdT S (fwdC S v) pit (fwdP S (fwdT S (fwdC S v) pit) P + 1) < NV ∧ dd S (B + 2000) (fgt S (fwdT S (fwdC S v) pit) (fwdP S (fwdT S (fwdC S v) pit) P)) ∧ fgt S (fwdT S (fwdC S v) pit) (fwdP S (fwdT S (fwdC S v) pit) P) (fwdP S (fwdT S (fwdC S v) pit) P + 1) < NV := by
  have hNV : NV = 1000000000 := rfl
  have hc := dd_fwdC hS h
  have hle : ∀ j, fwdC S v j ≤ v j := fun j => rep_le _ 61 v j
  have hc0 : fwdC S v 0 = v 0 := rep_0 (S := S) (fun e he => (sk_ok hS (fun f hf => Eu_sub S _ f hf) e he).2.1) 61 v
  generalize fwdC S v = c at hc hle hc0 ⊢
  have hn60 := hS.1
  have hcost := hS.2.2.2.2.2.2.2.1
  have hL : least c ((S 0 0).toNat + 1) ≤ B := by
    have h1 := (least_le c ((S 0 0).toNat + 1)).2 (P + 1).toNat (by rcases hP with hP | hP <;> omega)
    have h2 : (((P + 1).toNat : Nat) : Int) = P + 1 := by rcases hP with hP | hP <;> omega
    rw [h2] at h1
    have h3 := hle (P + 1)
    have h4 := h.2.2 (P + 1) hf
    omega
  have hL0 : 0 ≤ least c ((S 0 0).toNat + 1) := least_nn (fun j => (hc.1 j).1) _
  have c4 := hcost 4 (by omega) (by omega)
  have hdt0 := dt_tk0 hS hc
  have hdt1 := dt_tk1 hS (v := least c ((S 0 0).toNat + 1) + S 5 4) (pit := pit) hdt0 (by omega) (S 0 0).toNat
  have hdt := dt_tk2 hS (c := c) (pit := pit) (fun j => (hc.1 j).1) (El S) _ (fun e he => Eu_sub S _ e he) hdt1
  have ht0 : fwdT S c pit 0 = min NV (v 0 + S 5 1) := by
    unfold fwdT
    rw [tk2_0 hS c pit (El S) _ (fun e he => Eu_sub S _ e he), tk1_0]
    unfold tk0
    rw [hc0]
  have hthr : ∀ n : Int, thr S n → fwdT S c pit (n + 1) ≤ B + 2000 := by
    intro n hn
    have h1 := tk2_le S c pit (El S) (tk1 S (tk0 S c) (least c ((S 0 0).toNat + 1) + S 5 4) pit (S 0 0).toNat) (n + 1)
    have hi : ((n.toNat : Nat) : Int) = n := by omega
    have h2 := tk1_at (S := S) (t := tk0 S c) (v := least c ((S 0 0).toNat + 1) + S 5 4) (pit := pit) (S 0 0).toNat n.toNat (by omega) (by rw [hi]; exact hn)
    rw [hi] at h2
    have h3 := wr_in hS n pit
    unfold fwdT
    omega
  have hdt : dt S (fwdT S c pit) := hdt
  generalize fwdT S c pit = t at hdt ht0 hthr ⊢
  obtain ⟨n0, hn0⟩ := thr_ex hS hn
  have hP1 := chF_in t (P + 1) (S 0 0).toNat
  have hlt : t (fwdP S t P + 1) < NV := by
    have h1 := hP1.2.2 (n0 + 1).toNat (by omega)
    have h2 : (((n0 + 1).toNat : Nat) : Int) = n0 + 1 := by omega
    rw [h2] at h1
    have h3 := hthr n0 hn0
    unfold fwdP
    omega
  have hPt : fwdP S t P = -1 ∨ thr S (fwdP S t P) := by
    by_cases hq : fwdP S t P = -1
    · exact Or.inl hq
    · right
      have hge : -1 ≤ fwdP S t P := hP1.1
      by_cases ht : thr S (fwdP S t P)
      · exact ht
      · have := hdt.2 (fwdP S t P + 1) (Or.inr ⟨by omega, by rw [show fwdP S t P + 1 - 1 = fwdP S t P by omega]; exact ht⟩)
        omega
  refine ⟨hdt, hPt, hlt, ⟨fun j => ?_, fun j hj => ?_, fun j hj => ?_⟩, ?_⟩
  · have := hdt.1 j
    unfold fgt
    split <;> omega
  · unfold fgt
    split
    · rfl
    · exact hdt.2 j hj
  · unfold fgt at hj ⊢
    split at hj
    · omega
    next hq =>
      rw [if_neg hq]
      by_cases h0 : j = 0
      · subst h0
        rw [ht0] at hj ⊢
        have c1 := hcost 1 (by omega) (by omega)
        have := h.2.2 0 (by omega)
        omega
      · by_cases ht : thr S (j - 1)
        · have := hthr (j - 1) ht
          rw [show j - 1 + 1 = j by omega] at this
          exact this
        · have := hdt.2 j (by omega)
          omega
  · unfold fgt
    have hsp := hS.2.2.2.1
    have e1 : fwdP S t P + 1 - 1 - fwdP S t P = 0 := by omega
    rw [e1, ab_0, if_neg (by omega)]
    exact hlt
theorem FVP_ok {S : Sc} (hS : okSc S) (hn : 0 < S 0 0) (hp : Int → Int) : ∀ k : Nat, k ≤ 120 → dd S (2000 * (k : Nat)) (FVP S hp k).1 ∧ ((FVP S hp k).2 = -1 ∨ thr S (FVP S hp k).2) ∧ (FVP S hp k).1 ((FVP S hp k).2 + 1) < NV := by
  intro k
  induction k with
  | zero =>
    intro _
    have hNV : NV = 1000000000 := rfl
    refine ⟨⟨fun j => ?_, fun j hj => ?_, fun j hj => ?_⟩, Or.inl rfl, ?_⟩
    · show 0 ≤ v00 j ∧ v00 j ≤ NV
      unfold v00; split <;> omega
    · show v00 j = NV
      unfold v00; rw [if_neg (by omega)]
    · have hj : v00 j < NV := hj
      show v00 j ≤ _
      unfold v00 at hj ⊢
      split at hj
      · rw [if_pos (by assumption)]; omega
      · omega
    · show v00 (-1 + 1) < NV
      unfold v00; simp; omega
  | succ k ih =>
    intro hk
    obtain ⟨h1, h2, h3⟩ := ih (by omega)
    have := fwd_ok hS hn (pit := hp (k : Nat)) ⟨by omega, by omega⟩ h1 h2 h3
    refine ⟨?_, this.2.1, this.2.2.2.2⟩
    have e1 : (2000 : Int) * ((k + 1 : Nat) : Int) = 2000 * (k : Nat) + 2000 := by omega
    rw [e1]
    exact this.2.2.2.1
theorem rep_cong {E : List Eg} (hE : okE E) : ∀ (n : Nat) (c c2 : Int → Int), (∀ j, 0 ≤ j → j ≤ 60 → c j = c2 j) → ∀ j, 0 ≤ j → j ≤ 60 → rep E n c j = rep E n c2 j := by
  have h1 : ∀ (F : List Eg), (∀ e ∈ F, e ∈ E) → ∀ (c c2 : Int → Int), (∀ j, 0 ≤ j → j ≤ 60 → c j = c2 j) → ∀ j, 0 ≤ j → j ≤ 60 → rnd F c j = rnd F c2 j := by
    intro F
    induction F with
    | nil => intro _ c c2 h j a b; exact h j a b
    | cons e F ih =>
      intro hF c c2 h
      have he := hE e (hF e List.mem_cons_self)
      refine ih (fun f hf => hF f (List.mem_cons_of_mem _ hf)) (lo1 c e) (lo1 c2 e) (fun j a b => ?_)
      unfold lo1
      rw [h (e.1 + 1) (by omega) (by omega), h (e.2.1 + 1) (by omega) (by omega)]
      split
      · simp only; split
        · rfl
        · exact h j a b
      · exact h j a b
  intro n
  induction n with
  | zero => intro c c2 h j a b; exact h j a b
  | succ n ih => intro c c2 h; exact ih _ _ (h1 E (fun _ h => h) c c2 h)
end
section
/-! PURE: what a row's cells outside of the places can't touch -/
theorem rnd_congP {P : Int → Prop} : ∀ (F : List Eg), (∀ e ∈ F, P (e.1 + 1) ∧ P (e.2.1 + 1)) → ∀ (c c2 : Int → Int), (∀ j, P j → c j = c2 j) → ∀ j, P j → rnd F c j = rnd F c2 j := by
  intro F
  induction F with
  | nil => intro _ c c2 h j a; exact h j a
  | cons e F ih =>
    intro hF c c2 h
    have he := hF e List.mem_cons_self
    refine ih (fun f hf => hF f (List.mem_cons_of_mem _ hf)) (lo1 c e) (lo1 c2 e) (fun j a => ?_)
    unfold lo1
    rw [h (e.1 + 1) he.1, h (e.2.1 + 1) he.2]
    split
    · simp only; split
      · rfl
      · exact h j a
    · exact h j a
theorem rep_congP {P : Int → Prop} {E : List Eg} (hE : ∀ e ∈ E, P (e.1 + 1) ∧ P (e.2.1 + 1)) : ∀ (n : Nat) (c c2 : Int → Int), (∀ j, P j → c j = c2 j) → ∀ j, P j → rep E n c j = rep E n c2 j := by
  intro n
  induction n with
  | zero => intro c c2 h j a; exact h j a
  | succ n ih => intro c c2 h; exact ih _ _ (rnd_congP E hE c c2 h)
theorem lw_congP {P : Int → Prop} {t t2 : Int → Int} (h : ∀ j, P j → t j = t2 j) (i v : Int) : ∀ j, P j → lw t i v j = lw t2 i v j := by
  intro j hj
  unfold lw
  rw [h j hj]
theorem tk1_congP {P : Int → Prop} {S : Sc} {t t2 : Int → Int} (v pit : Int) (h : ∀ j, P j → t j = t2 j) : ∀ (n : Nat) (j : Int), P j → tk1 S t v pit n j = tk1 S t2 v pit n j := by
  intro n
  induction n with
  | zero => exact h
  | succ n ih =>
    intro j hj
    simp only [tk1]
    split
    · exact lw_congP ih _ _ j hj
    · exact ih j hj
theorem tk2_congP {P : Int → Prop} {S : Sc} {c c2 : Int → Int} {pit : Int} : ∀ (E : List Eg), (∀ e ∈ E, P (e.1 + 1)) → (∀ j, P j → c j = c2 j) → ∀ (t t2 : Int → Int), (∀ j, P j → t j = t2 j) → ∀ j, P j → tk2 S c pit E t j = tk2 S c2 pit E t2 j := by
  intro E
  induction E with
  | nil => intro _ _ t t2 h j hj; exact h j hj
  | cons e E ih =>
    intro hE hc t t2 h
    have h1 : c (e.1 + 1) = c2 (e.1 + 1) := hc _ (hE e List.mem_cons_self)
    refine ih (fun f hf => hE f (List.mem_cons_of_mem _ hf)) hc _ _ (fun j hj => ?_)
    simp only
    rw [h1]
    exact lw_congP h _ _ j hj
theorem least_congP {c c2 : Int → Int} : ∀ n : Nat, (∀ i : Nat, i < n → c (i : Nat) = c2 (i : Nat)) → least c n = least c2 n := by
  intro n
  induction n with
  | zero => intro _; rfl
  | succ n ih => intro h; simp only [least]; rw [ih (fun i hi => h i (by omega)), h n (by omega)]
theorem chF_congP {t t2 : Int → Int} {goal : Int} : ∀ n : Nat, (∀ j, 0 ≤ j → j ≤ (n : Int) → t j = t2 j) → chF t goal n = chF t2 goal n := by
  intro n
  induction n with
  | zero => intro _; rfl
  | succ n ih =>
    intro h
    have h1 := ih (fun j a b => h j a (by omega))
    have h2 := chF_in t2 goal n
    simp only [chF]
    rw [h1, h ((n : Nat) + 1) (by omega) (by omega), h (chF t2 goal n + 1) (by omega) (by omega)]
/-- a place's number, one higher, within the score -/
abbrev pn (S : Sc) (j : Int) : Prop := 0 ≤ j ∧ j ≤ S 0 0
theorem El_pn {S : Sc} (hS : okSc S) : ∀ e ∈ El S, pn S (e.1 + 1) ∧ pn S (e.2.1 + 1) := by
  intro e he
  have h := El_mem hS he
  exact ⟨⟨by omega, by omega⟩, ⟨by omega, by omega⟩⟩
theorem sk_pn {S : Sc} (hS : okSc S) : ∀ e ∈ (El S).map (sk1 S), pn S (e.1 + 1) ∧ pn S (e.2.1 + 1) := by
  intro e he
  obtain ⟨f, hf, rfl⟩ := List.mem_map.mp he
  exact El_pn hS f hf
theorem rnd_take {E : List Eg} {i : Nat} {e : Eg} (h : E[i]? = some e) (c : Int → Int) : rnd (E.take (i + 1)) c = lo1 (rnd (E.take i) c) e := by
  unfold rnd
  rw [List.take_succ, h]
  simp
theorem tk2_take {S : Sc} {c : Int → Int} {pit : Int} {E : List Eg} {i : Nat} {e : Eg} (h : E[i]? = some e) (t : Int → Int) : tk2 S c pit (E.take (i + 1)) t = lw (tk2 S c pit (E.take i) t) (e.2.1 + 1) (c (e.1 + 1) + e.2.2 + wr S e.2.1 pit) := by
  unfold tk2
  rw [List.take_succ, h]
  simp
theorem lo1_up {M : ra_M} {k : Nat} {e : Eg} {v : Int} (hv : v = M k (e.1 + 1) + e.2.2) (h : v < M k (e.2.1 + 1)) : (up M k (e.2.1 + 1) v) k = lo1 (M k) e := by
  funext j
  unfold lo1
  rw [if_pos (by omega)]
  simp only [up]
  by_cases hj : j = e.2.1 + 1
  · simp [hj, hv]
  · simp [hj]
theorem lo1_no {c : Int → Int} {e : Eg} {v : Int} (hv : v = c (e.1 + 1) + e.2.2) (h : ¬ v < c (e.2.1 + 1)) : lo1 c e = c := by
  unfold lo1
  rw [if_neg (by omega)]
theorem fwdT_congP {S : Sc} (hS : okSc S) {c c2 : Int → Int} (pit : Int) (h : ∀ j, pn S j → c j = c2 j) : ∀ j, pn S j → fwdT S c pit j = fwdT S c2 pit j := by
  have h0 := hS.1
  unfold fwdT
  rw [least_congP (c := c) (c2 := c2) ((S 0 0).toNat + 1) (fun i hi => h _ ⟨by omega, by omega⟩)]
  refine tk2_congP (P := pn S) (El S) (fun e he => (El_pn hS e he).1) h _ _ (tk1_congP _ _ (fun j hj => ?_) _)
  unfold tk0
  rw [h j hj]
end
section
/-! PURE: THE BEST: what is left to pay, and that it is one -/
abbrev vp (S : Sc) (p : Int) : Prop := p = -1 ∨ thr S p
/-- what is left to pay at (e, p): at most each STEP's cost and what is left behind it, and that of one -/
def rs1 (S : Sc) (hp : Int → Int) (R : Int → Int → Int) (e p : Int) : Prop :=
  R e p ≤ S 5 1 + R (e + 1) p ∧ (∀ q ∈ nx S p, R e p ≤ q.2 + wr S q.1 (hp e) + R (e + 1) q.1) ∧ (∀ n, thr S n → R e p ≤ S 5 4 + wr S n (hp e) + R (e + 1) n) ∧ (∀ q ∈ nx S p, R e p ≤ q.2 + S 5 2 + R e q.1) ∧
  (R e p = S 5 1 + R (e + 1) p ∨ (∃ q ∈ nx S p, R e p = q.2 + wr S q.1 (hp e) + R (e + 1) q.1) ∨ (∃ q ∈ nx S p, R e p = q.2 + S 5 2 + R e q.1) ∨ ∃ n, thr S n ∧ R e p = S 5 4 + wr S n (hp e) + R (e + 1) n)
def isR (S : Sc) (hp : Int → Int) (cnt : Int) (R : Int → Int → Int) : Prop := (∀ p, vp S p → R cnt p = 0) ∧ ∀ e, 0 ≤ e → e < cnt → ∀ p, vp S p → rs1 S hp R e p
/-- the places, as a list -/
def pls (S : Sc) : List Int := (List.range 61).map (fun i : Nat => (i : Int) - 1)
theorem pls_mem {S : Sc} (hS : okSc S) {p : Int} (h : vp S p) : p ∈ pls S := by
  refine List.mem_map.mpr ⟨(p + 1).toNat, List.mem_range.mpr ?_, ?_⟩
  · rcases h with h | h
    · omega
    · have := thr_lt hS h; omega
  · rcases h with h | h
    · omega
    · have := thr_lt hS h; omega
theorem isR_le {S : Sc} (hS : okSc S) {hp : Int → Int} {R R2 : Int → Int → Int} {e : Int} (h1 : ∀ p, vp S p → rs1 S hp R e p) (h2 : ∀ p, vp S p → rs1 S hp R2 e p) (hn : ∀ p, vp S p → R (e + 1) p = R2 (e + 1) p) : ∀ p, vp S p → R2 e p ≤ R e p := by
  intro p0 hp0
  by_cases hex : ∃ p ∈ pls S, vp S p ∧ R e p < R2 e p
  · exfalso
    obtain ⟨p, hpm, ⟨hpv, hlt⟩, hmin⟩ := pick_min (fun p : Int => vp S p ∧ R e p < R2 e p) (fun p => R e p) (pls S) hex
    obtain ⟨b1, b2, b3, b4, b5⟩ := h2 p hpv
    have hsk := hS.2.2.2.2.2.2.2.2.2
    rcases (h1 p hpv).2.2.2.2 with h | ⟨q, hq, h⟩ | ⟨q, hq, h⟩ | ⟨n, hn2, h⟩
    · rw [hn p hpv] at h; omega
    · have h3 := b2 q hq
      have h4 := nx_mem hS hq
      rw [hn q.1 (Or.inr h4.1)] at h; omega
    · have h3 := b4 q hq
      have h4 := nx_mem hS hq
      have h5 : ¬ R e q.1 < R2 e q.1 := by
        intro hl
        have := hmin q.1 (pls_mem hS (Or.inr h4.1)) ⟨Or.inr h4.1, hl⟩
        omega
      omega
    · have h3 := b3 n hn2
      rw [hn n (Or.inr hn2)] at h; omega
  · by_cases hlt : R e p0 < R2 e p0
    · exact absurd ⟨p0, pls_mem hS hp0, hp0, hlt⟩ hex
    · omega
/-- there is one such table -/
theorem isR_one {S : Sc} (hS : okSc S) {hp : Int → Int} {cnt : Int} {R R2 : Int → Int → Int} (h1 : isR S hp cnt R) (h2 : isR S hp cnt R2) : ∀ (k : Nat), (k : Int) ≤ cnt → ∀ p, vp S p → R (cnt - (k : Nat)) p = R2 (cnt - (k : Nat)) p := by
  intro k
  induction k with
  | zero => intro _ p hp; rw [show cnt - ((0 : Nat) : Int) = cnt by omega, h1.1 p hp, h2.1 p hp]
  | succ k ih =>
    intro hk
    have h3 := ih (by omega)
    have e1 : cnt - ((k : Nat) : Int) = cnt - ((k + 1 : Nat) : Int) + 1 := by omega
    rw [e1] at h3
    have a := h1.2 (cnt - ((k + 1 : Nat) : Int)) (by omega) (by omega)
    have b := h2.2 (cnt - ((k + 1 : Nat) : Int)) (by omega) (by omega)
    intro p hp
    have c1 := isR_le hS a b h3 p hp
    have c2 := isR_le hS b a (fun p hp => (h3 p hp).symm) p hp
    omega
theorem isR_eq {S : Sc} (hS : okSc S) {hp : Int → Int} {cnt : Int} {R R2 : Int → Int → Int} (h1 : isR S hp cnt R) (h2 : isR S hp cnt R2) {e p : Int} (he : 0 ≤ e ∧ e ≤ cnt) (hv : vp S p) : R e p = R2 e p := by
  have := isR_one hS h1 h2 (cnt - e).toNat (by omega) p hv
  rw [show cnt - (((cnt - e).toNat : Nat) : Int) = e by omega] at this
  exact this
/-! the STEPS: (kind, place, EVENT, cost) -/
abbrev St4 : Type := Int × Int × Int × Int
def okP (S : Sc) (hp : Int → Int) (R : Int → Int → Int) (e p : Int) (q : Int × Int) : Bool := decide (q.2 + wr S q.1 (hp e) + R (e + 1) q.1 = R e p)
def okJ (S : Sc) (R : Int → Int → Int) (e p : Int) (q : Int × Int) : Bool := decide (q.2 + S 5 2 + R e q.1 = R e p)
def okH (S : Sc) (hp : Int → Int) (R : Int → Int → Int) (e p : Int) (n : Nat) : Bool := decide (thr S (n : Nat) ∧ S 5 4 + wr S (n : Nat) (hp e) + R (e + 1) (n : Nat) = R e p)
/-- the first STEP by which the least SUM is kept -/
def opt (S : Sc) (hp : Int → Int) (R : Int → Int → Int) (e p : Int) : St4 :=
  match (nx S p).find? (okP S hp R e p) with
  | some q => (0, q.1, e, q.2 + wr S q.1 (hp e))
  | none => if S 5 1 + R (e + 1) p = R e p then (1, p, e, S 5 1) else
    match (nx S p).find? (okJ S R e p) with
    | some q => (2, q.1, -1, q.2 + S 5 2)
    | none => match (List.range (S 0 0).toNat).find? (okH S hp R e p) with
      | some n => (3, (n : Nat), e, S 5 4 + wr S (n : Nat) (hp e))
      | none => (0, 0, 0, 0)
/-- what a STEP is like -/
def okT (S : Sc) (hp : Int → Int) (R : Int → Int → Int) (e p : Int) (s : St4) : Prop :=
  (s.1 = 2 ∧ thr S s.2.1 ∧ s.2.2.1 = -1 ∧ R e s.2.1 < R e p ∧ 0 ≤ s.2.2.2 ∧ s.2.2.2 ≤ 2000) ∨ ((s.1 = 0 ∨ s.1 = 1 ∨ s.1 = 3) ∧ vp S s.2.1 ∧ (s.1 ≠ 1 → thr S s.2.1) ∧ s.2.2.1 = e ∧ 0 ≤ s.2.2.2 ∧ s.2.2.2 ≤ 2000)
theorem opt_ok {S : Sc} (hS : okSc S) {hp : Int → Int} {R : Int → Int → Int} {e p : Int} (hv : vp S p) (h : rs1 S hp R e p) : okT S hp R e p (opt S hp R e p) := by
  have hc := hS.2.2.2.2.2.2.2.1
  have c1 := hc 1 (by omega) (by omega)
  have c2 := hc 2 (by omega) (by omega)
  have c4 := hc 4 (by omega) (by omega)
  have hsk := hS.2.2.2.2.2.2.2.2.2
  unfold opt
  cases h1 : (nx S p).find? (okP S hp R e p) with
  | some q =>
    have hq := List.mem_of_find?_eq_some h1
    have h4 := nx_mem hS hq
    have h5 := wr_in hS q.1 (hp e)
    exact Or.inr ⟨Or.inl rfl, Or.inr h4.1, fun _ => h4.1, rfl, by simp only; omega, by simp only; omega⟩
  | none =>
    simp only
    split
    next => exact Or.inr ⟨Or.inr (Or.inl rfl), hv, fun q => absurd rfl q, rfl, c1.1, by simp only; omega⟩
    next hx =>
      cases h2 : (nx S p).find? (okJ S R e p) with
      | some q =>
        have hq := List.mem_of_find?_eq_some h2
        have h4 := nx_mem hS hq
        have h5 := List.find?_some h2
        unfold okJ at h5
        have h6 := of_decide_eq_true h5
        exact Or.inl ⟨rfl, h4.1, rfl, by simp only; omega, by simp only; omega, by simp only; omega⟩
      | none =>
        simp only
        cases h3 : (List.range (S 0 0).toNat).find? (okH S hp R e p) with
        | some n =>
          have h5 := List.find?_some h3
          unfold okH at h5
          have h6 := of_decide_eq_true h5
          have h7 := wr_in hS (n : Nat) (hp e)
          exact Or.inr ⟨Or.inr (Or.inr rfl), Or.inr h6.1, fun _ => h6.1, rfl, by simp only; omega, by simp only; omega⟩
        | none =>
          exfalso
          rcases h.2.2.2.2 with h | ⟨q, hq, h⟩ | ⟨q, hq, h⟩ | ⟨n, hn, h⟩
          · exact hx h.symm
          · have := List.find?_eq_none.mp h1 q hq
            unfold okP at this
            exact this (decide_eq_true h.symm)
          · have := List.find?_eq_none.mp h2 q hq
            unfold okJ at this
            exact this (decide_eq_true h.symm)
          · have := List.find?_eq_none.mp h3 n.toNat (List.mem_range.mpr (by omega))
            unfold okH at this
            apply this
            rw [show ((n.toNat : Nat) : Int) = n by omega]
            exact decide_eq_true ⟨hn, h.symm⟩
theorem find_cong {α : Type} {p q : α → Bool} : ∀ {l : List α}, (∀ a ∈ l, p a = q a) → l.find? p = l.find? q := by
  intro l
  induction l with
  | nil => intro _; rfl
  | cons a l ih =>
    intro h
    rw [List.find?_cons, List.find?_cons, h a List.mem_cons_self, ih (fun b hb => h b (List.mem_cons_of_mem _ hb))]
theorem opt_cong {S : Sc} (hS : okSc S) {hp : Int → Int} {R R2 : Int → Int → Int} {e p : Int} (hv : vp S p) (h0 : ∀ p, vp S p → R e p = R2 e p) (h1 : ∀ p, vp S p → R (e + 1) p = R2 (e + 1) p) : opt S hp R e p = opt S hp R2 e p := by
  have a1 : (nx S p).find? (okP S hp R e p) = (nx S p).find? (okP S hp R2 e p) := find_cong (fun q hq => by unfold okP; rw [h0 p hv, h1 q.1 (Or.inr (nx_mem hS hq).1)])
  have a2 : (nx S p).find? (okJ S R e p) = (nx S p).find? (okJ S R2 e p) := find_cong (fun q hq => by unfold okJ; rw [h0 p hv, h0 q.1 (Or.inr (nx_mem hS hq).1)])
  have a3 : (List.range (S 0 0).toNat).find? (okH S hp R e p) = (List.range (S 0 0).toNat).find? (okH S hp R2 e p) := find_cong (fun n hn => by
    unfold okH
    by_cases ht : thr S (n : Nat)
    · rw [h0 p hv, h1 (n : Nat) (Or.inr ht)]
    · simp [ht])
  unfold opt
  rw [a1, a2, a3, h0 p hv, h1 p hv]
/-- the way from (e, p) on -/
def wk (S : Sc) (hp : Int → Int) (R : Int → Int → Int) (cnt : Int) : Nat → Int → Int → List St4
  | 0, _, _ => []
  | f + 1, e, p => if cnt ≤ e then [] else opt S hp R e p :: wk S hp R cnt f (if (opt S hp R e p).1 = 2 then e else e + 1) (opt S hp R e p).2.1
/-- how many places are nearer to the end of the EVENT -/
def mu (S : Sc) (R : Int → Int → Int) (e p : Int) : Nat := (List.range 60).countP (fun n => decide (R e (n : Nat) < R e p))
theorem mu_le (S : Sc) (R : Int → Int → Int) (e p : Int) : mu S R e p ≤ 60 := by
  have := List.countP_le_length (p := fun n : Nat => decide (R e (n : Nat) < R e p)) (l := List.range 60)
  unfold mu
  simpa using this
theorem mu_lt {S : Sc} (hS : okSc S) {R : Int → Int → Int} {e p n : Int} (hn : thr S n) (h : R e n < R e p) : mu S R e n < mu S R e p := by
  have h60 := thr_lt hS hn
  refine countP_lt (fun i _ hi => ?_) ⟨n.toNat, List.mem_range.mpr (by omega), ?_, ?_⟩
  · have hi : R e (i : Nat) < R e n := by simpa using hi
    simp; omega
  · rw [show ((n.toNat : Nat) : Int) = n by omega]; simpa using h
  · rw [show ((n.toNat : Nat) : Int) = n by omega]; simp
end
section
/-! PURE: a row of what is left to pay, as it is found -/
def lp (S : Sc) (pit : Int) (r1 : Int → Int) : Nat → Int
  | 0 => NV
  | n + 1 => if thr S (n : Nat) then min (lp S pit r1 n) (S 5 4 + wr S (n : Nat) pit + r1 ((n : Nat) + 1)) else lp S pit r1 n
def bw2 (S : Sc) (pit : Int) (r1 : Int → Int) (E : List Eg) (t : Int → Int) : Int → Int := E.foldl (fun t e => lw t (e.1 + 1) (e.2.2 + wr S e.2.1 pit + r1 (e.2.1 + 1))) t
def bw (S : Sc) (pit : Int) (r1 : Int → Int) : Int → Int := bw2 S pit r1 (El S) (fun j => min (lp S pit r1 (S 0 0).toNat) (S 5 1 + r1 j))
def bk (S : Sc) (e : Eg) : Eg := (e.2.1, e.1, e.2.2 + S 5 2)
theorem lp_le (S : Sc) (pit : Int) (r1 : Int → Int) : ∀ (n i : Nat), i < n → thr S (i : Nat) → lp S pit r1 n ≤ S 5 4 + wr S (i : Nat) pit + r1 ((i : Nat) + 1) := by
  intro n
  induction n with
  | zero => intro i h; omega
  | succ n ih =>
    intro i hi ht
    simp only [lp]
    by_cases h : i = n
    · subst h; rw [if_pos ht]; omega
    · have := ih i (by omega) ht
      split <;> omega
theorem lp_of (S : Sc) (pit : Int) (r1 : Int → Int) : ∀ n : Nat, lp S pit r1 n = NV ∨ ∃ i : Nat, i < n ∧ thr S (i : Nat) ∧ lp S pit r1 n = S 5 4 + wr S (i : Nat) pit + r1 ((i : Nat) + 1) := by
  intro n
  induction n with
  | zero => exact Or.inl rfl
  | succ n ih =>
    simp only [lp]
    split
    next ht =>
      by_cases hc : S 5 4 + wr S (n : Nat) pit + r1 ((n : Nat) + 1) < lp S pit r1 n
      · right
        exact ⟨n, by omega, ht, by omega⟩
      · rcases ih with h | ⟨i, h1, h2, h3⟩
        · left; omega
        · right; exact ⟨i, by omega, h2, by omega⟩
    next =>
      rcases ih with h | ⟨i, h1, h2, h3⟩
      · exact Or.inl h
      · exact Or.inr ⟨i, by omega, h2, h3⟩
theorem bw2_le (S : Sc) (pit : Int) (r1 : Int → Int) : ∀ (E : List Eg) (t : Int → Int) (j : Int), bw2 S pit r1 E t j ≤ t j := by
  intro E
  induction E with
  | nil => intro t j; exact Int.le_refl _
  | cons e E ih => intro t j; exact Int.le_trans (ih _ j) (lw_le _ _ _ _)
theorem bw2_at (S : Sc) (pit : Int) (r1 : Int → Int) : ∀ (E : List Eg) (t : Int → Int) (e : Eg), e ∈ E → bw2 S pit r1 E t (e.1 + 1) ≤ e.2.2 + wr S e.2.1 pit + r1 (e.2.1 + 1) := by
  intro E
  induction E with
  | nil => intro t e h; cases h
  | cons f E ih =>
    intro t e h
    rcases List.mem_cons.mp h with h | h
    · subst h
      refine Int.le_trans (bw2_le S pit r1 E _ _) ?_
      simp only [lw]
      rw [if_pos trivial]
      omega
    · exact ih _ e h
theorem bw2_of (S : Sc) (pit : Int) (r1 : Int → Int) : ∀ (E : List Eg) (t : Int → Int) (j : Int), bw2 S pit r1 E t j = t j ∨ ∃ e ∈ E, e.1 + 1 = j ∧ bw2 S pit r1 E t j = e.2.2 + wr S e.2.1 pit + r1 (e.2.1 + 1) := by
  intro E
  induction E with
  | nil => intro t j; exact Or.inl rfl
  | cons f E ih =>
    intro t j
    have e1 : bw2 S pit r1 (f :: E) t = bw2 S pit r1 E (lw t (f.1 + 1) (f.2.2 + wr S f.2.1 pit + r1 (f.2.1 + 1))) := rfl
    rw [e1]
    rcases ih (lw t (f.1 + 1) (f.2.2 + wr S f.2.1 pit + r1 (f.2.1 + 1))) j with h | ⟨e, he, hj, h⟩
    · rw [h]
      by_cases hj : j = f.1 + 1
      · by_cases hl : f.2.2 + wr S f.2.1 pit + r1 (f.2.1 + 1) < t j
        · right
          refine ⟨f, List.mem_cons_self, hj.symm, ?_⟩
          unfold lw
          rw [if_pos hj]
          omega
        · left
          unfold lw
          rw [if_pos hj]
          omega
      · left
        unfold lw
        rw [if_neg hj]
    · exact Or.inr ⟨e, List.mem_cons_of_mem _ he, hj, h⟩
theorem bw2_congP {P : Int → Prop} {S : Sc} {pit : Int} {r1 r2 : Int → Int} : ∀ (E : List Eg), (∀ e ∈ E, P (e.2.1 + 1)) → (∀ j, P j → r1 j = r2 j) → ∀ (t t2 : Int → Int), (∀ j, P j → t j = t2 j) → ∀ j, P j → bw2 S pit r1 E t j = bw2 S pit r2 E t2 j := by
  intro E
  induction E with
  | nil => intro _ _ t t2 h j hj; exact h j hj
  | cons e E ih =>
    intro hE hc t t2 h
    have h1 : r1 (e.2.1 + 1) = r2 (e.2.1 + 1) := hc _ (hE e List.mem_cons_self)
    refine ih (fun f hf => hE f (List.mem_cons_of_mem _ hf)) hc _ _ (fun j hj => ?_)
    simp only
    rw [h1]
    exact lw_congP h _ _ j hj
theorem bw2_take {S : Sc} {pit : Int} {r1 : Int → Int} {E : List Eg} {i : Nat} {e : Eg} (h : E[i]? = some e) (t : Int → Int) : bw2 S pit r1 (E.take (i + 1)) t = lw (bw2 S pit r1 (E.take i) t) (e.1 + 1) (e.2.2 + wr S e.2.1 pit + r1 (e.2.1 + 1)) := by
  unfold bw2
  rw [List.take_succ, h]
  simp
theorem rep_nn {P : Int → Prop} {E : List Eg} (h1 : ∀ e ∈ E, 0 ≤ e.2.2) (h2 : ∀ e ∈ E, P (e.1 + 1)) : ∀ (n : Nat) (c : Int → Int), (∀ j, P j → 0 ≤ c j) → ∀ j, P j → 0 ≤ rep E n c j := by
  have h3 : ∀ (F : List Eg) (c : Int → Int), (∀ e ∈ F, e ∈ E) → (∀ j, P j → 0 ≤ c j) → ∀ j, P j → 0 ≤ rnd F c j := by
    intro F
    induction F with
    | nil => intro c _ h j hj; exact h j hj
    | cons e F ih =>
      intro c hF h
      refine ih (lo1 c e) (fun f hf => hF f (List.mem_cons_of_mem _ hf)) (fun j hj => ?_)
      have a := h1 e (hF e List.mem_cons_self)
      have b := h _ (h2 e (hF e List.mem_cons_self))
      have d := h j hj
      unfold lo1
      split
      · simp only; split <;> omega
      · exact d
  intro n
  induction n with
  | zero => intro c h j hj; exact h j hj
  | succ n ih => intro c h; exact ih _ (h3 E c (fun _ h => h) h)
/-- a row that comes to rest along edges E (those of NEXT among them, and no other from a place) is as THE BEST wants it -/
theorem row_rs1 {S : Sc} (hS : okSc S) (hnn : 0 < S 0 0) {hp : Int → Int} {R : Int → Int → Int} {e : Int} {E : List Eg} (hE : okE E)
    (hE1 : ∀ p q, vp S p → q ∈ nx S p → (q.1, p, q.2 + S 5 2) ∈ E) (hE2 : ∀ f ∈ E, vp S f.2.1 → ∃ q ∈ nx S f.2.1, f = (q.1, f.2.1, q.2 + S 5 2))
    {b r r1 : Int → Int} (hr : r = rep E 61 b) (hR0 : ∀ p, vp S p → R e p = r (p + 1)) (hR1 : ∀ p, vp S p → R (e + 1) p = r1 (p + 1)) (hlt : ∀ p, vp S p → r1 (p + 1) < 900000000)
    (h1 : ∀ p, vp S p → b (p + 1) ≤ S 5 1 + r1 (p + 1)) (h2 : ∀ p q, vp S p → q ∈ nx S p → b (p + 1) ≤ q.2 + wr S q.1 (hp e) + r1 (q.1 + 1)) (h3 : ∀ p n, vp S p → thr S n → b (p + 1) ≤ S 5 4 + wr S n (hp e) + r1 (n + 1))
    (h5 : ∀ p, vp S p → b (p + 1) = S 5 1 + r1 (p + 1) ∨ (∃ q ∈ nx S p, b (p + 1) = q.2 + wr S q.1 (hp e) + r1 (q.1 + 1)) ∨ ∃ n, thr S n ∧ b (p + 1) = S 5 4 + wr S n (hp e) + r1 (n + 1)) :
    ∀ p, vp S p → rs1 S hp R e p := by
  intro p hv
  have hle : r (p + 1) ≤ b (p + 1) := by rw [hr]; exact rep_le _ _ _ _
  have hatt := rnd_fix_att (bf_61 hE b)
  rw [← hr] at hatt
  have hwit : wit E b r := by rw [hr]; exact wit_rep hE 61 b (wit_self E b)
  have h4 : ∀ q ∈ nx S p, R e p ≤ q.2 + S 5 2 + R e q.1 := by
    intro q hq
    have := hatt _ (hE1 p q hv hq)
    unfold att at this
    simp only at this
    rw [hR0 p hv, hR0 q.1 (Or.inr (nx_mem hS hq).1)]
    omega
  refine ⟨?_, ?_, ?_, h4, ?_⟩
  · rw [hR0 p hv, hR1 p hv]
    exact Int.le_trans hle (h1 p hv)
  · intro q hq
    rw [hR0 p hv, hR1 q.1 (Or.inr (nx_mem hS hq).1)]
    exact Int.le_trans hle (h2 p q hv hq)
  · intro n hn
    rw [hR0 p hv, hR1 n (Or.inr hn)]
    exact Int.le_trans hle (h3 p n hv hn)
  · rcases hwit (p + 1) with hw | ⟨f, hf, hfj, hw⟩
    · rcases h5 p hv with h | ⟨q, hq, h⟩ | ⟨n, hn, h⟩
      · left; rw [hR0 p hv, hR1 p hv]; omega
      · right; left
        exact ⟨q, hq, by rw [hR0 p hv, hR1 q.1 (Or.inr (nx_mem hS hq).1)]; omega⟩
      · right; right; right
        exact ⟨n, hn, by rw [hR0 p hv, hR1 n (Or.inr hn)]; omega⟩
    · right; right; left
      have hfp : f.2.1 = p := by omega
      obtain ⟨q, hq, hfe⟩ := hE2 f hf (by rw [hfp]; exact hv)
      rw [hfp] at hq
      refine ⟨q, hq, ?_⟩
      have h6 := h4 q hq
      have a1 : f.1 = q.1 := by rw [hfe]
      have a2 : f.2.2 = q.2 + S 5 2 := by rw [hfe]
      rw [a1, a2] at hw
      rw [hR0 p hv, hR0 q.1 (Or.inr (nx_mem hS hq).1)] at h6 ⊢
      omega
theorem bkE_ok {S : Sc} (hS : okSc S) {E : List Eg} (h : ∀ e ∈ E, e ∈ Ew S) : okE (E.map (bk S)) := by
  intro e he
  obtain ⟨f, hf, rfl⟩ := List.mem_map.mp he
  have h1 := Ew_mem hS (h f hf)
  have h2 := hS.1
  have h3 := hS.2.2.2.2.2.2.2.2.2
  have h4 := thr_lt hS h1.2.1
  refine ⟨⟨?_, ?_⟩, ⟨?_, ?_⟩, ?_⟩ <;> simp only [bk] <;> omega
/-- the row as the class finds it -/
theorem class_rs1 {S : Sc} (hS : okSc S) (hnn : 0 < S 0 0) {hp : Int → Int} {R : Int → Int → Int} {e : Int} {r1 : Int → Int} (hR1 : ∀ p, vp S p → R (e + 1) p = r1 (p + 1)) (hlt : ∀ p, vp S p → r1 (p + 1) < 900000000)
    (hR0 : ∀ p, vp S p → R e p = rep ((El S).reverse.map (bk S)) 61 (bw S (hp e) r1) (p + 1)) : ∀ p, vp S p → rs1 S hp R e p := by
  have hNV : NV = 1000000000 := rfl
  have hin : ∀ f ∈ (El S).reverse, f ∈ Ew S := fun f hf => Eu_sub S _ f (List.mem_reverse.mp hf)
  have hc := hS.2.2.2.2.2.2.2.1
  have c4 := hc 4 (by omega) (by omega)
  have hL : ∃ n, thr S n ∧ lp S (hp e) r1 (S 0 0).toNat = S 5 4 + wr S n (hp e) + r1 (n + 1) := by
    rcases lp_of S (hp e) r1 (S 0 0).toNat with h | ⟨i, h1, h2, h3⟩
    · exfalso
      obtain ⟨n, hn⟩ := thr_ex hS hnn
      have h4 := lp_le S (hp e) r1 (S 0 0).toNat n.toNat (by omega) (by rw [show ((n.toNat : Nat) : Int) = n by omega]; exact hn)
      rw [show ((n.toNat : Nat) : Int) = n by omega] at h4
      have h5 := hlt n (Or.inr hn)
      have h6 := wr_in hS n (hp e)
      omega
    · exact ⟨(i : Nat), h2, h3⟩
  refine row_rs1 hS hnn (bkE_ok hS hin) ?_ ?_ rfl hR0 hR1 hlt ?_ ?_ ?_ ?_
  · intro p q hv hq
    exact List.mem_map.mpr ⟨(p, q.1, q.2), List.mem_reverse.mpr (El_in hS hv hq), rfl⟩
  · intro f hf hv
    obtain ⟨g, hg, rfl⟩ := List.mem_map.mp hf
    have := El_mem hS (List.mem_reverse.mp hg)
    exact ⟨(g.2.1, g.2.2), this.2.2.2.2, rfl⟩
  · intro p hv
    have := bw2_le S (hp e) r1 (El S) (fun j => min (lp S (hp e) r1 (S 0 0).toNat) (S 5 1 + r1 j)) (p + 1)
    unfold bw
    try simp only at this
    omega
  · intro p q hv hq
    exact bw2_at S (hp e) r1 (El S) _ _ (El_in hS hv hq)
  · intro p n hv hn
    have h1 := bw2_le S (hp e) r1 (El S) (fun j => min (lp S (hp e) r1 (S 0 0).toNat) (S 5 1 + r1 j)) (p + 1)
    have h4 := lp_le S (hp e) r1 (S 0 0).toNat n.toNat (by omega) (by rw [show ((n.toNat : Nat) : Int) = n by omega]; exact hn)
    rw [show ((n.toNat : Nat) : Int) = n by omega] at h4
    unfold bw
    try simp only at h1
    omega
  · intro p hv
    rcases bw2_of S (hp e) r1 (El S) (fun j => min (lp S (hp e) r1 (S 0 0).toNat) (S 5 1 + r1 j)) (p + 1) with h | ⟨f, hf, hfj, h⟩
    · try simp only at h
      by_cases hm : lp S (hp e) r1 (S 0 0).toNat < S 5 1 + r1 (p + 1)
      · right; right
        obtain ⟨n, hn, hl⟩ := hL
        exact ⟨n, hn, by unfold bw; omega⟩
      · left
        unfold bw
        omega
    · right; left
      have h1 := El_mem hS hf
      have hfp : f.1 = p := by omega
      refine ⟨(f.2.1, f.2.2), by rw [← hfp]; exact h1.2.2.2.2, ?_⟩
      unfold bw
      rw [h]
end
section
/-! the class's NEXT row -/
def scC (M : ra_M) : Sc := fun k j => match k with
  | 0 => if j = 0 then M 1 5 else if j = 1 then M 1 6 else if j = 2 then M 1 7 else if j = 3 then M 1 8 else if j = 4 then M 1 9 else 0
  | 1 => M 2 j
  | 2 => M 3 j
  | 3 => M 4 j
  | 4 => M 5 j
  | 5 => M 6 j
  | _ => 0
/-- the score's cells stay -/
def frS (M M2 : ra_M) : Prop := ∀ k, 1 ≤ k → k ≤ 6 → M2 k = M k
theorem scC_fr {M M2 : ra_M} (h : frS M M2) : scC M2 = scC M := by
  funext k j
  unfold scC
  rw [h 1 (by omega) (by omega), h 2 (by omega) (by omega), h 3 (by omega) (by omega), h 4 (by omega) (by omega), h 5 (by omega) (by omega), h 6 (by omega) (by omega)]
/-- of two heaps: only cells of the list differ -/
def frX (l : List Nat) (M M2 : ra_M) : Prop := ∀ k, k ∉ l → M2 k = M k
theorem frX_refl (l : List Nat) (M : ra_M) : frX l M M := fun _ _ => rfl
theorem frX_trans {l : List Nat} {M M1 M2 : ra_M} (h1 : frX l M M1) (h2 : frX l M1 M2) : frX l M M2 := fun k hk => (h2 k hk).trans (h1 k hk)
theorem frX_sub {l l2 : List Nat} {M M2 : ra_M} (h : frX l M M2) (hs : ∀ k ∈ l, k ∈ l2) : frX l2 M M2 := fun k hk => h k (fun q => hk (hs k q))
theorem frX_up {l : List Nat} {M M2 : ra_M} (h : frX l M M2) {k : Nat} (j z : Int) (hk : k ∈ l) : frX l M (up M2 k j z) := fun k2 h2 => by
  rw [up_k M2 j z (fun q => h2 (by rw [q]; exact hk))]
  exact h k2 h2
theorem frX_S {l : List Nat} {M M2 : ra_M} (h : frX l M M2) (hl : ∀ k ∈ l, k < 1 ∨ 6 < k) : frS M M2 := fun k h1 h2 => h k (fun q => by have := hl k q; omega)
/-- the row of NEXT holds the list -/
def NxL (M : ra_M) (l : List Eg) : Prop := M 10 5 = (l.length : Nat) ∧ ∀ (i : Nat) (e : Eg), l[i]? = some e → M 11 (i : Nat) = e.1 ∧ M 12 (i : Nat) = e.2.1 ∧ M 13 (i : Nat) = e.2.2
theorem NxL_fr {M M2 : ra_M} {l : List Eg} (h : NxL M l) (e1 : M2 10 = M 10) (e2 : M2 11 = M 11) (e3 : M2 12 = M 12) (e4 : M2 13 = M 13) : NxL M2 l := by
  unfold NxL
  rw [e1, e2, e3, e4]
  exact h

set_option maxRecDepth 20000 in
set_option maxHeartbeats 2000000 in
theorem t_nadd (d : Nat) (M : ra_M) (p t w : Int) (l : List Eg) (h1 : NxL M l) (h2 : l.length < 74) : Ex d m_X5_add [vR 10, vI p, vI t, vI w] M (fun r M2 => r = none ∧ NxL M2 (l ++ [(p, t, w)]) ∧ frX [10, 11, 12, 13] M M2) := by
  refine Ex_leaf (Nat.le_of_ble_eq_true rfl) (fun C K hK => ?_)
  show K 0 [some (vR 10), some (vI p), some (vI t), some (vI w)] [] M
  have hK : ra_Clo _ m_X5_add cX5_add _ K := hK
  have e1 := h1.1
  refine k_aln hK (q := 1)  dX5_add_0 rfl (z := 10) rfl (k_gI hK (q := 4) (z := M 10 5) 0 dX5_add_1 rfl rf_X5_28 rfl rfl rfl rfl (k_bp hK (q := 6)  dX5_add_4 rfl (by decide) ?_))
  refine k_clt hK (q := 9) (t := 10) dX5_add_6 rfl rfl (fun h6 => ?_) (fun h6 => ?_)
  · refine k_aln hK (q := 11)  dX5_add_10 rfl (z := 10) rfl (k_gR hK (q := 14) (r := 11) dX5_add_11 rfl rf_X5_9 rfl rfl (k_aln hK (q := 15)  dX5_add_14 rfl (z := 10) rfl (k_gI hK (q := 18) (z := M 10 5) 0 dX5_add_15 rfl rf_X5_28 rfl rfl rfl rfl (k_iln hK (q := 19)  dX5_add_18 rfl (z := p) rfl (k_ast hK (q := 20)  dX5_add_19 rfl rfl (by omega) ?_)))))
    refine k_aln hK (q := 21)  dX5_add_20 rfl (z := 10) rfl (k_gR hK (q := 24) (r := 12) dX5_add_21 rfl rf_X5_15 rfl rfl (k_aln hK (q := 25)  dX5_add_24 rfl (z := 10) rfl (k_gI hK (q := 28) (z := M 10 5) 0 dX5_add_25 rfl rf_X5_28 rfl rfl rfl rfl (k_iln hK (q := 29)  dX5_add_28 rfl (z := t) rfl (k_ast hK (q := 30)  dX5_add_29 rfl rfl (by omega) ?_)))))
    refine k_aln hK (q := 31)  dX5_add_30 rfl (z := 10) rfl (k_gR hK (q := 34) (r := 13) dX5_add_31 rfl rf_X5_18 rfl rfl (k_aln hK (q := 35)  dX5_add_34 rfl (z := 10) rfl (k_gI hK (q := 38) (z := M 10 5) 0 dX5_add_35 rfl rf_X5_28 rfl rfl rfl rfl (k_iln hK (q := 39)  dX5_add_38 rfl (z := w) rfl (k_ast hK (q := 40)  dX5_add_39 rfl rfl (by omega) ?_)))))
    refine k_aln hK (q := 41)  dX5_add_40 rfl (z := 10) rfl (k_dup hK (q := 42)  dX5_add_41 rfl rfl (k_gI hK (q := 45) (z := M 10 5) 0 dX5_add_42 rfl rf_X5_28 rfl rfl rfl rfl (k_ic hK (q := 46)  dX5_add_45 rfl (by decide) (k_add hK (q := 47)  dX5_add_46 rfl (z := (M 10 5) + 1) rfl (by omega) (k_pI hK (q := 50) (M2 := up (up (up (up M 11 (M 10 5) p) 12 (M 10 5) t) 13 (M 10 5) w) 10 5 ((M 10 5) + 1)) dX5_add_47 rfl rp_X5_28 rfl rfl rfl ?_)))))
    refine k_vr hK dX5_add_50 rfl ?_
    refine ⟨rfl, ⟨?_, fun i e hi => ?_⟩, ?_⟩
    · rw [up_same, e1, List.length_append]
      simp
    · by_cases hl : i < l.length
      · rw [List.getElem?_append_left hl] at hi
        have := h1.2 i e hi
        have hne : ((i : Nat) : Int) ≠ M 10 5 := by omega
        simp [up, hne, this]
      · have hil := (List.getElem?_eq_some_iff.mp hi).1
        simp at hil
        have hi2 : i = l.length := by omega
        subst hi2
        simp at hi
        subst hi
        simp [up, e1]
    · exact frX_up (frX_up (frX_up (frX_up (frX_refl _ _) _ _ (by decide)) _ _ (by decide)) _ _ (by decide)) _ _ (by decide)
  · exact absurd h6 (by omega)

theorem scC_e {M : ra_M} {S : Sc} (h : scC M = S) : M 1 5 = S 0 0 ∧ M 1 6 = S 0 1 ∧ M 1 7 = S 0 2 ∧ M 1 8 = S 0 3 ∧ M 1 9 = S 0 4 := by subst h; exact ⟨rfl, rfl, rfl, rfl, rfl⟩
theorem scC_a {M : ra_M} {S : Sc} (h : scC M = S) : M 2 = S 1 ∧ M 3 = S 2 ∧ M 4 = S 3 ∧ M 5 = S 4 ∧ M 6 = S 5 := by subst h; exact ⟨rfl, rfl, rfl, rfl, rfl⟩
/-- a note is there, as the class asks it -/
theorem thr_C {M : ra_M} {S : Sc} (h : scC M = S) (hS : okSc S) (n : Int) : ((if M 1 7 ≠ -1 then M 1 7 else 0) ≤ n ∧ n ≤ (if M 1 7 ≠ -1 then M 1 8 else M 1 5 - 1)) ↔ thr S n := by
  obtain ⟨e5, e6, e7, e8, e9⟩ := scC_e h
  rw [e5, e7, e8]
  have h1 := hS.2.2.1
  have h2 := hS.1
  constructor
  · intro h
    split at h <;> refine ⟨?_, ?_, ?_⟩ <;> omega
  · intro h
    split <;> omega

set_option maxRecDepth 20000 in
set_option maxHeartbeats 2000000 in
theorem layFrom_loop {d : Nat} {Q : Option ra_V → ra_M → Prop} {K : Nat → ra_L → List ra_V → ra_M → Prop} (hK : ra_Clo (Ex (d + 2)) m_X5_layFrom cX5_layFrom Q K) {S : Sc} {p : Int} (hS : okSc S) {M0 : ra_M} {l0 : List Eg}
    (hp2 : ∀ k : Int, 0 ≤ k → k < S 0 1 → S 3 k = p → thr S p) (hlen : ∀ k : Nat, k < (S 0 1).toNat → (S 3 (k : Nat) = p ∧ thr S p ∧ thr S (S 4 (k : Nat))) → l0.length + (wyl S p k).length < 74)
    (hQ : ∀ M2, frX [10, 11, 12, 13] M0 M2 → NxL M2 (l0 ++ (wyl S p (S 0 1).toNat).map (fun q => (p, q.1, q.2))) → Q none M2) :
    ∀ (n k : Nat) (M : ra_M) (b : Int), k + n = (S 0 1).toNat → scC M = S → frX [10, 11, 12, 13] M0 M → NxL M (l0 ++ (wyl S p k).map (fun q => (p, q.1, q.2))) → K 73 [some (vR 10), some (vI p), some (vI b), some (vI (k : Nat))] [] M := by
  intro n
  induction n with
  | zero =>
    intro k M b hk hs hf hn
    obtain ⟨e5, e6, e7, e8, e9⟩ := scC_e hs
    have hs1 := hS.2.1
    refine k_iln hK (q := 74)  dX5_layFrom_73 rfl (z := (k : Nat)) rfl (k_aln hK (q := 75)  dX5_layFrom_74 rfl (z := 10) rfl (k_gR hK (q := 78) (r := 1) dX5_layFrom_75 rfl rf_X5_24 rfl rfl (k_gI hK (q := 81) (z := M 1 6) 0 dX5_layFrom_78 rfl rf_X5_63 rfl rfl rfl rfl ?_)))
    refine k_cge hK (q := 84) (t := 145) dX5_layFrom_81 rfl rfl (fun h81 => ?_) (fun h81 => ?_)
    · refine k_vr hK dX5_layFrom_145 rfl ?_
      have hk2 : k = (S 0 1).toNat := by omega
      subst hk2
      exact hQ M hf hn
    · exact absurd h81 (by omega)
  | succ n ih =>
    intro k M b hk hs hf hn
    obtain ⟨e5, e6, e7, e8, e9⟩ := scC_e hs
    obtain ⟨a2, a3, a4, a5, a6⟩ := scC_a hs
    have hs0 := hS.1
    have hs1 := hS.2.1
    refine k_iln hK (q := 74)  dX5_layFrom_73 rfl (z := (k : Nat)) rfl (k_aln hK (q := 75)  dX5_layFrom_74 rfl (z := 10) rfl (k_gR hK (q := 78) (r := 1) dX5_layFrom_75 rfl rf_X5_24 rfl rfl (k_gI hK (q := 81) (z := M 1 6) 0 dX5_layFrom_78 rfl rf_X5_63 rfl rfl rfl rfl ?_)))
    refine k_cge hK (q := 84) (t := 145) dX5_layFrom_81 rfl rfl (fun h81 => ?_) (fun h81 => ?_)
    · exact absurd h81 (by omega)
    · refine k_aln hK (q := 85)  dX5_layFrom_84 rfl (z := 10) rfl (k_gR hK (q := 88) (r := 1) dX5_layFrom_85 rfl rf_X5_24 rfl rfl (k_gR hK (q := 91) (r := 4) dX5_layFrom_88 rfl rf_X5_66 rfl rfl (k_iln hK (q := 92)  dX5_layFrom_91 rfl (z := (k : Nat)) rfl (k_ald hK (q := 93)  dX5_layFrom_92 rfl (y := M 4 (k : Nat)) rfl (by omega) rfl (k_iln hK (q := 94)  dX5_layFrom_93 rfl (z := p) rfl ?_)))))
      refine k_cne hK (q := 97) (t := 139) dX5_layFrom_94 rfl rfl (fun h94 => ?_) (fun h94 => ?_)
      · have hnot : ¬ (S 3 (k : Nat) = p ∧ thr S p ∧ thr S (S 4 (k : Nat))) := by rw [← a4]; exact fun q => h94 q.1
        refine k_inc hK (q := 142)  dX5_layFrom_139 rfl (y := (k : Nat) + 1) (L2 := [some (vR 10), some (vI p), some (vI b), some (vI ((k : Nat) + 1))]) rfl rfl (by omega) rfl (k_goto hK (t := 73) dX5_layFrom_142 rfl ?_)
        exact ih (k + 1) M b (by omega) hs hf (by simp only [wyl]; rw [if_neg hnot, List.append_nil]; exact hn)
      · refine k_aln hK (q := 98)  dX5_layFrom_97 rfl (z := 10) rfl (k_gR hK (q := 101) (r := 1) dX5_layFrom_98 rfl rf_X5_24 rfl rfl (k_aln hK (q := 102)  dX5_layFrom_101 rfl (z := 10) rfl (k_gR hK (q := 105) (r := 1) dX5_layFrom_102 rfl rf_X5_24 rfl rfl (k_gR hK (q := 108) (r := 5) dX5_layFrom_105 rfl rf_X5_69 rfl rfl (k_iln hK (q := 109)  dX5_layFrom_108 rfl (z := (k : Nat)) rfl ?_)))))
        refine k_ald hK (q := 110)  dX5_layFrom_109 rfl (y := M 5 (k : Nat)) rfl (by omega) rfl ?_
        refine k_iv1I hK (q := 113) dX5_layFrom_110 rfl rm_X5_37 rfl rfl (Nat.le_of_ble_eq_true rfl) (t_isThereC _ M (M 5 (k : Nat)) (by omega)) ?_
        refine k_ifeq hK (q := 116) (t := 139) dX5_layFrom_113 rfl rfl (fun h113 => ?_) (fun h113 => ?_)
        · have h113 := bi_0.mp h113
          have h113 : ¬ thr S (M 5 (k : Nat)) := fun q => h113 ((thr_C hs hS _).mpr q)
          have hnot : ¬ (S 3 (k : Nat) = p ∧ thr S p ∧ thr S (S 4 (k : Nat))) := by rw [← a5]; exact fun q => h113 q.2.2
          refine k_inc hK (q := 142)  dX5_layFrom_139 rfl (y := (k : Nat) + 1) (L2 := [some (vR 10), some (vI p), some (vI b), some (vI ((k : Nat) + 1))]) rfl rfl (by omega) rfl (k_goto hK (t := 73) dX5_layFrom_142 rfl ?_)
          exact ih (k + 1) M b (by omega) hs hf (by simp only [wyl]; rw [if_neg hnot, List.append_nil]; exact hn)
        · have h113 := bi_1.mp h113
          have h113 : thr S (M 5 (k : Nat)) := (thr_C hs hS _).mp h113
          have hyes : S 3 (k : Nat) = p ∧ thr S p ∧ thr S (S 4 (k : Nat)) := by rw [← a4, ← a5]; exact ⟨by omega, hp2 (k : Nat) (by omega) (by omega) (by rw [← a4]; omega), h113⟩
          have hlen2 := hlen k (by omega) hyes
          refine k_aln hK (q := 117)  dX5_layFrom_116 rfl (z := 10) rfl (k_iln hK (q := 118)  dX5_layFrom_117 rfl (z := p) rfl (k_aln hK (q := 119)  dX5_layFrom_118 rfl (z := 10) rfl (k_gR hK (q := 122) (r := 1) dX5_layFrom_119 rfl rf_X5_24 rfl rfl (k_gR hK (q := 125) (r := 5) dX5_layFrom_122 rfl rf_X5_69 rfl rfl (k_iln hK (q := 126)  dX5_layFrom_125 rfl (z := (k : Nat)) rfl ?_)))))
          refine k_ald hK (q := 127)  dX5_layFrom_126 rfl (y := M 5 (k : Nat)) rfl (by omega) rfl (k_aln hK (q := 128)  dX5_layFrom_127 rfl (z := 10) rfl (k_gR hK (q := 131) (r := 1) dX5_layFrom_128 rfl rf_X5_24 rfl rfl (k_gR hK (q := 134) (r := 6) dX5_layFrom_131 rfl rf_X5_72 rfl rfl (k_ic hK (q := 135)  dX5_layFrom_134 rfl (by decide) (k_ald hK (q := 136)  dX5_layFrom_135 rfl (y := M 6 3) rfl (by omega) rfl ?_)))))
          refine k_iv3 hK (q := 139) dX5_layFrom_136 rfl rm_X5_49 rfl rfl (Nat.le_of_ble_eq_true rfl) (t_nadd _ M p (M 5 (k : Nat)) (M 6 3) _ hn (by simp; omega)) (fun r9 M5 h9 => ?_)
          obtain ⟨rfl, hn2, hf2⟩ := h9
          show K 139 [some (vR 10), some (vI p), some (vI b), some (vI (k : Nat))] [] M5
          refine k_inc hK (q := 142)  dX5_layFrom_139 rfl (y := (k : Nat) + 1) (L2 := [some (vR 10), some (vI p), some (vI b), some (vI ((k : Nat) + 1))]) rfl rfl (by omega) rfl (k_goto hK (t := 73) dX5_layFrom_142 rfl ?_)
          have hs5 : scC M5 = S := by rw [scC_fr (frX_S hf2 (by decide))]; exact hs
          refine ih (k + 1) M5 b (by omega) hs5 (frX_trans hf hf2) ?_
          simp only [wyl]
          rw [if_pos hyes, List.map_append, ← List.append_assoc]
          have e7 : (p, M 5 (k : Nat), M 6 3) = (p, S 4 (k : Nat), S 5 3) := by rw [a5, a6]
          rw [e7] at hn2
          exact hn2

theorem wyl_lt (S : Sc) (p : Int) {k m : Nat} (h : k < m) (hc : S 3 (k : Nat) = p ∧ thr S p ∧ thr S (S 4 (k : Nat))) : (wyl S p k).length < (wyl S p m).length := by
  induction h with
  | refl => simp only [wyl]; rw [if_pos hc]; simp
  | step _ ih => simp only [wyl, List.length_append]; omega

set_option maxRecDepth 20000 in
set_option maxHeartbeats 2000000 in
theorem t_layFrom (d : Nat) (M : ra_M) (p : Int) (S : Sc) (l : List Eg) (hs : scC M = S) (hS : okSc S) (hp : p = -1 ∨ thr S p) (hn : NxL M l) (hlen : l.length + (nx S p).length ≤ 74) : Ex (d + 3) m_X5_layFrom [vR 10, vI p] M (fun r M2 => r = none ∧ NxL M2 (l ++ (nx S p).map (fun q => (p, q.1, q.2))) ∧ frX [10, 11, 12, 13] M M2) := by
  refine Ex_call (Nat.le_of_ble_eq_true rfl) (fun K hK => ?_)
  show K 0 [some (vR 10), some (vI p), none, none] [] M
  have hK : ra_Clo _ m_X5_layFrom cX5_layFrom _ K := hK
  obtain ⟨e5, e6, e7, e8, e9⟩ := scC_e hs
  have hs0 := hS.1
  have hs1 := hS.2.1
  have hs2 := hS.2.2.1
  have hpb : -1 ≤ p ∧ p < 60 := by rcases hp with h | h <;> omega
  have hp2 : ∀ k : Int, 0 ≤ k → k < S 0 1 → S 3 k = p → thr S p := by
    intro k hk hk2 he
    rcases hp with h | h
    · have := (hS.2.2.2.2.2.2.1 k hk hk2).1.1
      omega
    · exact h
  have hnx : (nx S p).length = (nx0 S p).length + ((nx1 S p).length + (wyl S p (S 0 1).toNat).length) := by simp [nx]
  have hlen2 : ∀ k : Nat, k < (S 0 1).toNat → (S 3 (k : Nat) = p ∧ thr S p ∧ thr S (S 4 (k : Nat))) → (l ++ (nx0 S p ++ nx1 S p).map (fun q => (p, q.1, q.2))).length + (wyl S p k).length < 74 := by
    intro k hk hc
    have hw := wyl_lt S p hk hc
    simp
    omega
  have hQ2 : ∀ M2, frX [10, 11, 12, 13] M M2 → NxL M2 ((l ++ (nx0 S p ++ nx1 S p).map (fun q => (p, q.1, q.2))) ++ (wyl S p (S 0 1).toNat).map (fun q => (p, q.1, q.2))) → (fun (r : Option ra_V) M2 => r = none ∧ NxL M2 (l ++ (nx S p).map (fun q => (p, q.1, q.2))) ∧ frX [10, 11, 12, 13] M M2) none M2 := by
    intro M2 h1 h2
    refine ⟨rfl, ?_, h1⟩
    simpa [nx] using h2
  refine k_iln hK (q := 1)  dX5_layFrom_0 rfl (z := p) rfl (k_ic hK (q := 2)  dX5_layFrom_1 rfl (by decide) ?_)
  refine k_cne hK (q := 5) (t := 15) dX5_layFrom_2 rfl rfl (fun h2 => ?_) (fun h2 => ?_)
  · refine k_iln hK (q := 16)  dX5_layFrom_15 rfl (z := p) rfl (k_ic hK (q := 17)  dX5_layFrom_16 rfl (by decide) (k_add hK (q := 18)  dX5_layFrom_17 rfl (z := p + 1) rfl (by omega) (k_isn hK (q := 19)  dX5_layFrom_18 rfl (L2 := [some (vR 10), some (vI p), some (vI (p + 1)), none]) (Nat.le_of_ble_eq_true rfl) rfl ?_)))
    have hb : (p + 1) = bhd S p := by unfold bhd; rw [if_pos (by omega)]
    rw [hb]
    have J71 : ∀ M1, scC M1 = S → frX [10, 11, 12, 13] M M1 → NxL M1 (l ++ (nx0 S p ++ nx1 S p).map (fun q => (p, q.1, q.2))) → K 71 [some (vR 10), some (vI p), some (vI (bhd S p)), none] [] M1 := by
      intro M1 hs1 hf1 hn1
      refine k_ic hK (q := 72)  dX5_layFrom_71 rfl (by decide) (k_isn hK (q := 73)  dX5_layFrom_72 rfl (L2 := [some (vR 10), some (vI p), some (vI (bhd S p)), some (vI 0)]) (Nat.le_of_ble_eq_true rfl) rfl ?_)
      exact layFrom_loop hK hS hp2 hlen2 hQ2 (S 0 1).toNat 0 M1 _ (by omega) hs1 hf1 (by simpa [wyl] using hn1)
    have J37 : ∀ M1, scC M1 = S → frX [10, 11, 12, 13] M M1 → NxL M1 (l ++ (nx0 S p).map (fun q => (p, q.1, q.2))) → K 37 [some (vR 10), some (vI p), some (vI (bhd S p)), none] [] M1 := by
      intro M1 hs1 hf1 hn1
      obtain ⟨e5, e6, e7, e8, e9⟩ := scC_e hs1
      refine k_aln hK (q := 38)  dX5_layFrom_37 rfl (z := 10) rfl (k_gR hK (q := 41) (r := 1) dX5_layFrom_38 rfl rf_X5_24 rfl rfl ?_)
      refine k_iv0I hK (q := 44) dX5_layFrom_41 rfl rm_X5_53 rfl rfl (Nat.le_of_ble_eq_true rfl) (t_hasLoop _ M1) ?_
      refine k_ifeq hK (q := 47) (t := 71) dX5_layFrom_44 rfl rfl (fun h44 => ?_) (fun h44 => ?_)
      · have h44 := bi_0.mp h44
        have hno : nx1 S p = [] := by unfold nx1; rw [if_neg (by omega)]
        exact J71 M1 hs1 hf1 (by rw [hno, List.append_nil]; exact hn1)
      · have h44 := bi_1.mp h44
        refine k_iln hK (q := 48)  dX5_layFrom_47 rfl (z := p) rfl (k_aln hK (q := 49)  dX5_layFrom_48 rfl (z := 10) rfl (k_gR hK (q := 52) (r := 1) dX5_layFrom_49 rfl rf_X5_24 rfl rfl (k_gI hK (q := 55) (z := M1 1 8) 0 dX5_layFrom_52 rfl rf_X5_57 rfl rfl rfl rfl ?_)))
        refine k_cne hK (q := 58) (t := 71) dX5_layFrom_55 rfl rfl (fun h55 => ?_) (fun h55 => ?_)
        · have hno : nx1 S p = [] := by unfold nx1; rw [if_neg (by omega)]
          exact J71 M1 hs1 hf1 (by rw [hno, List.append_nil]; exact hn1)
        · have hyes : nx1 S p = [(S 0 2, 0)] := by unfold nx1; rw [if_pos (by omega)]
          have hl1 : (nx1 S p).length = 1 := by rw [hyes]; rfl
          refine k_aln hK (q := 59)  dX5_layFrom_58 rfl (z := 10) rfl (k_iln hK (q := 60)  dX5_layFrom_59 rfl (z := p) rfl (k_aln hK (q := 61)  dX5_layFrom_60 rfl (z := 10) rfl (k_gR hK (q := 64) (r := 1) dX5_layFrom_61 rfl rf_X5_24 rfl rfl (k_gI hK (q := 67) (z := M1 1 7) 0 dX5_layFrom_64 rfl rf_X5_60 rfl rfl rfl rfl (k_ic hK (q := 68)  dX5_layFrom_67 rfl (by decide) ?_)))))
          refine k_iv3 hK (q := 71) dX5_layFrom_68 rfl rm_X5_49 rfl rfl (Nat.le_of_ble_eq_true rfl) (t_nadd _ M1 p (M1 1 7) 0 _ hn1 (by rw [hnx] at hlen; simp; omega)) (fun r9 M5 h9 => ?_)
          obtain ⟨rfl, hn2, hf2⟩ := h9
          show K 71 [some (vR 10), some (vI p), some (vI (bhd S p)), none] [] M5
          refine J71 M5 (by rw [scC_fr (frX_S hf2 (by decide))]; exact hs1) (frX_trans hf1 hf2) ?_
          rw [hyes, List.map_append, ← List.append_assoc]
          rw [e7] at hn2
          exact hn2
    refine k_aln hK (q := 20)  dX5_layFrom_19 rfl (z := 10) rfl (k_gR hK (q := 23) (r := 1) dX5_layFrom_20 rfl rf_X5_24 rfl rfl (k_iln hK (q := 24)  dX5_layFrom_23 rfl (z := (bhd S p)) rfl ?_))
    refine k_iv1I hK (q := 27) dX5_layFrom_24 rfl rm_X5_37 rfl rfl (Nat.le_of_ble_eq_true rfl) (t_isThereC _ M (bhd S p) (by omega)) ?_
    refine k_ifeq hK (q := 30) (t := 37) dX5_layFrom_27 rfl rfl (fun h27 => ?_) (fun h27 => ?_)
    · have h27 := bi_0.mp h27
      have hB : ¬ thr S (bhd S p) := fun q => h27 ((thr_C hs hS _).mpr q)
      have hno : nx0 S p = [] := by unfold nx0; rw [if_neg hB]
      exact J37 M hs (frX_refl _ _) (by rw [hno]; simpa using hn)
    · have h27 := bi_1.mp h27
      have hB : thr S (bhd S p) := (thr_C hs hS _).mp h27
      have hyes : nx0 S p = [(bhd S p, 0)] := by unfold nx0; rw [if_pos hB]
      have hl1 : (nx0 S p).length = 1 := by rw [hyes]; rfl
      refine k_aln hK (q := 31)  dX5_layFrom_30 rfl (z := 10) rfl (k_iln hK (q := 32)  dX5_layFrom_31 rfl (z := p) rfl (k_iln hK (q := 33)  dX5_layFrom_32 rfl (z := (bhd S p)) rfl (k_ic hK (q := 34)  dX5_layFrom_33 rfl (by decide) ?_)))
      refine k_iv3 hK (q := 37) dX5_layFrom_34 rfl rm_X5_49 rfl rfl (Nat.le_of_ble_eq_true rfl) (t_nadd _ M p (bhd S p) 0 _ hn (by rw [hnx] at hlen; omega)) (fun r9 M5 h9 => ?_)
      obtain ⟨rfl, hn2, hf2⟩ := h9
      show K 37 [some (vR 10), some (vI p), some (vI (bhd S p)), none] [] M5
      refine J37 M5 (by rw [scC_fr (frX_S hf2 (by decide))]; exact hs) hf2 ?_
      rw [hyes]
      exact hn2
  · refine k_aln hK (q := 6)  dX5_layFrom_5 rfl (z := 10) rfl (k_gR hK (q := 9) (r := 1) dX5_layFrom_6 rfl rf_X5_24 rfl rfl ?_)
    refine k_iv0I hK (q := 12) dX5_layFrom_9 rfl rm_X5_45 rfl rfl (Nat.le_of_ble_eq_true rfl) (t_firstThere _ M) ?_
    refine k_goto hK (t := 18) dX5_layFrom_12 rfl (k_isn hK (q := 19)  dX5_layFrom_18 rfl (L2 := [some (vR 10), some (vI p), some (vI (if M 1 7 ≠ -1 then M 1 7 else 0)), none]) (Nat.le_of_ble_eq_true rfl) rfl ?_)
    have hb : (if M 1 7 ≠ -1 then M 1 7 else 0) = bhd S p := by unfold bhd; split <;> (first | omega | (split <;> omega))
    rw [hb]
    have J71 : ∀ M1, scC M1 = S → frX [10, 11, 12, 13] M M1 → NxL M1 (l ++ (nx0 S p ++ nx1 S p).map (fun q => (p, q.1, q.2))) → K 71 [some (vR 10), some (vI p), some (vI (bhd S p)), none] [] M1 := by
      intro M1 hs1 hf1 hn1
      refine k_ic hK (q := 72)  dX5_layFrom_71 rfl (by decide) (k_isn hK (q := 73)  dX5_layFrom_72 rfl (L2 := [some (vR 10), some (vI p), some (vI (bhd S p)), some (vI 0)]) (Nat.le_of_ble_eq_true rfl) rfl ?_)
      exact layFrom_loop hK hS hp2 hlen2 hQ2 (S 0 1).toNat 0 M1 _ (by omega) hs1 hf1 (by simpa [wyl] using hn1)
    have J37 : ∀ M1, scC M1 = S → frX [10, 11, 12, 13] M M1 → NxL M1 (l ++ (nx0 S p).map (fun q => (p, q.1, q.2))) → K 37 [some (vR 10), some (vI p), some (vI (bhd S p)), none] [] M1 := by
      intro M1 hs1 hf1 hn1
      obtain ⟨e5, e6, e7, e8, e9⟩ := scC_e hs1
      refine k_aln hK (q := 38)  dX5_layFrom_37 rfl (z := 10) rfl (k_gR hK (q := 41) (r := 1) dX5_layFrom_38 rfl rf_X5_24 rfl rfl ?_)
      refine k_iv0I hK (q := 44) dX5_layFrom_41 rfl rm_X5_53 rfl rfl (Nat.le_of_ble_eq_true rfl) (t_hasLoop _ M1) ?_
      refine k_ifeq hK (q := 47) (t := 71) dX5_layFrom_44 rfl rfl (fun h44 => ?_) (fun h44 => ?_)
      · have h44 := bi_0.mp h44
        have hno : nx1 S p = [] := by unfold nx1; rw [if_neg (by omega)]
        exact J71 M1 hs1 hf1 (by rw [hno, List.append_nil]; exact hn1)
      · have h44 := bi_1.mp h44
        refine k_iln hK (q := 48)  dX5_layFrom_47 rfl (z := p) rfl (k_aln hK (q := 49)  dX5_layFrom_48 rfl (z := 10) rfl (k_gR hK (q := 52) (r := 1) dX5_layFrom_49 rfl rf_X5_24 rfl rfl (k_gI hK (q := 55) (z := M1 1 8) 0 dX5_layFrom_52 rfl rf_X5_57 rfl rfl rfl rfl ?_)))
        refine k_cne hK (q := 58) (t := 71) dX5_layFrom_55 rfl rfl (fun h55 => ?_) (fun h55 => ?_)
        · have hno : nx1 S p = [] := by unfold nx1; rw [if_neg (by omega)]
          exact J71 M1 hs1 hf1 (by rw [hno, List.append_nil]; exact hn1)
        · have hyes : nx1 S p = [(S 0 2, 0)] := by unfold nx1; rw [if_pos (by omega)]
          have hl1 : (nx1 S p).length = 1 := by rw [hyes]; rfl
          refine k_aln hK (q := 59)  dX5_layFrom_58 rfl (z := 10) rfl (k_iln hK (q := 60)  dX5_layFrom_59 rfl (z := p) rfl (k_aln hK (q := 61)  dX5_layFrom_60 rfl (z := 10) rfl (k_gR hK (q := 64) (r := 1) dX5_layFrom_61 rfl rf_X5_24 rfl rfl (k_gI hK (q := 67) (z := M1 1 7) 0 dX5_layFrom_64 rfl rf_X5_60 rfl rfl rfl rfl (k_ic hK (q := 68)  dX5_layFrom_67 rfl (by decide) ?_)))))
          refine k_iv3 hK (q := 71) dX5_layFrom_68 rfl rm_X5_49 rfl rfl (Nat.le_of_ble_eq_true rfl) (t_nadd _ M1 p (M1 1 7) 0 _ hn1 (by rw [hnx] at hlen; simp; omega)) (fun r9 M5 h9 => ?_)
          obtain ⟨rfl, hn2, hf2⟩ := h9
          show K 71 [some (vR 10), some (vI p), some (vI (bhd S p)), none] [] M5
          refine J71 M5 (by rw [scC_fr (frX_S hf2 (by decide))]; exact hs1) (frX_trans hf1 hf2) ?_
          rw [hyes, List.map_append, ← List.append_assoc]
          rw [e7] at hn2
          exact hn2
    refine k_aln hK (q := 20)  dX5_layFrom_19 rfl (z := 10) rfl (k_gR hK (q := 23) (r := 1) dX5_layFrom_20 rfl rf_X5_24 rfl rfl (k_iln hK (q := 24)  dX5_layFrom_23 rfl (z := (bhd S p)) rfl ?_))
    refine k_iv1I hK (q := 27) dX5_layFrom_24 rfl rm_X5_37 rfl rfl (Nat.le_of_ble_eq_true rfl) (t_isThereC _ M (bhd S p) (by omega)) ?_
    refine k_ifeq hK (q := 30) (t := 37) dX5_layFrom_27 rfl rfl (fun h27 => ?_) (fun h27 => ?_)
    · have h27 := bi_0.mp h27
      have hB : ¬ thr S (bhd S p) := fun q => h27 ((thr_C hs hS _).mpr q)
      have hno : nx0 S p = [] := by unfold nx0; rw [if_neg hB]
      exact J37 M hs (frX_refl _ _) (by rw [hno]; simpa using hn)
    · have h27 := bi_1.mp h27
      have hB : thr S (bhd S p) := (thr_C hs hS _).mp h27
      have hyes : nx0 S p = [(bhd S p, 0)] := by unfold nx0; rw [if_pos hB]
      have hl1 : (nx0 S p).length = 1 := by rw [hyes]; rfl
      refine k_aln hK (q := 31)  dX5_layFrom_30 rfl (z := 10) rfl (k_iln hK (q := 32)  dX5_layFrom_31 rfl (z := p) rfl (k_iln hK (q := 33)  dX5_layFrom_32 rfl (z := (bhd S p)) rfl (k_ic hK (q := 34)  dX5_layFrom_33 rfl (by decide) ?_)))
      refine k_iv3 hK (q := 37) dX5_layFrom_34 rfl rm_X5_49 rfl rfl (Nat.le_of_ble_eq_true rfl) (t_nadd _ M p (bhd S p) 0 _ hn (by rw [hnx] at hlen; omega)) (fun r9 M5 h9 => ?_)
      obtain ⟨rfl, hn2, hf2⟩ := h9
      show K 37 [some (vR 10), some (vI p), some (vI (bhd S p)), none] [] M5
      refine J37 M5 (by rw [scC_fr (frX_S hf2 (by decide))]; exact hs) hf2 ?_
      rw [hyes]
      exact hn2
end
section
/-- NEXT of all places is laid -/
def NxA (M : ra_M) (S : Sc) : Prop := NxL M (El S) ∧ ∀ t : Nat, t ≤ (S 0 0).toNat + 1 → M 14 (t : Nat) = ((Eu S t).length : Nat)
theorem NxA_fr {M M2 : ra_M} {S : Sc} (h : NxA M S) (hf : ∀ k, 10 ≤ k → k ≤ 14 → M2 k = M k) : NxA M2 S := ⟨NxL_fr h.1 (hf 10 (by omega) (by omega)) (hf 11 (by omega) (by omega)) (hf 12 (by omega) (by omega)) (hf 13 (by omega) (by omega)), fun t ht => by rw [hf 14 (by omega) (by omega)]; exact h.2 t ht⟩

set_option maxRecDepth 20000 in
set_option maxHeartbeats 2000000 in
theorem lay_loop {d : Nat} {Q : Option ra_V → ra_M → Prop} {K : Nat → ra_L → List ra_V → ra_M → Prop} (hK : ra_Clo (Ex (d + 3)) m_X5_lay cX5_lay Q K) {S : Sc} (hS : okSc S) {M0 : ra_M}
    (hQ : ∀ M2, NxA M2 S → frX [10, 11, 12, 13, 14] M0 M2 → Q none M2) :
    ∀ (n i : Nat) (M : ra_M) (pl : Int), i + n = (S 0 0).toNat + 1 → pl = (i : Int) - 1 → scC M = S → frX [10, 11, 12, 13, 14] M0 M → NxL M (Eu S i) → (∀ t : Nat, t < i → M 14 (t : Nat) = ((Eu S t).length : Nat)) → K 7 [some (vR 10), some (vI pl)] [] M := by
  intro n
  induction n with
  | zero =>
    intro i M pl hi hpl hs hf hn hb
    obtain ⟨e5, e6, e7, e8, e9⟩ := scC_e hs
    have hs0 := hS.1
    refine k_iln hK (q := 8)  dX5_lay_7 rfl (z := pl) rfl (k_aln hK (q := 9)  dX5_lay_8 rfl (z := 10) rfl (k_gR hK (q := 12) (r := 1) dX5_lay_9 rfl rf_X5_24 rfl rfl (k_gI hK (q := 15) (z := M 1 5) 0 dX5_lay_12 rfl rf_X5_32 rfl rfl rfl rfl ?_)))
    refine k_cge hK (q := 18) (t := 57) dX5_lay_15 rfl rfl (fun h15 => ?_) (fun h15 => ?_)
    · refine k_aln hK (q := 58)  dX5_lay_57 rfl (z := 10) rfl (k_gR hK (q := 61) (r := 14) dX5_lay_58 rfl rf_X5_21 rfl rfl (k_aln hK (q := 62)  dX5_lay_61 rfl (z := 10) rfl (k_gR hK (q := 65) (r := 1) dX5_lay_62 rfl rf_X5_24 rfl rfl (k_gI hK (q := 68) (z := M 1 5) 0 dX5_lay_65 rfl rf_X5_32 rfl rfl rfl rfl (k_ic hK (q := 69)  dX5_lay_68 rfl (by decide) ?_)))))
      refine k_add hK (q := 70)  dX5_lay_69 rfl (z := (M 1 5) + 1) rfl (by omega) (k_aln hK (q := 71)  dX5_lay_70 rfl (z := 10) rfl (k_gI hK (q := 74) (z := M 10 5) 0 dX5_lay_71 rfl rf_X5_28 rfl rfl rfl rfl (k_ast hK (q := 75)  dX5_lay_74 rfl rfl (by omega) ?_)))
      refine k_vr hK dX5_lay_75 rfl ?_
      refine hQ _ ?_ ?_
      · refine ⟨?_, fun t ht => ?_⟩
        · have : i = (S 0 0).toNat + 1 := by omega
          subst this
          exact NxL_fr hn (up_k _ _ _ (by decide)) (up_k _ _ _ (by decide)) (up_k _ _ _ (by decide)) (up_k _ _ _ (by decide))
        · by_cases h : t = i
          · subst h
            have e : ((t : Nat) : Int) = M 1 5 + 1 := by omega
            rw [e, up_same, hn.1]
          · rw [up_j _ _ (by omega)]
            exact hb t (by omega)
      · exact frX_up hf _ _ (by decide)
    · exact absurd h15 (by omega)
  | succ n ih =>
    intro i M pl hi hpl hs hf hn hb
    obtain ⟨e5, e6, e7, e8, e9⟩ := scC_e hs
    have hs0 := hS.1
    refine k_iln hK (q := 8)  dX5_lay_7 rfl (z := pl) rfl (k_aln hK (q := 9)  dX5_lay_8 rfl (z := 10) rfl (k_gR hK (q := 12) (r := 1) dX5_lay_9 rfl rf_X5_24 rfl rfl (k_gI hK (q := 15) (z := M 1 5) 0 dX5_lay_12 rfl rf_X5_32 rfl rfl rfl rfl ?_)))
    refine k_cge hK (q := 18) (t := 57) dX5_lay_15 rfl rfl (fun h15 => ?_) (fun h15 => ?_)
    · exact absurd h15 (by omega)
    · refine k_aln hK (q := 19)  dX5_lay_18 rfl (z := 10) rfl (k_gR hK (q := 22) (r := 14) dX5_lay_19 rfl rf_X5_21 rfl rfl (k_iln hK (q := 23)  dX5_lay_22 rfl (z := pl) rfl (k_ic hK (q := 24)  dX5_lay_23 rfl (by decide) (k_add hK (q := 25)  dX5_lay_24 rfl (z := pl + 1) rfl (by omega) (k_aln hK (q := 26)  dX5_lay_25 rfl (z := 10) rfl ?_)))))
      refine k_gI hK (q := 29) (z := M 10 5) 0 dX5_lay_26 rfl rf_X5_28 rfl rfl rfl rfl (k_ast hK (q := 30)  dX5_lay_29 rfl rfl (by omega) ?_)
      have hs1 : scC (up M 14 (pl + 1) (M 10 5)) = S := by rw [scC_fr (M := M) (frX_S (l := [14]) (frX_up (frX_refl _ _) _ _ (by decide)) (by decide))]; exact hs
      have hn1 : NxL (up M 14 (pl + 1) (M 10 5)) (Eu S i) := NxL_fr hn (up_k _ _ _ (by decide)) (up_k _ _ _ (by decide)) (up_k _ _ _ (by decide)) (up_k _ _ _ (by decide))
      have hf1 : frX [10, 11, 12, 13, 14] M0 (up M 14 (pl + 1) (M 10 5)) := frX_up hf _ _ (by decide)
      have hb1 : ∀ t : Nat, t < i + 1 → up M 14 (pl + 1) (M 10 5) 14 (t : Nat) = ((Eu S t).length : Nat) := by
        intro t ht
        by_cases h : t = i
        · subst h
          rw [show ((t : Nat) : Int) = pl + 1 by omega, up_same, hn.1]
        · rw [up_j _ _ (by omega)]
          exact hb t (by omega)
      refine k_iln hK (q := 31)  dX5_lay_30 rfl (z := pl) rfl (k_ic hK (q := 32)  dX5_lay_31 rfl (by decide) ?_)
      refine k_ceq hK (q := 35) (t := 46) dX5_lay_32 rfl rfl (fun h32 => ?_) (fun h32 => ?_)
      · have hp0 : pl = -1 ∨ thr S pl := Or.inl h32
        have hp : pl = -1 ∨ thr S pl := by assumption
        have hEu : Eu S (i + 1) = Eu S i ++ (nx S pl).map (fun q => (pl, q.1, q.2)) := by
          simp only [Eu]
          rw [← hpl]
          rw [if_pos (by rcases hp with h | h; left; omega; right; exact h)]
        have hl1 : (Eu S i).length + (nx S pl).length ≤ 74 := by
          have h1 := Eu_mono S (i + 1) ((S 0 0).toNat + 1) (by omega)
          have h2 := El_len hS
          unfold El at h2
          rw [hEu, List.length_append, List.length_map] at h1
          omega
        refine k_aln hK (q := 47)  dX5_lay_46 rfl (z := 10) rfl (k_iln hK (q := 48)  dX5_lay_47 rfl (z := pl) rfl ?_)
        refine k_iv1 hK (q := 51) dX5_lay_48 rfl rm_X5_41 rfl rfl (Nat.le_of_ble_eq_true rfl) (t_layFrom _ (up M 14 (pl + 1) (M 10 5)) pl S _ hs1 hS hp hn1 (by omega)) (fun r9 M5 h9 => ?_)
        obtain ⟨rfl, hn2, hf2⟩ := h9
        show K 51 [some (vR 10), some (vI pl)] [] M5
        refine k_inc hK (q := 54)  dX5_lay_51 rfl (y := pl + 1) (L2 := [some (vR 10), some (vI (pl + 1))]) rfl rfl (by omega) rfl (k_goto hK (t := 7) dX5_lay_54 rfl ?_)
        refine ih (i + 1) M5 (pl + 1) (by omega) (by omega) (by rw [scC_fr (frX_S hf2 (by decide))]; exact hs1) (frX_trans hf1 (frX_sub hf2 (by decide))) (by rw [hEu]; exact hn2) (fun t ht => by rw [hf2 14 (by decide)]; exact hb1 t ht)
      · refine k_aln hK (q := 36)  dX5_lay_35 rfl (z := 10) rfl (k_gR hK (q := 39) (r := 1) dX5_lay_36 rfl rf_X5_24 rfl rfl (k_iln hK (q := 40)  dX5_lay_39 rfl (z := pl) rfl ?_))
        refine k_iv1I hK (q := 43) dX5_lay_40 rfl rm_X5_37 rfl rfl (Nat.le_of_ble_eq_true rfl) (t_isThereC _ (up M 14 (pl + 1) (M 10 5)) pl (by simp [up]; omega)) ?_
        refine k_ifeq hK (q := 46) (t := 51) dX5_lay_43 rfl rfl (fun h43 => ?_) (fun h43 => ?_)
        · have h43 := bi_0.mp h43
          have h43 : ¬ thr S pl := fun q => h43 ((thr_C hs1 hS _).mpr q)
          have hEu : Eu S (i + 1) = Eu S i := by
            simp only [Eu]
            rw [← hpl, if_neg (by intro q; rcases q with q | q; omega; exact h43 q), List.append_nil]
          refine k_inc hK (q := 54)  dX5_lay_51 rfl (y := pl + 1) (L2 := [some (vR 10), some (vI (pl + 1))]) rfl rfl (by omega) rfl (k_goto hK (t := 7) dX5_lay_54 rfl ?_)
          exact ih (i + 1) _ (pl + 1) (by omega) (by omega) hs1 hf1 (by rw [hEu]; exact hn1) hb1
        · have h43 := bi_1.mp h43
          have hp0 : pl = -1 ∨ thr S pl := Or.inr ((thr_C hs1 hS _).mp h43)
          have hp : pl = -1 ∨ thr S pl := by assumption
          have hEu : Eu S (i + 1) = Eu S i ++ (nx S pl).map (fun q => (pl, q.1, q.2)) := by
            simp only [Eu]
            rw [← hpl]
            rw [if_pos (by rcases hp with h | h; left; omega; right; exact h)]
          have hl1 : (Eu S i).length + (nx S pl).length ≤ 74 := by
            have h1 := Eu_mono S (i + 1) ((S 0 0).toNat + 1) (by omega)
            have h2 := El_len hS
            unfold El at h2
            rw [hEu, List.length_append, List.length_map] at h1
            omega
          refine k_aln hK (q := 47)  dX5_lay_46 rfl (z := 10) rfl (k_iln hK (q := 48)  dX5_lay_47 rfl (z := pl) rfl ?_)
          refine k_iv1 hK (q := 51) dX5_lay_48 rfl rm_X5_41 rfl rfl (Nat.le_of_ble_eq_true rfl) (t_layFrom _ (up M 14 (pl + 1) (M 10 5)) pl S _ hs1 hS hp hn1 (by omega)) (fun r9 M5 h9 => ?_)
          obtain ⟨rfl, hn2, hf2⟩ := h9
          show K 51 [some (vR 10), some (vI pl)] [] M5
          refine k_inc hK (q := 54)  dX5_lay_51 rfl (y := pl + 1) (L2 := [some (vR 10), some (vI (pl + 1))]) rfl rfl (by omega) rfl (k_goto hK (t := 7) dX5_lay_54 rfl ?_)
          refine ih (i + 1) M5 (pl + 1) (by omega) (by omega) (by rw [scC_fr (frX_S hf2 (by decide))]; exact hs1) (frX_trans hf1 (frX_sub hf2 (by decide))) (by rw [hEu]; exact hn2) (fun t ht => by rw [hf2 14 (by decide)]; exact hb1 t ht)

set_option maxRecDepth 20000 in
set_option maxHeartbeats 2000000 in
theorem xc_lay (d : Nat) (M : ra_M) (S : Sc) (hs : scC M = S) (hS : okSc S) : Ex (d + 4) m_X5_lay [vR 10] M (fun r M2 => r = none ∧ NxA M2 S ∧ frX [10, 11, 12, 13, 14] M M2) := by
  refine Ex_call (Nat.le_of_ble_eq_true rfl) (fun K hK => ?_)
  show K 0 [some (vR 10), none] [] M
  have hK : ra_Clo _ m_X5_lay cX5_lay _ K := hK
  refine k_aln hK (q := 1)  dX5_lay_0 rfl (z := 10) rfl (k_ic hK (q := 2)  dX5_lay_1 rfl (by decide) (k_pI hK (q := 5) (M2 := up M 10 5 0) dX5_lay_2 rfl rp_X5_28 rfl rfl rfl (k_ic hK (q := 6)  dX5_lay_5 rfl (by decide) (k_isn hK (q := 7)  dX5_lay_6 rfl (L2 := [some (vR 10), some (vI (-1))]) (Nat.le_of_ble_eq_true rfl) rfl ?_))))
  exact lay_loop hK hS (M0 := M) (fun M2 h1 h2 => ⟨rfl, h1, h2⟩) ((S 0 0).toNat + 1) 0 _ (-1) (by omega) (by omega) (by rw [scC_fr (M := M) (frX_S (l := [10]) (frX_up (frX_refl _ _) _ _ (by decide)) (by decide))]; exact hs) (frX_up (frX_refl _ _) _ _ (by decide)) ⟨by simp [up, Eu], fun i e h => by simp [Eu] at h⟩ (fun t ht => by omega)

set_option maxRecDepth 20000 in
set_option maxHeartbeats 2000000 in
theorem t_beginOf (d : Nat) (M : ra_M) (p : Int) (h : -1 ≤ p ∧ p < 60) : Ex d m_X5_beginOf [vR 10, vI p] M (fun r M2 => r = some (vI (M 14 (p + 1))) ∧ M2 = M) := by
  refine Ex_leaf (Nat.le_of_ble_eq_true rfl) (fun C K hK => ?_)
  show K 0 [some (vR 10), some (vI p)] [] M
  have hK : ra_Clo _ m_X5_beginOf cX5_beginOf _ K := hK
  refine k_aln hK (q := 1)  dX5_beginOf_0 rfl (z := 10) rfl (k_gR hK (q := 4) (r := 14) dX5_beginOf_1 rfl rf_X5_21 rfl rfl (k_iln hK (q := 5)  dX5_beginOf_4 rfl (z := p) rfl (k_ic hK (q := 6)  dX5_beginOf_5 rfl (by decide) (k_add hK (q := 7)  dX5_beginOf_6 rfl (z := p + 1) rfl (by omega) (k_ald hK (q := 8)  dX5_beginOf_7 rfl (y := M 14 (p + 1)) rfl (by omega) rfl ?_)))))
  refine k_ir hK dX5_beginOf_8 rfl ?_
  exact ⟨rfl, rfl⟩

set_option maxRecDepth 20000 in
set_option maxHeartbeats 2000000 in
theorem t_endOf (d : Nat) (M : ra_M) (p : Int) (h : -1 ≤ p ∧ p < 60) : Ex d m_X5_endOf [vR 10, vI p] M (fun r M2 => r = some (vI (M 14 (p + 2))) ∧ M2 = M) := by
  refine Ex_leaf (Nat.le_of_ble_eq_true rfl) (fun C K hK => ?_)
  show K 0 [some (vR 10), some (vI p)] [] M
  have hK : ra_Clo _ m_X5_endOf cX5_endOf _ K := hK
  refine k_aln hK (q := 1)  dX5_endOf_0 rfl (z := 10) rfl (k_gR hK (q := 4) (r := 14) dX5_endOf_1 rfl rf_X5_21 rfl rfl (k_iln hK (q := 5)  dX5_endOf_4 rfl (z := p) rfl (k_ic hK (q := 6)  dX5_endOf_5 rfl (by decide) (k_add hK (q := 7)  dX5_endOf_6 rfl (z := p + 2) rfl (by omega) (k_ald hK (q := 8)  dX5_endOf_7 rfl (y := M 14 (p + 2)) rfl (by omega) rfl ?_)))))
  refine k_ir hK dX5_endOf_8 rfl ?_
  exact ⟨rfl, rfl⟩
end
section
/-! following, in the class -/

set_option maxRecDepth 20000 in
set_option maxHeartbeats 2000000 in
theorem xc_placeNow (d : Nat) (M : ra_M) (h : 0 ≤ M 7 2 ∧ M 7 2 ≤ 120) : Ex d m_X3_placeNow [vR 15] M (fun r M2 => r = some (vI (M 17 (M 7 2))) ∧ M2 = M) := by
  refine Ex_leaf (Nat.le_of_ble_eq_true rfl) (fun C K hK => ?_)
  show K 0 [some (vR 15)] [] M
  have hK : ra_Clo _ m_X3_placeNow cX3_placeNow _ K := hK
  refine k_aln hK (q := 1)  dX3_placeNow_0 rfl (z := 15) rfl (k_gR hK (q := 4) (r := 17) dX3_placeNow_1 rfl rf_X3_15 rfl rfl (k_aln hK (q := 5)  dX3_placeNow_4 rfl (z := 15) rfl (k_gR hK (q := 8) (r := 7) dX3_placeNow_5 rfl rf_X3_29 rfl rfl (k_gI hK (q := 11) (z := M 7 2) 0 dX3_placeNow_8 rfl rf_X3_34 rfl rfl rfl rfl (k_ald hK (q := 12)  dX3_placeNow_11 rfl (y := M 17 (M 7 2)) rfl (by omega) rfl ?_)))))
  refine k_ir hK dX3_placeNow_12 rfl ?_
  exact ⟨rfl, rfl⟩

set_option maxRecDepth 20000 in
set_option maxHeartbeats 2000000 in
theorem xc_placeBehind (d : Nat) (M : ra_M) (n : Int) (h : -1 ≤ n ∧ n < 120) : Ex d m_X3_placeBehind [vR 15, vI n] M (fun r M2 => r = some (vI (M 17 (n + 1))) ∧ M2 = M) := by
  refine Ex_leaf (Nat.le_of_ble_eq_true rfl) (fun C K hK => ?_)
  show K 0 [some (vR 15), some (vI n)] [] M
  have hK : ra_Clo _ m_X3_placeBehind cX3_placeBehind _ K := hK
  refine k_aln hK (q := 1)  dX3_placeBehind_0 rfl (z := 15) rfl (k_gR hK (q := 4) (r := 17) dX3_placeBehind_1 rfl rf_X3_15 rfl rfl (k_iln hK (q := 5)  dX3_placeBehind_4 rfl (z := n) rfl (k_ic hK (q := 6)  dX3_placeBehind_5 rfl (by decide) (k_add hK (q := 7)  dX3_placeBehind_6 rfl (z := n + 1) rfl (by omega) (k_ald hK (q := 8)  dX3_placeBehind_7 rfl (y := M 17 (n + 1)) rfl (by omega) rfl ?_)))))
  refine k_ir hK dX3_placeBehind_8 rfl ?_
  exact ⟨rfl, rfl⟩

set_option maxRecDepth 20000 in
set_option maxHeartbeats 2000000 in
theorem xc_valueNow (d : Nat) (M : ra_M) (n : Int) (h : 0 ≤ M 7 2 ∧ M 7 2 ≤ 120) (hn : -1 ≤ n ∧ n < 60) : Ex d m_X3_valueNow [vR 15, vI n] M (fun r M2 => r = some (vI (M 16 (M 7 2 * 61 + n + 1))) ∧ M2 = M) := by
  refine Ex_leaf (Nat.le_of_ble_eq_true rfl) (fun C K hK => ?_)
  show K 0 [some (vR 15), some (vI n)] [] M
  have hK : ra_Clo _ m_X3_valueNow cX3_valueNow _ K := hK
  refine k_aln hK (q := 1)  dX3_valueNow_0 rfl (z := 15) rfl (k_gR hK (q := 4) (r := 16) dX3_valueNow_1 rfl rf_X3_9 rfl rfl (k_aln hK (q := 5)  dX3_valueNow_4 rfl (z := 15) rfl (k_gR hK (q := 8) (r := 7) dX3_valueNow_5 rfl rf_X3_29 rfl rfl (k_gI hK (q := 11) (z := M 7 2) 0 dX3_valueNow_8 rfl rf_X3_34 rfl rfl rfl rfl (k_bp hK (q := 13)  dX3_valueNow_11 rfl (by decide) ?_)))))
  refine k_mul hK (q := 14)  dX3_valueNow_13 rfl (z := (M 7 2) * 61) rfl (by omega) (k_iln hK (q := 15)  dX3_valueNow_14 rfl (z := n) rfl (k_add hK (q := 16)  dX3_valueNow_15 rfl (z := ((M 7 2) * 61) + n) rfl (by omega) (k_ic hK (q := 17)  dX3_valueNow_16 rfl (by decide) (k_add hK (q := 18)  dX3_valueNow_17 rfl (z := (((M 7 2) * 61) + n) + 1) rfl (by omega) (k_ald hK (q := 19)  dX3_valueNow_18 rfl (y := M 16 ((((M 7 2) * 61) + n) + 1)) rfl (by omega) rfl ?_)))))
  refine k_ir hK dX3_valueNow_19 rfl ?_
  exact ⟨rfl, rfl⟩

set_option maxRecDepth 20000 in
set_option maxHeartbeats 2000000 in
theorem passOnce_loop {C : Nat → List ra_V → ra_M → (Option ra_V → ra_M → Prop) → Prop} {Q : Option ra_V → ra_M → Prop} {K : Nat → ra_L → List ra_V → ra_M → Prop} (hK : ra_Clo C m_X3_passOnce cX3_passOnce Q K) {S : Sc} (hS : okSc S) {M0 : ra_M}
    (hQ : ∀ (ch : Int) (M2 : ra_M), ch = 0 ∨ ch = 1 → M2 18 = rnd ((El S).map (sk1 S)) (M0 18) → frX [18] M0 M2 → (ch = 0 → M2 18 = M0 18) → Q (some (vI ch)) M2) :
    ∀ (n i : Nat) (M : ra_M) (ch : Int), i + n = (El S).length → scC M = S → (ch = 0 ∨ ch = 1) → NxL M (El S) → M 18 = rnd (((El S).map (sk1 S)).take i) (M0 18) → frX [18] M0 M → (ch = 0 → M 18 = M0 18) → (∀ j, 0 ≤ j → j ≤ S 0 0 → 0 ≤ M 18 j ∧ M 18 j ≤ NV) → K 4 [some (vR 15), some (vI ch), some (vI (i : Nat)), none, none] [] M := by
  have hNV : NV = 1000000000 := rfl
  intro n
  induction n with
  | zero =>
    intro i M ch hi hs hch hn hc hf h0 hr
    have en := hn.1
    have hl74 := El_len hS
    refine k_iln hK (q := 5)  dX3_passOnce_4 rfl (z := (i : Nat)) rfl (k_aln hK (q := 6)  dX3_passOnce_5 rfl (z := 15) rfl (k_gR hK (q := 9) (r := 10) dX3_passOnce_6 rfl rf_X3_25 rfl rfl (k_gI hK (q := 12) (z := M 10 5) 0 dX3_passOnce_9 rfl rf_X3_67 rfl rfl rfl rfl ?_)))
    refine k_cge hK (q := 15) (t := 92) dX3_passOnce_12 rfl rfl (fun h12 => ?_) (fun h12 => ?_)
    · refine k_iln hK (q := 93)  dX3_passOnce_92 rfl (z := ch) rfl ?_
      refine k_irz hK dX3_passOnce_93 rfl (hch) ?_
      have hi2 : (((El S).map (sk1 S))).take i = ((El S).map (sk1 S)) := List.take_of_length_le (by rw [List.length_map]; omega)
      rw [hi2] at hc
      exact hQ ch M hch hc hf h0
    · exact absurd h12 (by omega)
  | succ n ih =>
    intro i M ch hi hs hch hn hc hf h0 hr
    have en := hn.1
    have hl74 := El_len hS
    have hs0 := hS.1
    obtain ⟨a2, a3, a4, a5, a6⟩ := scC_a hs
    have hc2 := hS.2.2.2.2.2.2.2.1 2 (by omega) (by omega)
    rw [← a6] at hc2
    obtain ⟨⟨x, y, w⟩, he⟩ : ∃ e : Eg, (El S)[i]? = some e := ⟨_, List.getElem?_eq_getElem (by omega)⟩
    obtain ⟨g11, g12, g13⟩ := hn.2 i _ he
    have hm := El_mem hS (List.mem_of_getElem? he)
    simp only at g11 g12 g13 hm
    have hE : ((El S).map (sk1 S))[i]? = some (sk1 S (x, y, w)) := by rw [List.getElem?_map, he]; rfl
    have hrx := hr (x + 1) (by omega) (by omega)
    refine k_iln hK (q := 5)  dX3_passOnce_4 rfl (z := (i : Nat)) rfl (k_aln hK (q := 6)  dX3_passOnce_5 rfl (z := 15) rfl (k_gR hK (q := 9) (r := 10) dX3_passOnce_6 rfl rf_X3_25 rfl rfl (k_gI hK (q := 12) (z := M 10 5) 0 dX3_passOnce_9 rfl rf_X3_67 rfl rfl rfl rfl ?_)))
    refine k_cge hK (q := 15) (t := 92) dX3_passOnce_12 rfl rfl (fun h12 => ?_) (fun h12 => ?_)
    · exact absurd h12 (by omega)
    · refine k_aln hK (q := 16)  dX3_passOnce_15 rfl (z := 15) rfl (k_gR hK (q := 19) (r := 18) dX3_passOnce_16 rfl rf_X3_18 rfl rfl (k_aln hK (q := 20)  dX3_passOnce_19 rfl (z := 15) rfl (k_gR hK (q := 23) (r := 10) dX3_passOnce_20 rfl rf_X3_25 rfl rfl (k_gR hK (q := 26) (r := 11) dX3_passOnce_23 rfl rf_X3_70 rfl rfl (k_iln hK (q := 27)  dX3_passOnce_26 rfl (z := (i : Nat)) rfl ?_)))))
      refine k_ald hK (q := 28)  dX3_passOnce_27 rfl (y := M 11 (i : Nat)) rfl (by omega) rfl ?_
      rw [g11]
      refine k_ic hK (q := 29)  dX3_passOnce_28 rfl (by decide) (k_add hK (q := 30)  dX3_passOnce_29 rfl (z := x + 1) rfl (by omega) (k_ald hK (q := 31)  dX3_passOnce_30 rfl (y := M 18 (x + 1)) rfl (by omega) rfl (k_aln hK (q := 32)  dX3_passOnce_31 rfl (z := 15) rfl (k_gR hK (q := 35) (r := 10) dX3_passOnce_32 rfl rf_X3_25 rfl rfl (k_gR hK (q := 38) (r := 13) dX3_passOnce_35 rfl rf_X3_73 rfl rfl ?_)))))
      refine k_iln hK (q := 39)  dX3_passOnce_38 rfl (z := (i : Nat)) rfl (k_ald hK (q := 40)  dX3_passOnce_39 rfl (y := M 13 (i : Nat)) rfl (by omega) rfl ?_)
      rw [g13]
      refine k_add hK (q := 41)  dX3_passOnce_40 rfl (z := (M 18 (x + 1)) + w) rfl (by omega) (k_aln hK (q := 42)  dX3_passOnce_41 rfl (z := 15) rfl (k_gR hK (q := 45) (r := 1) dX3_passOnce_42 rfl rf_X3_21 rfl rfl (k_gR hK (q := 48) (r := 6) dX3_passOnce_45 rfl rf_X3_76 rfl rfl (k_ic hK (q := 49)  dX3_passOnce_48 rfl (by decide) (k_ald hK (q := 50)  dX3_passOnce_49 rfl (y := M 6 2) rfl (by omega) rfl ?_)))))
      refine k_add hK (q := 51)  dX3_passOnce_50 rfl (z := ((M 18 (x + 1)) + w) + (M 6 2)) rfl (by omega) (k_isn hK (q := 52)  dX3_passOnce_51 rfl (L2 := [some (vR 15), some (vI ch), some (vI (i : Nat)), some (vI (((M 18 (x + 1)) + w) + (M 6 2))), none]) (Nat.le_of_ble_eq_true rfl) rfl (k_aln hK (q := 53)  dX3_passOnce_52 rfl (z := 15) rfl (k_gR hK (q := 56) (r := 10) dX3_passOnce_53 rfl rf_X3_25 rfl rfl (k_gR hK (q := 59) (r := 12) dX3_passOnce_56 rfl rf_X3_79 rfl rfl (k_iln hK (q := 60)  dX3_passOnce_59 rfl (z := (i : Nat)) rfl ?_)))))
      refine k_ald hK (q := 61)  dX3_passOnce_60 rfl (y := M 12 (i : Nat)) rfl (by omega) rfl ?_
      rw [g12]
      refine k_ic hK (q := 62)  dX3_passOnce_61 rfl (by decide) (k_add hK (q := 63)  dX3_passOnce_62 rfl (z := y + 1) rfl (by omega) (k_is hK (q := 65)  dX3_passOnce_63 rfl (L2 := [some (vR 15), some (vI ch), some (vI (i : Nat)), some (vI (((M 18 (x + 1)) + w) + (M 6 2))), some (vI (y + 1))]) (Nat.le_of_ble_eq_true rfl) rfl (k_iln hK (q := 66)  dX3_passOnce_65 rfl (z := (((M 18 (x + 1)) + w) + (M 6 2))) rfl (k_aln hK (q := 67)  dX3_passOnce_66 rfl (z := 15) rfl (k_gR hK (q := 70) (r := 18) dX3_passOnce_67 rfl rf_X3_18 rfl rfl ?_)))))
      refine k_il hK (q := 72)  dX3_passOnce_70 rfl (z := (y + 1)) rfl (k_ald hK (q := 73)  dX3_passOnce_72 rfl (y := M 18 (y + 1)) rfl (by omega) rfl ?_)
      refine k_cge hK (q := 76) (t := 86) dX3_passOnce_73 rfl rfl (fun h73 => ?_) (fun h73 => ?_)
      · refine k_inc hK (q := 89)  dX3_passOnce_86 rfl (y := (i : Nat) + 1) (L2 := [some (vR 15), some (vI ch), some (vI ((i : Nat) + 1)), some (vI (((M 18 (x + 1)) + w) + (M 6 2))), some (vI (y + 1))]) rfl rfl (by omega) rfl (k_goto hK (t := 4) dX3_passOnce_89 rfl ?_)
        refine k_weak hK (L2 := [some (vR 15), some (vI ch), some (vI ((i : Nat) + 1)), none, none]) ⟨Or.inl rfl, Or.inl rfl, Or.inl rfl, Or.inr rfl, Or.inr rfl, trivial⟩ ?_
        have hno := lo1_no (c := M 18) (e := sk1 S (x, y, w)) (v := ((M 18 (x + 1)) + w) + (M 6 2)) (by simp only [sk1]; rw [a6]; omega) (by simp only [sk1]; omega)
        exact ih (i + 1) M ch (by omega) hs hch hn (by rw [rnd_take hE, ← hc, hno]) hf h0 hr
      · have h73 : M 18 (x + 1) + w + M 6 2 < M 18 (y + 1) := by omega
        refine k_aln hK (q := 77)  dX3_passOnce_76 rfl (z := 15) rfl (k_gR hK (q := 80) (r := 18) dX3_passOnce_77 rfl rf_X3_18 rfl rfl (k_il hK (q := 82)  dX3_passOnce_80 rfl (z := (y + 1)) rfl (k_iln hK (q := 83)  dX3_passOnce_82 rfl (z := (((M 18 (x + 1)) + w) + (M 6 2))) rfl (k_ast hK (q := 84)  dX3_passOnce_83 rfl rfl (by omega) (k_ic hK (q := 85)  dX3_passOnce_84 rfl (by decide) ?_)))))
        refine k_isn hK (q := 86)  dX3_passOnce_85 rfl (L2 := [some (vR 15), some (vI 1), some (vI (i : Nat)), some (vI (((M 18 (x + 1)) + w) + (M 6 2))), some (vI (y + 1))]) (Nat.le_of_ble_eq_true rfl) rfl (k_inc hK (q := 89)  dX3_passOnce_86 rfl (y := (i : Nat) + 1) (L2 := [some (vR 15), some (vI 1), some (vI ((i : Nat) + 1)), some (vI (((M 18 (x + 1)) + w) + (M 6 2))), some (vI (y + 1))]) rfl rfl (by omega) rfl (k_goto hK (t := 4) dX3_passOnce_89 rfl ?_))
        refine k_weak hK (L2 := [some (vR 15), some (vI 1), some (vI ((i : Nat) + 1)), none, none]) ⟨Or.inl rfl, Or.inl rfl, Or.inl rfl, Or.inr rfl, Or.inr rfl, trivial⟩ ?_
        have hup := lo1_up (M := M) (k := 18) (e := sk1 S (x, y, w)) (v := ((M 18 (x + 1)) + w) + (M 6 2)) (by simp only [sk1]; rw [a6]; omega) h73
        exact ih (i + 1) _ 1 (by omega) (by rw [scC_fr (M := M) (frX_S (l := [18]) (frX_up (frX_refl _ _) _ _ (by decide)) (by decide))]; exact hs) (Or.inr rfl) (NxL_fr hn (up_k _ _ _ (by decide)) (up_k _ _ _ (by decide)) (up_k _ _ _ (by decide)) (up_k _ _ _ (by decide))) (by rw [rnd_take hE, ← hc]; exact hup) (frX_up hf _ _ (by decide)) (fun q => by omega) (fun j a b => by have h5 := hr j a b; have h6 := hr (y + 1) (by omega) (by omega); simp only [up]; split <;> omega)

set_option maxRecDepth 20000 in
set_option maxHeartbeats 2000000 in
theorem xc_passOnce (d : Nat) (M : ra_M) (S : Sc) (hs : scC M = S) (hS : okSc S) (hn : NxL M (El S)) (hr : ∀ j, 0 ≤ j → j ≤ S 0 0 → 0 ≤ M 18 j ∧ M 18 j ≤ NV) : Ex d m_X3_passOnce [vR 15] M (fun r M2 => ∃ ch : Int, r = some (vI ch) ∧ (ch = 0 ∨ ch = 1) ∧ M2 18 = rnd ((El S).map (sk1 S)) (M 18) ∧ frX [18] M M2 ∧ (ch = 0 → M2 18 = M 18)) := by
  refine Ex_leaf (Nat.le_of_ble_eq_true rfl) (fun C K hK => ?_)
  show K 0 [some (vR 15), none, none, none, none] [] M
  have hK : ra_Clo _ m_X3_passOnce cX3_passOnce _ K := hK
  refine k_ic hK (q := 1)  dX3_passOnce_0 rfl (by decide) (k_isn hK (q := 2)  dX3_passOnce_1 rfl (L2 := [some (vR 15), some (vI 0), none, none, none]) (Nat.le_of_ble_eq_true rfl) rfl (k_ic hK (q := 3)  dX3_passOnce_2 rfl (by decide) (k_isn hK (q := 4)  dX3_passOnce_3 rfl (L2 := [some (vR 15), some (vI 0), some (vI 0), none, none]) (Nat.le_of_ble_eq_true rfl) rfl ?_)))
  exact passOnce_loop hK hS (M0 := M) (fun ch M2 h1 h2 h3 h4 => ⟨ch, rfl, h1, h2, h3, h4⟩) (El S).length 0 M 0 (by omega) hs (Or.inl rfl) hn rfl (frX_refl _ _) (fun _ => rfl) hr

set_option maxRecDepth 20000 in
set_option maxHeartbeats 2000000 in
theorem passOn_copy {C : Nat → List ra_V → ra_M → (Option ra_V → ra_M → Prop) → Prop} {Q : Option ra_V → ra_M → Prop} {K : Nat → ra_L → List ra_V → ra_M → Prop} (hK : ra_Clo C m_X3_passOn cX3_passOn Q K) {M0 : ra_M} {row nn : Int} (hrow : 0 ≤ row ∧ row ≤ 7320) (hn0 : 0 ≤ nn ∧ nn ≤ 60)
    (hX : ∀ (M : ra_M), (∀ t : Nat, (t : Int) ≤ nn → M 18 (t : Nat) = M0 16 (row + (t : Nat))) → frX [18] M0 M → ∀ z, K 33 [some (vR 15), some (vI row), some (vI z), none] [] M) :
    ∀ (n i : Nat) (M : ra_M), i + n = nn.toNat + 1 → M 1 5 = nn → (∀ t : Nat, t < i → M 18 (t : Nat) = M0 16 (row + (t : Nat))) → frX [18] M0 M → K 2 [some (vR 15), some (vI row), some (vI (i : Nat)), none] [] M := by
  intro n
  induction n with
  | zero =>
    intro i M hi hnn hc hf
    refine k_iln hK (q := 3)  dX3_passOn_2 rfl (z := (i : Nat)) rfl (k_aln hK (q := 4)  dX3_passOn_3 rfl (z := 15) rfl (k_gR hK (q := 7) (r := 1) dX3_passOn_4 rfl rf_X3_21 rfl rfl (k_gI hK (q := 10) (z := M 1 5) 0 dX3_passOn_7 rfl rf_X3_58 rfl rfl rfl rfl ?_)))
    refine k_cgt hK (q := 13) (t := 33) dX3_passOn_10 rfl rfl (fun h10 => ?_) (fun h10 => ?_)
    · exact hX M (fun t ht => hc t (by omega)) hf _
    · exact absurd h10 (by omega)
  | succ n ih =>
    intro i M hi hnn hc hf
    refine k_iln hK (q := 3)  dX3_passOn_2 rfl (z := (i : Nat)) rfl (k_aln hK (q := 4)  dX3_passOn_3 rfl (z := 15) rfl (k_gR hK (q := 7) (r := 1) dX3_passOn_4 rfl rf_X3_21 rfl rfl (k_gI hK (q := 10) (z := M 1 5) 0 dX3_passOn_7 rfl rf_X3_58 rfl rfl rfl rfl ?_)))
    refine k_cgt hK (q := 13) (t := 33) dX3_passOn_10 rfl rfl (fun h10 => ?_) (fun h10 => ?_)
    · exact absurd h10 (by omega)
    · refine k_aln hK (q := 14)  dX3_passOn_13 rfl (z := 15) rfl (k_gR hK (q := 17) (r := 18) dX3_passOn_14 rfl rf_X3_18 rfl rfl (k_iln hK (q := 18)  dX3_passOn_17 rfl (z := (i : Nat)) rfl (k_aln hK (q := 19)  dX3_passOn_18 rfl (z := 15) rfl (k_gR hK (q := 22) (r := 16) dX3_passOn_19 rfl rf_X3_9 rfl rfl (k_iln hK (q := 23)  dX3_passOn_22 rfl (z := row) rfl ?_)))))
      refine k_iln hK (q := 24)  dX3_passOn_23 rfl (z := (i : Nat)) rfl (k_add hK (q := 25)  dX3_passOn_24 rfl (z := row + (i : Nat)) rfl (by omega) (k_ald hK (q := 26)  dX3_passOn_25 rfl (y := M 16 (row + (i : Nat))) rfl (by omega) rfl (k_ast hK (q := 27)  dX3_passOn_26 rfl rfl (by omega) (k_inc hK (q := 30)  dX3_passOn_27 rfl (y := (i : Nat) + 1) (L2 := [some (vR 15), some (vI row), some (vI ((i : Nat) + 1)), none]) rfl rfl (by omega) rfl (k_goto hK (t := 2) dX3_passOn_30 rfl ?_)))))
      exact ih (i + 1) _ (by omega) (by rw [up_k _ _ _ (by decide)]; exact hnn) (fun t ht => by by_cases h : t = i; subst h; rw [up_same]; rw [hf 16 (by decide)]; rw [up_j _ _ (by omega)]; exact hc t (by omega)) (frX_up hf _ _ (by decide))

theorem rnd_nn {P : Int → Prop} : ∀ {F : List Eg} {c : Int → Int}, (∀ e ∈ F, 0 ≤ e.2.2) → (∀ e ∈ F, P (e.1 + 1)) → (∀ j, P j → 0 ≤ c j) → ∀ j, P j → 0 ≤ rnd F c j := by
  intro F
  induction F with
  | nil => intro c _ _ h j hj; exact h j hj
  | cons e F ih =>
    intro c h1 h2 h
    refine ih (fun f hf => h1 f (List.mem_cons_of_mem _ hf)) (fun f hf => h2 f (List.mem_cons_of_mem _ hf)) (fun j hj => ?_)
    have h3 := h1 e List.mem_cons_self
    have h4 := h _ (h2 e List.mem_cons_self)
    have h5 := h j hj
    unfold lo1
    split
    · simp only; split <;> omega
    · exact h5

set_option maxRecDepth 20000 in
set_option maxHeartbeats 2000000 in
theorem passOn_loop {d : Nat} {Q : Option ra_V → ra_M → Prop} {K : Nat → ra_L → List ra_V → ra_M → Prop} (hK : ra_Clo (Ex d) m_X3_passOn cX3_passOn Q K) {S : Sc} (hS : okSc S) {M0 : ra_M} {c0 : Int → Int} {row : Int}
    (hQ : ∀ (M2 : ra_M), M2 18 = rep ((El S).map (sk1 S)) 61 c0 → frX [18] M0 M2 → Q none M2) :
    ∀ (n r : Nat) (M : ra_M) (ch : Int), r + n = 61 → scC M = S → (ch = 0 ∨ ch = 1) → NxL M (El S) → M 18 = rep ((El S).map (sk1 S)) r c0 → frX [18] M0 M → (ch = 0 → rnd ((El S).map (sk1 S)) (rep ((El S).map (sk1 S)) r c0) = rep ((El S).map (sk1 S)) r c0) → (∀ j, 0 ≤ j → j ≤ S 0 0 → 0 ≤ M 18 j ∧ M 18 j ≤ NV) → K 37 [some (vR 15), some (vI row), some (vI ch), some (vI (r : Nat))] [] M := by
  intro n
  induction n with
  | zero =>
    intro r M ch hi hs hch hn hc hf h0 hr
    refine k_iln hK (q := 38)  dX3_passOn_37 rfl (z := (r : Nat)) rfl (k_bp hK (q := 40)  dX3_passOn_38 rfl (by decide) ?_)
    refine k_cge hK (q := 43) (t := 58) dX3_passOn_40 rfl rfl (fun h40 => ?_) (fun h40 => ?_)
    · refine k_vr hK dX3_passOn_58 rfl ?_
      exact hQ M (by rw [hc, show r = 61 by omega]) hf
    · exact absurd h40 (by omega)
  | succ n ih =>
    intro r M ch hi hs hch hn hc hf h0 hr
    refine k_iln hK (q := 38)  dX3_passOn_37 rfl (z := (r : Nat)) rfl (k_bp hK (q := 40)  dX3_passOn_38 rfl (by decide) ?_)
    refine k_cge hK (q := 43) (t := 58) dX3_passOn_40 rfl rfl (fun h40 => ?_) (fun h40 => ?_)
    · exact absurd h40 (by omega)
    · refine k_iln hK (q := 44)  dX3_passOn_43 rfl (z := ch) rfl ?_
      refine k_ifeq hK (q := 47) (t := 58) dX3_passOn_44 rfl rfl (fun h44 => ?_) (fun h44 => ?_)
      · refine k_vr hK dX3_passOn_58 rfl ?_
        exact hQ M (by rw [hc]; exact (bf_any (okE_sk hS (fun e he => Eu_sub S _ e he)) c0 (h0 h44))) hf
      · refine k_aln hK (q := 48)  dX3_passOn_47 rfl (z := 15) rfl ?_
        refine k_iv0 hK (q := 51) dX3_passOn_48 rfl rm_X3_63 rfl rfl (Nat.le_of_ble_eq_true rfl) (xc_passOnce _ M S hs hS hn hr) (fun r9 M5 h9 => ?_)
        obtain ⟨ch2, rfl, hch2, hc5, hf5, h05⟩ := h9
        show K 51 [some (vR 15), some (vI row), some (vI ch), some (vI (r : Nat))] [vI ch2] M5
        refine k_isn hK (q := 52)  dX3_passOn_51 rfl (L2 := [some (vR 15), some (vI row), some (vI ch2), some (vI (r : Nat))]) (Nat.le_of_ble_eq_true rfl) rfl (k_inc hK (q := 55)  dX3_passOn_52 rfl (y := (r : Nat) + 1) (L2 := [some (vR 15), some (vI row), some (vI ch2), some (vI ((r : Nat) + 1))]) rfl rfl (by omega) rfl (k_goto hK (t := 37) dX3_passOn_55 rfl ?_))
        refine ih (r + 1) M5 ch2 (by omega) (by rw [scC_fr (frX_S hf5 (by decide))]; exact hs) hch2 (NxL_fr hn (hf5 10 (by decide)) (hf5 11 (by decide)) (hf5 12 (by decide)) (hf5 13 (by decide))) (by rw [rep_succ, ← hc]; exact hc5) (frX_trans hf hf5) (fun q => by rw [rep_succ, ← hc, ← hc5, h05 q, ← hc5, h05 q]) (fun j a b => ?_)
        have h6 := hr j a b
        rw [hc5]
        exact ⟨rnd_nn (fun e he => (sk_ok hS (fun f hf => Eu_sub S _ f hf) e he).2.2.1) (fun e he => (sk_pn hS e he).1) (fun j hj => (hr j hj.1 hj.2).1) j ⟨a, b⟩, by have := rnd_le ((El S).map (sk1 S)) (M 18) j; omega⟩

set_option maxRecDepth 20000 in
set_option maxHeartbeats 2000000 in
theorem xc_passOn (d : Nat) (M : ra_M) (row : Int) (S : Sc) (hs : scC M = S) (hS : okSc S) (hn : NxL M (El S)) (hrow : 0 ≤ row ∧ row ≤ 7320) (hr : ∀ j, 0 ≤ j → j ≤ S 0 0 → 0 ≤ M 16 (row + j) ∧ M 16 (row + j) ≤ NV) : Ex (d + 1) m_X3_passOn [vR 15, vI row] M (fun r M2 => r = none ∧ ∃ c0 : Int → Int, (∀ j, 0 ≤ j → j ≤ S 0 0 → c0 j = M 16 (row + j)) ∧ M2 18 = rep ((El S).map (sk1 S)) 61 c0 ∧ frX [18] M M2) := by
  refine Ex_call (Nat.le_of_ble_eq_true rfl) (fun K hK => ?_)
  show K 0 [some (vR 15), some (vI row), none, none] [] M
  have hK : ra_Clo _ m_X3_passOn cX3_passOn _ K := hK
  obtain ⟨e5, e6, e7, e8, e9⟩ := scC_e hs
  have hs0 := hS.1
  have J33 : ∀ (M1 : ra_M), (∀ t : Nat, (t : Int) ≤ S 0 0 → M1 18 (t : Nat) = M 16 (row + (t : Nat))) → frX [18] M M1 → ∀ z, K 33 [some (vR 15), some (vI row), some (vI z), none] [] M1 := by
    intro M1 hc hf z
    refine k_ic hK (q := 34)  dX3_passOn_33 rfl (by decide) (k_isn hK (q := 35)  dX3_passOn_34 rfl (L2 := [some (vR 15), some (vI row), some (vI 1), none]) (Nat.le_of_ble_eq_true rfl) rfl (k_ic hK (q := 36)  dX3_passOn_35 rfl (by decide) (k_isn hK (q := 37)  dX3_passOn_36 rfl (L2 := [some (vR 15), some (vI row), some (vI 1), some (vI 0)]) (Nat.le_of_ble_eq_true rfl) rfl ?_)))
    exact passOn_loop hK hS (M0 := M) (c0 := M1 18) (fun M2 h1 h2 => ⟨rfl, M1 18, fun j a b => by have := hc j.toNat (by omega); rw [show ((j.toNat : Nat) : Int) = j by omega] at this; exact this, h1, h2⟩) 61 0 M1 1 (by omega) (by rw [scC_fr (frX_S hf (by decide))]; exact hs) (Or.inr rfl) (NxL_fr hn (hf 10 (by decide)) (hf 11 (by decide)) (hf 12 (by decide)) (hf 13 (by decide))) rfl hf (fun q => by omega) (fun j a b => by have := hc j.toNat (by omega); rw [show ((j.toNat : Nat) : Int) = j by omega] at this; rw [this]; exact hr j a b)
  refine k_ic hK (q := 1)  dX3_passOn_0 rfl (by decide) (k_isn hK (q := 2)  dX3_passOn_1 rfl (L2 := [some (vR 15), some (vI row), some (vI 0), none]) (Nat.le_of_ble_eq_true rfl) rfl ?_)
  exact passOn_copy hK hrow hS.1 J33 ((S 0 0).toNat + 1) 0 M (by omega) e5 (fun t ht => by omega) (frX_refl _ _)
end
section
/-! taking an EVENT, in the class -/
def rv (M : ra_M) (row : Int) : Int → Int := fun j => M 16 (row + j)
theorem rv_lw (M : ra_M) (row n s : Int) : rv (up M 16 (row + n + 1) (min (M 16 (row + n + 1)) s)) row = lw (rv M row) (n + 1) s := by
  funext j
  unfold rv lw
  by_cases h : j = n + 1
  · subst h
    rw [if_pos rfl]
    show up M 16 _ _ 16 (row + (n + 1)) = min (M 16 (row + (n + 1))) s
    rw [show row + (n + 1) = row + n + 1 by omega, up_same]
  · rw [if_neg h, up_j _ _ (by omega)]
theorem tk1_none {S : Sc} {t : Int → Int} {v pit : Int} : ∀ n : Nat, (∀ i : Nat, i < n → ¬ thr S (i : Nat)) → tk1 S t v pit n = t := by
  intro n
  induction n with
  | zero => intro _; rfl
  | succ n ih => intro h; simp only [tk1]; rw [if_neg (h n (by omega)), ih (fun i hi => h i (by omega))]
theorem tk1_more {S : Sc} {t : Int → Int} {v pit : Int} {n m : Nat} (h : n ≤ m) (hn : ∀ i : Nat, n ≤ i → i < m → ¬ thr S (i : Nat)) : tk1 S t v pit m = tk1 S t v pit n := by
  induction h with
  | refl => rfl
  | step hm ih =>
    rename_i m
    simp only [tk1]
    rw [if_neg (hn m hm (by omega)), ih (fun i h1 h2 => hn i h1 (by omega))]
/-- outside of a row of 61 nothing changes -/
def offR (row : Int) (M M2 : ra_M) : Prop := ∀ z, (z < row ∨ row + 61 ≤ z) → M2 16 z = M 16 z
theorem offR_up {row : Int} {M M2 : ra_M} (h : offR row M M2) {i v : Int} (hi : row ≤ i ∧ i < row + 61) : offR row M (up M2 16 i v) := fun z hz => by
  rw [up_j _ _ (by omega)]
  exact h z hz

set_option maxRecDepth 20000 in
set_option maxHeartbeats 2000000 in
theorem xc_lower (d : Nat) (M : ra_M) (row p v : Int) (h : 0 ≤ row ∧ row ≤ 7320) (hp : -1 ≤ p ∧ p < 60) : Ex (d + 1) m_X3_lower [vR 15, vI row, vI p, vI v] M (fun r M2 => r = none ∧ M2 = up M 16 (row + p + 1) (min (M 16 (row + p + 1)) v)) := by
  refine Ex_call (Nat.le_of_ble_eq_true rfl) (fun K hK => ?_)
  show K 0 [some (vR 15), some (vI row), some (vI p), some (vI v), none] [] M
  have hK : ra_Clo _ m_X3_lower cX3_lower _ K := hK
  refine k_iln hK (q := 1)  dX3_lower_0 rfl (z := row) rfl (k_iln hK (q := 2)  dX3_lower_1 rfl (z := p) rfl (k_add hK (q := 3)  dX3_lower_2 rfl (z := row + p) rfl (by omega) (k_ic hK (q := 4)  dX3_lower_3 rfl (by decide) (k_add hK (q := 5)  dX3_lower_4 rfl (z := (row + p) + 1) rfl (by omega) (k_is hK (q := 7)  dX3_lower_5 rfl (L2 := [some (vR 15), some (vI row), some (vI p), some (vI v), some (vI ((row + p) + 1))]) (Nat.le_of_ble_eq_true rfl) rfl ?_)))))
  refine k_aln hK (q := 8)  dX3_lower_7 rfl (z := 15) rfl (k_gR hK (q := 11) (r := 16) dX3_lower_8 rfl rf_X3_9 rfl rfl (k_il hK (q := 13)  dX3_lower_11 rfl (z := ((row + p) + 1)) rfl (k_aln hK (q := 14)  dX3_lower_13 rfl (z := 15) rfl (k_gR hK (q := 17) (r := 16) dX3_lower_14 rfl rf_X3_9 rfl rfl (k_il hK (q := 19)  dX3_lower_17 rfl (z := ((row + p) + 1)) rfl ?_)))))
  refine k_ald hK (q := 20)  dX3_lower_19 rfl (y := M 16 ((row + p) + 1)) rfl (by omega) rfl (k_iln hK (q := 21)  dX3_lower_20 rfl (z := v) rfl ?_)
  refine k_st2I hK (q := 24) dX3_lower_21 rfl rm_X3_82 (Nat.le_of_ble_eq_true rfl) (t_min _ M (M 16 ((row + p) + 1)) v) ?_
  refine k_ast hK (q := 25)  dX3_lower_24 rfl rfl (by omega) ?_
  refine k_vr hK dX3_lower_25 rfl ?_
  exact ⟨rfl, rfl⟩

set_option maxRecDepth 20000 in
set_option maxHeartbeats 2000000 in
theorem take_a {d : Nat} {Q : Option ra_V → ra_M → Prop} {K : Nat → ra_L → List ra_V → ra_M → Prop} (hK : ra_Clo (Ex d) m_X3_take cX3_take Q K) {S : Sc} (hS : okSc S) {M0 : ra_M} {row pit : Int} (hrow : 0 ≤ row ∧ row ≤ 7320) (hr : ∀ j, pn S j → 0 ≤ M0 18 j ∧ M0 18 j ≤ NV)
    (hX : ∀ (M : ra_M), scC M = S → (∀ t : Nat, t ≤ (S 0 0).toNat → M 16 (row + (t : Nat)) = tk0 S (M0 18) (t : Nat)) → offR row M0 M → frX [16] M0 M → ∀ z, K 67 [some (vR 15), some (vI row), some (vI pit), some (vI (least (M0 18) ((S 0 0).toNat + 1))), some (vI z), none, none] [] M) :
    ∀ (n i : Nat) (M : ra_M) (le : Int), i + n = (S 0 0).toNat + 1 → scC M = S → le = least (M0 18) i → (∀ t : Nat, t < i → M 16 (row + (t : Nat)) = tk0 S (M0 18) (t : Nat)) → offR row M0 M → frX [16] M0 M → K 6 [some (vR 15), some (vI row), some (vI pit), some (vI le), some (vI (i : Nat)), none, none] [] M := by
  have hNV : NV = 1000000000 := rfl
  intro n
  induction n with
  | zero =>
    intro i M le hi hs hle hc ho hf
    obtain ⟨e5, e6, e7, e8, e9⟩ := scC_e hs
    have hs0 := hS.1
    refine k_il hK (q := 8)  dX3_take_6 rfl (z := (i : Nat)) rfl (k_aln hK (q := 9)  dX3_take_8 rfl (z := 15) rfl (k_gR hK (q := 12) (r := 1) dX3_take_9 rfl rf_X3_21 rfl rfl (k_gI hK (q := 15) (z := M 1 5) 0 dX3_take_12 rfl rf_X3_58 rfl rfl rfl rfl ?_)))
    refine k_cgt hK (q := 18) (t := 67) dX3_take_15 rfl rfl (fun h15 => ?_) (fun h15 => ?_)
    · have hi2 : i = (S 0 0).toNat + 1 := by omega
      subst hi2
      subst hle
      exact hX M hs (fun t ht => hc t (by omega)) ho hf _
    · exact absurd h15 (by omega)
  | succ n ih =>
    intro i M le hi hs hle hc ho hf
    obtain ⟨e5, e6, e7, e8, e9⟩ := scC_e hs
    obtain ⟨a2, a3, a4, a5, a6⟩ := scC_a hs
    have hs0 := hS.1
    have hc1 := hS.2.2.2.2.2.2.2.1 1 (by omega) (by omega)
    rw [← a6] at hc1
    have h18 : M 18 = M0 18 := hf 18 (by decide)
    have hri := hr (i : Nat) ⟨by omega, by omega⟩
    rw [← h18] at hri
    refine k_il hK (q := 8)  dX3_take_6 rfl (z := (i : Nat)) rfl (k_aln hK (q := 9)  dX3_take_8 rfl (z := 15) rfl (k_gR hK (q := 12) (r := 1) dX3_take_9 rfl rf_X3_21 rfl rfl (k_gI hK (q := 15) (z := M 1 5) 0 dX3_take_12 rfl rf_X3_58 rfl rfl rfl rfl ?_)))
    refine k_cgt hK (q := 18) (t := 67) dX3_take_15 rfl rfl (fun h15 => ?_) (fun h15 => ?_)
    · exact absurd h15 (by omega)
    · refine k_iln hK (q := 19)  dX3_take_18 rfl (z := le) rfl (k_aln hK (q := 20)  dX3_take_19 rfl (z := 15) rfl (k_gR hK (q := 23) (r := 18) dX3_take_20 rfl rf_X3_18 rfl rfl (k_il hK (q := 25)  dX3_take_23 rfl (z := (i : Nat)) rfl (k_ald hK (q := 26)  dX3_take_25 rfl (y := M 18 (i : Nat)) rfl (by omega) rfl ?_))))
      refine k_st2I hK (q := 29) dX3_take_26 rfl rm_X3_82 (Nat.le_of_ble_eq_true rfl) (t_min _ M le (M 18 (i : Nat))) ?_
      refine k_isn hK (q := 30)  dX3_take_29 rfl (L2 := [some (vR 15), some (vI row), some (vI pit), some (vI (min le (M 18 (i : Nat)))), some (vI (i : Nat)), none, none]) (Nat.le_of_ble_eq_true rfl) rfl (k_aln hK (q := 31)  dX3_take_30 rfl (z := 15) rfl (k_gR hK (q := 34) (r := 16) dX3_take_31 rfl rf_X3_9 rfl rfl (k_iln hK (q := 35)  dX3_take_34 rfl (z := row) rfl (k_il hK (q := 37)  dX3_take_35 rfl (z := (i : Nat)) rfl (k_add hK (q := 38)  dX3_take_37 rfl (z := row + (i : Nat)) rfl (by omega) ?_)))))
      refine k_ldc hK (q := 40)  dX3_take_38 rfl rc_X3_33 (k_aln hK (q := 41)  dX3_take_40 rfl (z := 15) rfl (k_gR hK (q := 44) (r := 18) dX3_take_41 rfl rf_X3_18 rfl rfl (k_il hK (q := 46)  dX3_take_44 rfl (z := (i : Nat)) rfl (k_ald hK (q := 47)  dX3_take_46 rfl (y := M 18 (i : Nat)) rfl (by omega) rfl (k_aln hK (q := 48)  dX3_take_47 rfl (z := 15) rfl ?_)))))
      refine k_gR hK (q := 51) (r := 1) dX3_take_48 rfl rf_X3_21 rfl rfl (k_gR hK (q := 54) (r := 6) dX3_take_51 rfl rf_X3_76 rfl rfl (k_ic hK (q := 55)  dX3_take_54 rfl (by decide) (k_ald hK (q := 56)  dX3_take_55 rfl (y := M 6 1) rfl (by omega) rfl (k_add hK (q := 57)  dX3_take_56 rfl (z := (M 18 (i : Nat)) + (M 6 1)) rfl (by omega) ?_))))
      refine k_st2I hK (q := 60) dX3_take_57 rfl rm_X3_82 (Nat.le_of_ble_eq_true rfl) (t_min _ M 1000000000 ((M 18 (i : Nat)) + (M 6 1))) ?_
      refine k_ast hK (q := 61)  dX3_take_60 rfl rfl (by omega) (k_inc hK (q := 64)  dX3_take_61 rfl (y := (i : Nat) + 1) (L2 := [some (vR 15), some (vI row), some (vI pit), some (vI (min le (M 18 (i : Nat)))), some (vI ((i : Nat) + 1)), none, none]) rfl rfl (by omega) rfl (k_goto hK (t := 6) dX3_take_64 rfl ?_))
      refine ih (i + 1) _ _ (by omega) (by rw [scC_fr (M := M) (frX_S (l := [16]) (frX_up (frX_refl _ _) _ _ (by decide)) (by decide))]; exact hs) (by rw [hle, h18]; rfl) (fun t ht => ?_) (offR_up ho (by omega)) (frX_up hf _ _ (by decide))
      by_cases h : t = i
      · subst h
        rw [up_same]
        unfold tk0
        rw [← a6, h18]
      · rw [up_j _ _ (by omega)]
        exact hc t (by omega)

set_option maxRecDepth 20000 in
set_option maxHeartbeats 2000000 in
theorem take_b {d : Nat} {Q : Option ra_V → ra_M → Prop} {K : Nat → ra_L → List ra_V → ra_M → Prop} (hK : ra_Clo (Ex (d + 1)) m_X3_take cX3_take Q K) {S : Sc} (hS : okSc S) {M0 : ra_M} {row pit le fi la : Int} {t0 : Int → Int} (hrow : 0 ≤ row ∧ row ≤ 7320) (hle : 0 ≤ le ∧ le ≤ NV) (hth : ∀ n : Int, thr S n ↔ fi ≤ n ∧ n ≤ la) (hfl : 0 ≤ fi ∧ fi ≤ la + 1 ∧ la < S 0 0) (hlaS : la = (if S 0 2 ≠ -1 then S 0 3 else S 0 0 - 1))
    (hX : ∀ (M : ra_M), scC M = S → rv M row = tk1 S t0 (le + S 5 4) pit (S 0 0).toNat → offR row M0 M → frX [16] M0 M → ∀ z, K 123 [some (vR 15), some (vI row), some (vI pit), some (vI le), some (vI z), none, none] [] M) :
    ∀ (m n : Nat) (M : ra_M), (n : Int) + m = la + 1 → scC M = S → fi ≤ (n : Int) → rv M row = tk1 S t0 (le + S 5 4) pit n → offR row M0 M → frX [16] M0 M → K 76 [some (vR 15), some (vI row), some (vI pit), some (vI le), some (vI (n : Nat)), none, none] [] M := by
  have hNV : NV = 1000000000 := rfl
  intro m
  induction m with
  | zero =>
    intro n M hi hs hfi ht ho hf
    obtain ⟨e5, e6, e7, e8, e9⟩ := scC_e hs
    have hs0 := hS.1
    have hla : (if M 1 7 ≠ -1 then M 1 8 else M 1 5 - 1) = la := by rw [e5, e7, e8, hlaS]
    refine k_il hK (q := 78)  dX3_take_76 rfl (z := (n : Nat)) rfl (k_aln hK (q := 79)  dX3_take_78 rfl (z := 15) rfl (k_gR hK (q := 82) (r := 1) dX3_take_79 rfl rf_X3_21 rfl rfl ?_))
    refine k_iv0I hK (q := 85) dX3_take_82 rfl rm_X3_91 rfl rfl (Nat.le_of_ble_eq_true rfl) (t_lastThere _ M (by omega)) ?_
    rw [hla]
    refine k_cgt hK (q := 88) (t := 123) dX3_take_85 rfl rfl (fun h85 => ?_) (fun h85 => ?_)
    · exact hX M hs (by rw [ht, tk1_more (n := n) (m := (S 0 0).toNat) (by omega) (fun i h1 h2 q => by have := (hth (i : Nat)).mp q; omega)]) ho hf _
    · exact absurd h85 (by omega)
  | succ m ih =>
    intro n M hi hs hfi ht ho hf
    obtain ⟨e5, e6, e7, e8, e9⟩ := scC_e hs
    obtain ⟨a2, a3, a4, a5, a6⟩ := scC_a hs
    have hs0 := hS.1
    have hla : (if M 1 7 ≠ -1 then M 1 8 else M 1 5 - 1) = la := by rw [e5, e7, e8, hlaS]
    have hc4 := hS.2.2.2.2.2.2.2.1 4 (by omega) (by omega)
    have hc0 := hS.2.2.2.2.2.2.2.1 0 (by omega) (by omega)
    rw [← a6] at hc4 hc0
    refine k_il hK (q := 78)  dX3_take_76 rfl (z := (n : Nat)) rfl (k_aln hK (q := 79)  dX3_take_78 rfl (z := 15) rfl (k_gR hK (q := 82) (r := 1) dX3_take_79 rfl rf_X3_21 rfl rfl ?_))
    refine k_iv0I hK (q := 85) dX3_take_82 rfl rm_X3_91 rfl rfl (Nat.le_of_ble_eq_true rfl) (t_lastThere _ M (by omega)) ?_
    rw [hla]
    refine k_cgt hK (q := 88) (t := 123) dX3_take_85 rfl rfl (fun h85 => ?_) (fun h85 => ?_)
    · exact absurd h85 (by omega)
    · refine k_aln hK (q := 89)  dX3_take_88 rfl (z := 15) rfl (k_iln hK (q := 90)  dX3_take_89 rfl (z := row) rfl (k_il hK (q := 92)  dX3_take_90 rfl (z := (n : Nat)) rfl (k_iln hK (q := 93)  dX3_take_92 rfl (z := le) rfl (k_aln hK (q := 94)  dX3_take_93 rfl (z := 15) rfl (k_gR hK (q := 97) (r := 1) dX3_take_94 rfl rf_X3_21 rfl rfl ?_)))))
      refine k_gR hK (q := 100) (r := 6) dX3_take_97 rfl rf_X3_76 rfl rfl (k_ic hK (q := 101)  dX3_take_100 rfl (by decide) (k_ald hK (q := 102)  dX3_take_101 rfl (y := M 6 4) rfl (by omega) rfl (k_add hK (q := 103)  dX3_take_102 rfl (z := le + (M 6 4)) rfl (by omega) (k_aln hK (q := 104)  dX3_take_103 rfl (z := 15) rfl (k_gR hK (q := 107) (r := 1) dX3_take_104 rfl rf_X3_21 rfl rfl ?_)))))
      refine k_il hK (q := 109)  dX3_take_107 rfl (z := (n : Nat)) rfl (k_iln hK (q := 110)  dX3_take_109 rfl (z := pit) rfl ?_)
      refine k_iv2I hK (q := 113) dX3_take_110 rfl rm_X3_94 rfl rfl (Nat.le_of_ble_eq_true rfl) (t_mistake _ M (n : Nat) pit (by omega)) ?_
      have hw : 0 ≤ (if M 2 (n : Nat) = pit then 0 else M 6 0) ∧ (if M 2 (n : Nat) = pit then 0 else M 6 0) ≤ 1000 := by split <;> omega
      refine k_add hK (q := 114)  dX3_take_113 rfl (z := (le + (M 6 4)) + (if M 2 (n : Nat) = pit then 0 else M 6 0)) rfl (by omega) ?_
      refine k_iv3V hK (q := 117) dX3_take_114 rfl rm_X3_97 rfl rfl (Nat.le_of_ble_eq_true rfl) (xc_lower _ M row (n : Nat) ((le + (M 6 4)) + (if M 2 (n : Nat) = pit then 0 else M 6 0)) hrow (by omega)) ?_
      refine k_inc hK (q := 120)  dX3_take_117 rfl (y := (n : Nat) + 1) (L2 := [some (vR 15), some (vI row), some (vI pit), some (vI le), some (vI ((n : Nat) + 1)), none, none]) rfl rfl (by omega) rfl (k_goto hK (t := 76) dX3_take_120 rfl ?_)
      refine ih (n + 1) _ (by omega) (by rw [scC_fr (M := M) (frX_S (l := [16]) (frX_up (frX_refl _ _) _ _ (by decide)) (by decide))]; exact hs) (by omega) ?_ (offR_up ho (by omega)) (frX_up hf _ _ (by decide))
      rw [rv_lw, ht]
      simp only [tk1]
      rw [if_pos ((hth (n : Nat)).mpr (by omega))]
      unfold wr
      rw [← a6, ← a2]

set_option maxRecDepth 20000 in
set_option maxHeartbeats 2000000 in
theorem take_c {d : Nat} {Q : Option ra_V → ra_M → Prop} {K : Nat → ra_L → List ra_V → ra_M → Prop} (hK : ra_Clo (Ex (d + 1)) m_X3_take cX3_take Q K) {S : Sc} (hS : okSc S) {M0 : ra_M} {row pit le : Int} {t1 : Int → Int} (hrow : 0 ≤ row ∧ row ≤ 7320) (hr : ∀ j, pn S j → 0 ≤ M0 18 j ∧ M0 18 j ≤ NV)
    (hQ : ∀ (M : ra_M), rv M row = tk2 S (M0 18) pit (El S) t1 → offR row M0 M → frX [16] M0 M → Q none M) :
    ∀ (n i : Nat) (M : ra_M), i + n = (El S).length → scC M = S → NxL M (El S) → rv M row = tk2 S (M0 18) pit ((El S).take i) t1 → offR row M0 M → frX [16] M0 M → K 126 [some (vR 15), some (vI row), some (vI pit), some (vI le), some (vI (i : Nat)), none, none] [] M := by
  have hNV : NV = 1000000000 := rfl
  intro n
  induction n with
  | zero =>
    intro i M hi hs hn ht ho hf
    have en := hn.1
    have hl74 := El_len hS
    refine k_il hK (q := 128)  dX3_take_126 rfl (z := (i : Nat)) rfl (k_aln hK (q := 129)  dX3_take_128 rfl (z := 15) rfl (k_gR hK (q := 132) (r := 10) dX3_take_129 rfl rf_X3_25 rfl rfl (k_gI hK (q := 135) (z := M 10 5) 0 dX3_take_132 rfl rf_X3_67 rfl rfl rfl rfl ?_)))
    refine k_cge hK (q := 138) (t := 206) dX3_take_135 rfl rfl (fun h135 => ?_) (fun h135 => ?_)
    · refine k_vr hK dX3_take_206 rfl ?_
      have hi2 : (El S).take i = El S := List.take_of_length_le (by omega)
      rw [hi2] at ht
      exact hQ M ht ho hf
    · exact absurd h135 (by omega)
  | succ n ih =>
    intro i M hi hs hn ht ho hf
    have en := hn.1
    have hl74 := El_len hS
    have hs0 := hS.1
    obtain ⟨a2, a3, a4, a5, a6⟩ := scC_a hs
    have hc0 := hS.2.2.2.2.2.2.2.1 0 (by omega) (by omega)
    rw [← a6] at hc0
    have h18 : M 18 = M0 18 := hf 18 (by decide)
    obtain ⟨⟨x, y, w⟩, he⟩ : ∃ e : Eg, (El S)[i]? = some e := ⟨_, List.getElem?_eq_getElem (by omega)⟩
    obtain ⟨g11, g12, g13⟩ := hn.2 i _ he
    have hm := El_mem hS (List.mem_of_getElem? he)
    simp only at g11 g12 g13 hm
    have hrx := hr (x + 1) ⟨by omega, by omega⟩
    rw [← h18] at hrx
    refine k_il hK (q := 128)  dX3_take_126 rfl (z := (i : Nat)) rfl (k_aln hK (q := 129)  dX3_take_128 rfl (z := 15) rfl (k_gR hK (q := 132) (r := 10) dX3_take_129 rfl rf_X3_25 rfl rfl (k_gI hK (q := 135) (z := M 10 5) 0 dX3_take_132 rfl rf_X3_67 rfl rfl rfl rfl ?_)))
    refine k_cge hK (q := 138) (t := 206) dX3_take_135 rfl rfl (fun h135 => ?_) (fun h135 => ?_)
    · exact absurd h135 (by omega)
    · refine k_aln hK (q := 139)  dX3_take_138 rfl (z := 15) rfl (k_gR hK (q := 142) (r := 10) dX3_take_139 rfl rf_X3_25 rfl rfl (k_gR hK (q := 145) (r := 12) dX3_take_142 rfl rf_X3_79 rfl rfl (k_il hK (q := 147)  dX3_take_145 rfl (z := (i : Nat)) rfl (k_ald hK (q := 148)  dX3_take_147 rfl (y := M 12 (i : Nat)) rfl (by omega) rfl ?_))))
      rw [g12]
      refine k_is hK (q := 150)  dX3_take_148 rfl (L2 := [some (vR 15), some (vI row), some (vI pit), some (vI le), some (vI (i : Nat)), some (vI y), none]) (Nat.le_of_ble_eq_true rfl) rfl (k_aln hK (q := 151)  dX3_take_150 rfl (z := 15) rfl (k_gR hK (q := 154) (r := 18) dX3_take_151 rfl rf_X3_18 rfl rfl (k_aln hK (q := 155)  dX3_take_154 rfl (z := 15) rfl (k_gR hK (q := 158) (r := 10) dX3_take_155 rfl rf_X3_25 rfl rfl (k_gR hK (q := 161) (r := 11) dX3_take_158 rfl rf_X3_70 rfl rfl ?_)))))
      refine k_il hK (q := 163)  dX3_take_161 rfl (z := (i : Nat)) rfl (k_ald hK (q := 164)  dX3_take_163 rfl (y := M 11 (i : Nat)) rfl (by omega) rfl ?_)
      rw [g11]
      refine k_ic hK (q := 165)  dX3_take_164 rfl (by decide) (k_add hK (q := 166)  dX3_take_165 rfl (z := x + 1) rfl (by omega) (k_ald hK (q := 167)  dX3_take_166 rfl (y := M 18 (x + 1)) rfl (by omega) rfl (k_aln hK (q := 168)  dX3_take_167 rfl (z := 15) rfl (k_gR hK (q := 171) (r := 10) dX3_take_168 rfl rf_X3_25 rfl rfl (k_gR hK (q := 174) (r := 13) dX3_take_171 rfl rf_X3_73 rfl rfl ?_)))))
      refine k_il hK (q := 176)  dX3_take_174 rfl (z := (i : Nat)) rfl (k_ald hK (q := 177)  dX3_take_176 rfl (y := M 13 (i : Nat)) rfl (by omega) rfl ?_)
      rw [g13]
      refine k_add hK (q := 178)  dX3_take_177 rfl (z := (M 18 (x + 1)) + w) rfl (by omega) (k_is hK (q := 180)  dX3_take_178 rfl (L2 := [some (vR 15), some (vI row), some (vI pit), some (vI le), some (vI (i : Nat)), some (vI y), some (vI ((M 18 (x + 1)) + w))]) (Nat.le_of_ble_eq_true rfl) rfl (k_aln hK (q := 181)  dX3_take_180 rfl (z := 15) rfl (k_iln hK (q := 182)  dX3_take_181 rfl (z := row) rfl (k_il hK (q := 184)  dX3_take_182 rfl (z := y) rfl (k_il hK (q := 186)  dX3_take_184 rfl (z := ((M 18 (x + 1)) + w)) rfl ?_)))))
      refine k_aln hK (q := 187)  dX3_take_186 rfl (z := 15) rfl (k_gR hK (q := 190) (r := 1) dX3_take_187 rfl rf_X3_21 rfl rfl (k_il hK (q := 192)  dX3_take_190 rfl (z := y) rfl (k_iln hK (q := 193)  dX3_take_192 rfl (z := pit) rfl ?_)))
      refine k_iv2I hK (q := 196) dX3_take_193 rfl rm_X3_94 rfl rfl (Nat.le_of_ble_eq_true rfl) (t_mistake _ M y pit (by omega)) ?_
      have hw : 0 ≤ (if M 2 y = pit then 0 else M 6 0) ∧ (if M 2 y = pit then 0 else M 6 0) ≤ 1000 := by split <;> omega
      refine k_add hK (q := 197)  dX3_take_196 rfl (z := ((M 18 (x + 1)) + w) + (if M 2 y = pit then 0 else M 6 0)) rfl (by omega) ?_
      refine k_iv3V hK (q := 200) dX3_take_197 rfl rm_X3_97 rfl rfl (Nat.le_of_ble_eq_true rfl) (xc_lower _ M row y (((M 18 (x + 1)) + w) + (if M 2 y = pit then 0 else M 6 0)) hrow (by omega)) ?_
      refine k_inc hK (q := 203)  dX3_take_200 rfl (y := (i : Nat) + 1) (L2 := [some (vR 15), some (vI row), some (vI pit), some (vI le), some (vI ((i : Nat) + 1)), some (vI y), some (vI ((M 18 (x + 1)) + w))]) rfl rfl (by omega) rfl (k_goto hK (t := 126) dX3_take_203 rfl ?_)
      refine k_weak hK (L2 := [some (vR 15), some (vI row), some (vI pit), some (vI le), some (vI ((i : Nat) + 1)), none, none]) ⟨Or.inl rfl, Or.inl rfl, Or.inl rfl, Or.inl rfl, Or.inl rfl, Or.inr rfl, Or.inr rfl, trivial⟩ ?_
      have hfu : frX [16] M (up M 16 (row + y + 1) (min (M 16 (row + y + 1)) (((M 18 (x + 1)) + w) + (if M 2 y = pit then 0 else M 6 0)))) := frX_up (frX_refl _ _) _ _ (by decide)
      refine ih (i + 1) _ (by omega) (by rw [scC_fr (M := M) (frX_S hfu (by decide))]; exact hs) (NxL_fr hn (hfu 10 (by decide)) (hfu 11 (by decide)) (hfu 12 (by decide)) (hfu 13 (by decide))) ?_ (offR_up ho (by omega)) (frX_up hf _ _ (by decide))
      rw [rv_lw, ht, tk2_take he]
      simp only
      unfold wr
      rw [← a6, ← a2, h18]

set_option maxRecDepth 20000 in
set_option maxHeartbeats 2000000 in
theorem xc_take (d : Nat) (M : ra_M) (row pit : Int) (S : Sc) (hs : scC M = S) (hS : okSc S) (hn : NxL M (El S)) (hrow : 0 ≤ row ∧ row ≤ 7320) (hr : ∀ j, pn S j → 0 ≤ M 18 j ∧ M 18 j ≤ NV) : Ex (d + 2) m_X3_take [vR 15, vI row, vI pit] M (fun r M2 => r = none ∧ (∀ j, pn S j → M2 16 (row + j) = fwdT S (M 18) pit j) ∧ offR row M M2 ∧ frX [16] M M2) := by
  refine Ex_call (Nat.le_of_ble_eq_true rfl) (fun K hK => ?_)
  show K 0 [some (vR 15), some (vI row), some (vI pit), none, none, none, none] [] M
  have hK : ra_Clo _ m_X3_take cX3_take _ K := hK
  have hNV : NV = 1000000000 := rfl
  have hs0 := hS.1
  have hs2 := hS.2.2.1
  obtain ⟨LE, hLEe⟩ : ∃ z, z = least (M 18) ((S 0 0).toNat + 1) := ⟨_, rfl⟩
  have hLE : 0 ≤ LE ∧ LE ≤ NV := by
    rw [hLEe]
    refine ⟨?_, (least_le _ _).1⟩
    have key : ∀ n : Nat, n ≤ (S 0 0).toNat + 1 → 0 ≤ least (M 18) n := by
      intro n
      induction n with
      | zero => intro _; simp [least]
      | succ n ih => intro h; have := ih (by omega); have := hr (n : Nat) ⟨by omega, by omega⟩; simp only [least]; omega
    exact key _ (Nat.le_refl _)
  obtain ⟨fi, hfie⟩ : ∃ z, z = (if S 0 2 ≠ -1 then S 0 2 else 0) := ⟨_, rfl⟩
  obtain ⟨la, hla⟩ : ∃ z, z = (if S 0 2 ≠ -1 then S 0 3 else S 0 0 - 1) := ⟨_, rfl⟩
  have hth : ∀ n : Int, thr S n ↔ fi ≤ n ∧ n ≤ la := by
    intro n
    have := thr_C hs hS n
    obtain ⟨e5, e6, e7, e8, e9⟩ := scC_e hs
    rw [e5, e7, e8, ← hfie, ← hla] at this
    exact this.symm
  have hfl : 0 ≤ fi ∧ fi ≤ la + 1 ∧ la < S 0 0 := by
    split at hfie <;> split at hla <;> omega
  have J123 : ∀ (MA : ra_M), (∀ t : Nat, t ≤ (S 0 0).toNat → MA 16 (row + (t : Nat)) = tk0 S (M 18) (t : Nat)) → ∀ (M1 : ra_M), scC M1 = S → rv M1 row = tk1 S (rv MA row) (LE + S 5 4) pit (S 0 0).toNat → offR row M M1 → frX [16] M M1 → ∀ z, K 123 [some (vR 15), some (vI row), some (vI pit), some (vI LE), some (vI z), none, none] [] M1 := by
    intro MA hcA M1 hs1 ht1 ho1 hf1 z
    have hLEe2 := hLEe
    refine k_ic hK (q := 124)  dX3_take_123 rfl (by decide) (k_is hK (q := 126)  dX3_take_124 rfl (L2 := [some (vR 15), some (vI row), some (vI pit), some (vI LE), some (vI 0), none, none]) (Nat.le_of_ble_eq_true rfl) rfl ?_)
    refine take_c hK hS (M0 := M) (le := LE) (t1 := tk1 S (rv MA row) (LE + S 5 4) pit (S 0 0).toNat) hrow hr (fun M2 h1 h2 h3 => ⟨rfl, fun j hj => ?_, h2, h3⟩) (El S).length 0 M1 (by omega) hs1 (NxL_fr hn (hf1 10 (by decide)) (hf1 11 (by decide)) (hf1 12 (by decide)) (hf1 13 (by decide))) ht1 ho1 hf1
    have h9 : rv M2 row j = _ := congrFun h1 j
    unfold rv at h9
    rw [h9]
    unfold fwdT
    rw [← hLEe2]
    exact tk2_congP (P := pn S) (El S) (fun e he => (El_pn hS e he).1) (fun _ _ => rfl) _ _ (tk1_congP _ _ (fun j hj => by have := hcA j.toNat (by omega); rw [show ((j.toNat : Nat) : Int) = j by omega] at this; exact this) _) j hj
  have J67 : ∀ (MA : ra_M), scC MA = S → (∀ t : Nat, t ≤ (S 0 0).toNat → MA 16 (row + (t : Nat)) = tk0 S (M 18) (t : Nat)) → offR row M MA → frX [16] M MA → ∀ z, K 67 [some (vR 15), some (vI row), some (vI pit), some (vI LE), some (vI z), none, none] [] MA := by
    intro MA hsA hcA hoA hfA z
    refine k_aln hK (q := 68)  dX3_take_67 rfl (z := 15) rfl (k_gR hK (q := 71) (r := 1) dX3_take_68 rfl rf_X3_21 rfl rfl ?_)
    refine k_iv0I hK (q := 74) dX3_take_71 rfl rm_X3_87 rfl rfl (Nat.le_of_ble_eq_true rfl) (t_firstThere _ MA) ?_
    obtain ⟨f5, f6, f7, f8, f9⟩ := scC_e hsA
    have hfi : (if MA 1 7 ≠ -1 then MA 1 7 else 0) = ((fi.toNat : Nat) : Int) := by rw [f7]; omega
    rw [hfi]
    refine k_is hK (q := 76)  dX3_take_74 rfl (L2 := [some (vR 15), some (vI row), some (vI pit), some (vI LE), some (vI (fi.toNat : Nat)), none, none]) (Nat.le_of_ble_eq_true rfl) rfl ?_
    exact take_b hK hS (M0 := M) (le := LE) (fi := fi) (la := la) (t0 := rv MA row) hrow hLE hth (by omega) hla (J123 MA hcA) (la + 1 - fi).toNat fi.toNat MA (by omega) hsA (by omega) (tk1_none _ (fun i hi q => by have := (hth (i : Nat)).mp q; omega)).symm hoA hfA
  refine k_ldc hK (q := 2)  dX3_take_0 rfl rc_X3_33 (k_isn hK (q := 3)  dX3_take_2 rfl (L2 := [some (vR 15), some (vI row), some (vI pit), some (vI 1000000000), none, none, none]) (Nat.le_of_ble_eq_true rfl) rfl (k_ic hK (q := 4)  dX3_take_3 rfl (by decide) (k_is hK (q := 6)  dX3_take_4 rfl (L2 := [some (vR 15), some (vI row), some (vI pit), some (vI 1000000000), some (vI 0), none, none]) (Nat.le_of_ble_eq_true rfl) rfl ?_)))
  rw [hLEe] at J67
  exact take_a hK hS hrow hr J67 ((S 0 0).toNat + 1) 0 M NV (by omega) hs rfl (fun t ht => by omega) (fun z hz => rfl) (frX_refl _ _)
end
section
set_option maxRecDepth 20000 in
set_option maxHeartbeats 2000000 in
theorem nearest_loop {d : Nat} {Q : Option ra_V → ra_M → Prop} {K : Nat → ra_L → List ra_V → ra_M → Prop} (hK : ra_Clo (Ex d) m_X3_nearestOfLeast cX3_nearestOfLeast Q K) {S : Sc} (hS : okSc S) {M : ra_M} (hs : scC M = S) {row ex : Int} (hrow : 0 ≤ row ∧ row ≤ 7320) (hex : 0 ≤ ex ∧ ex ≤ 60) (hr : ∀ j, pn S j → 0 ≤ M 16 (row + j) ∧ M 16 (row + j) ≤ NV)
    (hQ : ∀ fo : Int, fo = chF (rv M row) ex (S 0 0).toNat → Q (some (vI fo)) M) :
    ∀ (n i : Nat) (fo : Int), i + n = (S 0 0).toNat → fo = chF (rv M row) ex i → K 5 [some (vR 15), some (vI row), some (vI ex), some (vI fo), some (vI (i : Nat)), none, none] [] M := by
  have hNV : NV = 1000000000 := rfl
  obtain ⟨e5, e6, e7, e8, e9⟩ := scC_e hs
  have hs0 := hS.1
  intro n
  induction n with
  | zero =>
    intro i fo hi hfo
    refine k_il hK (q := 7)  dX3_nearestOfLeast_5 rfl (z := (i : Nat)) rfl (k_aln hK (q := 8)  dX3_nearestOfLeast_7 rfl (z := 15) rfl (k_gR hK (q := 11) (r := 1) dX3_nearestOfLeast_8 rfl rf_X3_21 rfl rfl (k_gI hK (q := 14) (z := M 1 5) 0 dX3_nearestOfLeast_11 rfl rf_X3_58 rfl rfl rfl rfl ?_)))
    refine k_cge hK (q := 17) (t := 88) dX3_nearestOfLeast_14 rfl rfl (fun h14 => ?_) (fun h14 => ?_)
    · refine k_iln hK (q := 89)  dX3_nearestOfLeast_88 rfl (z := fo) rfl ?_
      refine k_ir hK dX3_nearestOfLeast_89 rfl ?_
      have hi2 : i = (S 0 0).toNat := by omega
      subst hi2
      exact hQ fo hfo
    · exact absurd h14 (by omega)
  | succ n ih =>
    intro i fo hi hfo
    have hfr := chF_in (rv M row) ex i
    rw [← hfo] at hfr
    have hv1 : rv M row ((i : Nat) + 1) = M 16 (row + (i : Nat) + 1) := by unfold rv; congr 1; omega
    have hv2 : rv M row (fo + 1) = M 16 (row + fo + 1) := by unfold rv; congr 1; omega
    have hr1 := hr ((i : Nat) + 1) ⟨by omega, by omega⟩
    have hr2 := hr (fo + 1) ⟨by omega, by omega⟩
    rw [show row + ((i : Nat) + 1 : Int) = row + (i : Nat) + 1 by omega] at hr1
    rw [show row + (fo + 1) = row + fo + 1 by omega] at hr2
    refine k_il hK (q := 7)  dX3_nearestOfLeast_5 rfl (z := (i : Nat)) rfl (k_aln hK (q := 8)  dX3_nearestOfLeast_7 rfl (z := 15) rfl (k_gR hK (q := 11) (r := 1) dX3_nearestOfLeast_8 rfl rf_X3_21 rfl rfl (k_gI hK (q := 14) (z := M 1 5) 0 dX3_nearestOfLeast_11 rfl rf_X3_58 rfl rfl rfl rfl ?_)))
    refine k_cge hK (q := 17) (t := 88) dX3_nearestOfLeast_14 rfl rfl (fun h14 => ?_) (fun h14 => ?_)
    · exact absurd h14 (by omega)
    · refine k_aln hK (q := 18)  dX3_nearestOfLeast_17 rfl (z := 15) rfl (k_gR hK (q := 21) (r := 16) dX3_nearestOfLeast_18 rfl rf_X3_9 rfl rfl (k_iln hK (q := 22)  dX3_nearestOfLeast_21 rfl (z := row) rfl (k_il hK (q := 24)  dX3_nearestOfLeast_22 rfl (z := (i : Nat)) rfl (k_add hK (q := 25)  dX3_nearestOfLeast_24 rfl (z := row + (i : Nat)) rfl (by omega) (k_ic hK (q := 26)  dX3_nearestOfLeast_25 rfl (by decide) ?_)))))
      refine k_add hK (q := 27)  dX3_nearestOfLeast_26 rfl (z := (row + (i : Nat)) + 1) rfl (by omega) (k_ald hK (q := 28)  dX3_nearestOfLeast_27 rfl (y := M 16 ((row + (i : Nat)) + 1)) rfl (by omega) rfl (k_aln hK (q := 29)  dX3_nearestOfLeast_28 rfl (z := 15) rfl (k_gR hK (q := 32) (r := 16) dX3_nearestOfLeast_29 rfl rf_X3_9 rfl rfl (k_iln hK (q := 33)  dX3_nearestOfLeast_32 rfl (z := row) rfl (k_iln hK (q := 34)  dX3_nearestOfLeast_33 rfl (z := fo) rfl ?_)))))
      refine k_add hK (q := 35)  dX3_nearestOfLeast_34 rfl (z := row + fo) rfl (by omega) (k_ic hK (q := 36)  dX3_nearestOfLeast_35 rfl (by decide) (k_add hK (q := 37)  dX3_nearestOfLeast_36 rfl (z := (row + fo) + 1) rfl (by omega) (k_ald hK (q := 38)  dX3_nearestOfLeast_37 rfl (y := M 16 ((row + fo) + 1)) rfl (by omega) rfl (k_sub hK (q := 39)  dX3_nearestOfLeast_38 rfl (z := (M 16 ((row + (i : Nat)) + 1)) - (M 16 ((row + fo) + 1))) rfl (by omega) (k_is hK (q := 41)  dX3_nearestOfLeast_39 rfl (L2 := [some (vR 15), some (vI row), some (vI ex), some (vI fo), some (vI (i : Nat)), some (vI ((M 16 ((row + (i : Nat)) + 1)) - (M 16 ((row + fo) + 1)))), none]) (Nat.le_of_ble_eq_true rfl) rfl ?_)))))
      refine k_il hK (q := 43)  dX3_nearestOfLeast_41 rfl (z := (i : Nat)) rfl (k_iln hK (q := 44)  dX3_nearestOfLeast_43 rfl (z := ex) rfl (k_sub hK (q := 45)  dX3_nearestOfLeast_44 rfl (z := (i : Nat) - ex) rfl (by omega) ?_))
      refine k_st1I hK (q := 48) dX3_nearestOfLeast_45 rfl rm_X3_101 (Nat.le_of_ble_eq_true rfl) (t_abs _ M ((i : Nat) - ex) (by omega)) ?_
      refine k_iln hK (q := 49)  dX3_nearestOfLeast_48 rfl (z := fo) rfl (k_iln hK (q := 50)  dX3_nearestOfLeast_49 rfl (z := ex) rfl (k_sub hK (q := 51)  dX3_nearestOfLeast_50 rfl (z := fo - ex) rfl (by omega) ?_))
      refine k_st1I hK (q := 54) dX3_nearestOfLeast_51 rfl rm_X3_101 (Nat.le_of_ble_eq_true rfl) (t_abs _ M (fo - ex) (by omega)) ?_
      refine k_cge hK (q := 57) (t := 61) dX3_nearestOfLeast_54 rfl rfl (fun h54 => ?_) (fun h54 => ?_)
      · refine k_ic hK (q := 62)  dX3_nearestOfLeast_61 rfl (by decide) (k_is hK (q := 64)  dX3_nearestOfLeast_62 rfl (L2 := [some (vR 15), some (vI row), some (vI ex), some (vI fo), some (vI (i : Nat)), some (vI ((M 16 ((row + (i : Nat)) + 1)) - (M 16 ((row + fo) + 1)))), some (vI 0)]) (Nat.le_of_ble_eq_true rfl) rfl (k_il hK (q := 66)  dX3_nearestOfLeast_64 rfl (z := ((M 16 ((row + (i : Nat)) + 1)) - (M 16 ((row + fo) + 1)))) rfl ?_))
        refine k_iflt hK (q := 69) (t := 79) dX3_nearestOfLeast_66 rfl rfl (fun h66 => ?_) (fun h66 => ?_)
        · refine k_il hK (q := 81)  dX3_nearestOfLeast_79 rfl (z := (i : Nat)) rfl (k_isn hK (q := 82)  dX3_nearestOfLeast_81 rfl (L2 := [some (vR 15), some (vI row), some (vI ex), some (vI (i : Nat)), some (vI (i : Nat)), some (vI ((M 16 ((row + (i : Nat)) + 1)) - (M 16 ((row + fo) + 1)))), some (vI 0)]) (Nat.le_of_ble_eq_true rfl) rfl (k_inc hK (q := 85)  dX3_nearestOfLeast_82 rfl (y := (i : Nat) + 1) (L2 := [some (vR 15), some (vI row), some (vI ex), some (vI (i : Nat)), some (vI ((i : Nat) + 1)), some (vI ((M 16 ((row + (i : Nat)) + 1)) - (M 16 ((row + fo) + 1)))), some (vI 0)]) rfl rfl (by omega) rfl (k_goto hK (t := 5) dX3_nearestOfLeast_85 rfl ?_)))
          refine k_weak hK (L2 := [some (vR 15), some (vI row), some (vI ex), some (vI (i : Nat)), some (vI ((i : Nat) + 1)), none, none]) ⟨Or.inl rfl, Or.inl rfl, Or.inl rfl, Or.inl rfl, Or.inl rfl, Or.inr rfl, Or.inr rfl, trivial⟩ ?_
          refine ih (i + 1) _ (by omega) ?_
          simp only [chF]
          rw [← hfo, hv1, hv2]
          unfold ab
          rw [if_pos (by omega)]
        · refine k_il hK (q := 71)  dX3_nearestOfLeast_69 rfl (z := ((M 16 ((row + (i : Nat)) + 1)) - (M 16 ((row + fo) + 1)))) rfl ?_
          refine k_ifne hK (q := 74) (t := 82) dX3_nearestOfLeast_71 rfl rfl (fun h71 => ?_) (fun h71 => ?_)
          · refine k_inc hK (q := 85)  dX3_nearestOfLeast_82 rfl (y := (i : Nat) + 1) (L2 := [some (vR 15), some (vI row), some (vI ex), some (vI fo), some (vI ((i : Nat) + 1)), some (vI ((M 16 ((row + (i : Nat)) + 1)) - (M 16 ((row + fo) + 1)))), some (vI 0)]) rfl rfl (by omega) rfl (k_goto hK (t := 5) dX3_nearestOfLeast_85 rfl ?_)
            refine k_weak hK (L2 := [some (vR 15), some (vI row), some (vI ex), some (vI fo), some (vI ((i : Nat) + 1)), none, none]) ⟨Or.inl rfl, Or.inl rfl, Or.inl rfl, Or.inl rfl, Or.inl rfl, Or.inr rfl, Or.inr rfl, trivial⟩ ?_
            refine ih (i + 1) _ (by omega) ?_
            simp only [chF]
            rw [← hfo, hv1, hv2]
            unfold ab
            rw [if_neg (by omega)]
          · refine k_il hK (q := 76)  dX3_nearestOfLeast_74 rfl (z := 0) rfl ?_
            refine k_ifeq hK (q := 79) (t := 82) dX3_nearestOfLeast_76 rfl rfl (fun h76 => ?_) (fun h76 => ?_)
            · skip
              refine k_inc hK (q := 85)  dX3_nearestOfLeast_82 rfl (y := (i : Nat) + 1) (L2 := [some (vR 15), some (vI row), some (vI ex), some (vI fo), some (vI ((i : Nat) + 1)), some (vI ((M 16 ((row + (i : Nat)) + 1)) - (M 16 ((row + fo) + 1)))), some (vI 0)]) rfl rfl (by omega) rfl (k_goto hK (t := 5) dX3_nearestOfLeast_85 rfl ?_)
              refine k_weak hK (L2 := [some (vR 15), some (vI row), some (vI ex), some (vI fo), some (vI ((i : Nat) + 1)), none, none]) ⟨Or.inl rfl, Or.inl rfl, Or.inl rfl, Or.inl rfl, Or.inl rfl, Or.inr rfl, Or.inr rfl, trivial⟩ ?_
              refine ih (i + 1) _ (by omega) ?_
              simp only [chF]
              rw [← hfo, hv1, hv2]
              unfold ab
              rw [if_neg (by omega)]
            · skip
              refine k_il hK (q := 81)  dX3_nearestOfLeast_79 rfl (z := (i : Nat)) rfl (k_isn hK (q := 82)  dX3_nearestOfLeast_81 rfl (L2 := [some (vR 15), some (vI row), some (vI ex), some (vI (i : Nat)), some (vI (i : Nat)), some (vI ((M 16 ((row + (i : Nat)) + 1)) - (M 16 ((row + fo) + 1)))), some (vI 0)]) (Nat.le_of_ble_eq_true rfl) rfl (k_inc hK (q := 85)  dX3_nearestOfLeast_82 rfl (y := (i : Nat) + 1) (L2 := [some (vR 15), some (vI row), some (vI ex), some (vI (i : Nat)), some (vI ((i : Nat) + 1)), some (vI ((M 16 ((row + (i : Nat)) + 1)) - (M 16 ((row + fo) + 1)))), some (vI 0)]) rfl rfl (by omega) rfl (k_goto hK (t := 5) dX3_nearestOfLeast_85 rfl ?_)))
              refine k_weak hK (L2 := [some (vR 15), some (vI row), some (vI ex), some (vI (i : Nat)), some (vI ((i : Nat) + 1)), none, none]) ⟨Or.inl rfl, Or.inl rfl, Or.inl rfl, Or.inl rfl, Or.inl rfl, Or.inr rfl, Or.inr rfl, trivial⟩ ?_
              refine ih (i + 1) _ (by omega) ?_
              simp only [chF]
              rw [← hfo, hv1, hv2]
              unfold ab
              rw [if_pos (by omega)]
      · refine k_ic hK (q := 58)  dX3_nearestOfLeast_57 rfl (by decide) (k_goto hK (t := 62) dX3_nearestOfLeast_58 rfl (k_is hK (q := 64)  dX3_nearestOfLeast_62 rfl (L2 := [some (vR 15), some (vI row), some (vI ex), some (vI fo), some (vI (i : Nat)), some (vI ((M 16 ((row + (i : Nat)) + 1)) - (M 16 ((row + fo) + 1)))), some (vI 1)]) (Nat.le_of_ble_eq_true rfl) rfl (k_il hK (q := 66)  dX3_nearestOfLeast_64 rfl (z := ((M 16 ((row + (i : Nat)) + 1)) - (M 16 ((row + fo) + 1)))) rfl ?_)))
        refine k_iflt hK (q := 69) (t := 79) dX3_nearestOfLeast_66 rfl rfl (fun h66 => ?_) (fun h66 => ?_)
        · refine k_il hK (q := 81)  dX3_nearestOfLeast_79 rfl (z := (i : Nat)) rfl (k_isn hK (q := 82)  dX3_nearestOfLeast_81 rfl (L2 := [some (vR 15), some (vI row), some (vI ex), some (vI (i : Nat)), some (vI (i : Nat)), some (vI ((M 16 ((row + (i : Nat)) + 1)) - (M 16 ((row + fo) + 1)))), some (vI 1)]) (Nat.le_of_ble_eq_true rfl) rfl (k_inc hK (q := 85)  dX3_nearestOfLeast_82 rfl (y := (i : Nat) + 1) (L2 := [some (vR 15), some (vI row), some (vI ex), some (vI (i : Nat)), some (vI ((i : Nat) + 1)), some (vI ((M 16 ((row + (i : Nat)) + 1)) - (M 16 ((row + fo) + 1)))), some (vI 1)]) rfl rfl (by omega) rfl (k_goto hK (t := 5) dX3_nearestOfLeast_85 rfl ?_)))
          refine k_weak hK (L2 := [some (vR 15), some (vI row), some (vI ex), some (vI (i : Nat)), some (vI ((i : Nat) + 1)), none, none]) ⟨Or.inl rfl, Or.inl rfl, Or.inl rfl, Or.inl rfl, Or.inl rfl, Or.inr rfl, Or.inr rfl, trivial⟩ ?_
          refine ih (i + 1) _ (by omega) ?_
          simp only [chF]
          rw [← hfo, hv1, hv2]
          unfold ab
          rw [if_pos (by omega)]
        · refine k_il hK (q := 71)  dX3_nearestOfLeast_69 rfl (z := ((M 16 ((row + (i : Nat)) + 1)) - (M 16 ((row + fo) + 1)))) rfl ?_
          refine k_ifne hK (q := 74) (t := 82) dX3_nearestOfLeast_71 rfl rfl (fun h71 => ?_) (fun h71 => ?_)
          · refine k_inc hK (q := 85)  dX3_nearestOfLeast_82 rfl (y := (i : Nat) + 1) (L2 := [some (vR 15), some (vI row), some (vI ex), some (vI fo), some (vI ((i : Nat) + 1)), some (vI ((M 16 ((row + (i : Nat)) + 1)) - (M 16 ((row + fo) + 1)))), some (vI 1)]) rfl rfl (by omega) rfl (k_goto hK (t := 5) dX3_nearestOfLeast_85 rfl ?_)
            refine k_weak hK (L2 := [some (vR 15), some (vI row), some (vI ex), some (vI fo), some (vI ((i : Nat) + 1)), none, none]) ⟨Or.inl rfl, Or.inl rfl, Or.inl rfl, Or.inl rfl, Or.inl rfl, Or.inr rfl, Or.inr rfl, trivial⟩ ?_
            refine ih (i + 1) _ (by omega) ?_
            simp only [chF]
            rw [← hfo, hv1, hv2]
            unfold ab
            rw [if_neg (by omega)]
          · refine k_il hK (q := 76)  dX3_nearestOfLeast_74 rfl (z := 1) rfl ?_
            refine k_ifeq hK (q := 79) (t := 82) dX3_nearestOfLeast_76 rfl rfl (fun h76 => ?_) (fun h76 => ?_)
            · skip
              refine k_inc hK (q := 85)  dX3_nearestOfLeast_82 rfl (y := (i : Nat) + 1) (L2 := [some (vR 15), some (vI row), some (vI ex), some (vI fo), some (vI ((i : Nat) + 1)), some (vI ((M 16 ((row + (i : Nat)) + 1)) - (M 16 ((row + fo) + 1)))), some (vI 1)]) rfl rfl (by omega) rfl (k_goto hK (t := 5) dX3_nearestOfLeast_85 rfl ?_)
              refine k_weak hK (L2 := [some (vR 15), some (vI row), some (vI ex), some (vI fo), some (vI ((i : Nat) + 1)), none, none]) ⟨Or.inl rfl, Or.inl rfl, Or.inl rfl, Or.inl rfl, Or.inl rfl, Or.inr rfl, Or.inr rfl, trivial⟩ ?_
              refine ih (i + 1) _ (by omega) ?_
              simp only [chF]
              rw [← hfo, hv1, hv2]
              unfold ab
              rw [if_neg (by omega)]
            · skip
              refine k_il hK (q := 81)  dX3_nearestOfLeast_79 rfl (z := (i : Nat)) rfl (k_isn hK (q := 82)  dX3_nearestOfLeast_81 rfl (L2 := [some (vR 15), some (vI row), some (vI ex), some (vI (i : Nat)), some (vI (i : Nat)), some (vI ((M 16 ((row + (i : Nat)) + 1)) - (M 16 ((row + fo) + 1)))), some (vI 1)]) (Nat.le_of_ble_eq_true rfl) rfl (k_inc hK (q := 85)  dX3_nearestOfLeast_82 rfl (y := (i : Nat) + 1) (L2 := [some (vR 15), some (vI row), some (vI ex), some (vI (i : Nat)), some (vI ((i : Nat) + 1)), some (vI ((M 16 ((row + (i : Nat)) + 1)) - (M 16 ((row + fo) + 1)))), some (vI 1)]) rfl rfl (by omega) rfl (k_goto hK (t := 5) dX3_nearestOfLeast_85 rfl ?_)))
              refine k_weak hK (L2 := [some (vR 15), some (vI row), some (vI ex), some (vI (i : Nat)), some (vI ((i : Nat) + 1)), none, none]) ⟨Or.inl rfl, Or.inl rfl, Or.inl rfl, Or.inl rfl, Or.inl rfl, Or.inr rfl, Or.inr rfl, trivial⟩ ?_
              refine ih (i + 1) _ (by omega) ?_
              simp only [chF]
              rw [← hfo, hv1, hv2]
              unfold ab
              rw [if_pos (by omega)]

set_option maxRecDepth 20000 in
set_option maxHeartbeats 2000000 in
theorem xc_nearest (d : Nat) (M : ra_M) (row ex : Int) (S : Sc) (hs : scC M = S) (hS : okSc S) (hrow : 0 ≤ row ∧ row ≤ 7320) (hex : 0 ≤ ex ∧ ex ≤ 60) (hr : ∀ j, pn S j → 0 ≤ M 16 (row + j) ∧ M 16 (row + j) ≤ NV) : Ex (d + 1) m_X3_nearestOfLeast [vR 15, vI row, vI ex] M (fun r M2 => r = some (vI (chF (rv M row) ex (S 0 0).toNat)) ∧ M2 = M) := by
  refine Ex_call (Nat.le_of_ble_eq_true rfl) (fun K hK => ?_)
  show K 0 [some (vR 15), some (vI row), some (vI ex), none, none, none, none] [] M
  have hK : ra_Clo _ m_X3_nearestOfLeast cX3_nearestOfLeast _ K := hK
  refine k_ic hK (q := 1)  dX3_nearestOfLeast_0 rfl (by decide) (k_isn hK (q := 2)  dX3_nearestOfLeast_1 rfl (L2 := [some (vR 15), some (vI row), some (vI ex), some (vI (-1)), none, none, none]) (Nat.le_of_ble_eq_true rfl) rfl (k_ic hK (q := 3)  dX3_nearestOfLeast_2 rfl (by decide) (k_is hK (q := 5)  dX3_nearestOfLeast_3 rfl (L2 := [some (vR 15), some (vI row), some (vI ex), some (vI (-1)), some (vI 0), none, none]) (Nat.le_of_ble_eq_true rfl) rfl ?_)))
  exact nearest_loop hK hS hs hrow hex hr (fun fo h => ⟨by rw [h], rfl⟩) (S 0 0).toNat 0 (-1) (by omega) rfl

set_option maxRecDepth 20000 in
set_option maxHeartbeats 2000000 in
theorem forget_loop {d : Nat} {Q : Option ra_V → ra_M → Prop} {K : Nat → ra_L → List ra_V → ra_M → Prop} (hK : ra_Clo (Ex d) m_X3_forgetFar cX3_forgetFar Q K) {S : Sc} (hS : okSc S) {M0 : ra_M} {row ce : Int} (hrow : 0 ≤ row ∧ row ≤ 7320) (hce : -1 ≤ ce ∧ ce ≤ 60)
    (hQ : ∀ M : ra_M, (∀ j, pn S j → M 16 (row + j) = fgt S (rv M0 row) ce j) → offR row M0 M → frX [16] M0 M → Q none M) :
    ∀ (n i : Nat) (M : ra_M) (pl : Int), i + n = (S 0 0).toNat + 1 → pl = (i : Int) - 1 → scC M = S → (∀ t : Nat, t < i → M 16 (row + (t : Nat)) = fgt S (rv M0 row) ce (t : Nat)) → (∀ t : Nat, i ≤ t → (t : Int) ≤ S 0 0 → M 16 (row + (t : Nat)) = M0 16 (row + (t : Nat))) → offR row M0 M → frX [16] M0 M → K 2 [some (vR 15), some (vI row), some (vI ce), some (vI pl)] [] M := by
  have hs0 := hS.1
  intro n
  induction n with
  | zero =>
    intro i M pl hi hpl hs h1 h2 ho hf
    obtain ⟨e5, e6, e7, e8, e9⟩ := scC_e hs
    refine k_iln hK (q := 3)  dX3_forgetFar_2 rfl (z := pl) rfl (k_aln hK (q := 4)  dX3_forgetFar_3 rfl (z := 15) rfl (k_gR hK (q := 7) (r := 1) dX3_forgetFar_4 rfl rf_X3_21 rfl rfl (k_gI hK (q := 10) (z := M 1 5) 0 dX3_forgetFar_7 rfl rf_X3_58 rfl rfl rfl rfl ?_)))
    refine k_cge hK (q := 13) (t := 47) dX3_forgetFar_10 rfl rfl (fun h10 => ?_) (fun h10 => ?_)
    · refine k_vr hK dX3_forgetFar_47 rfl ?_
      exact hQ M (fun j hj => by have := h1 j.toNat (by omega); rw [show ((j.toNat : Nat) : Int) = j by omega] at this; exact this) ho hf
    · exact absurd h10 (by omega)
  | succ n ih =>
    intro i M pl hi hpl hs h1 h2 ho hf
    obtain ⟨e5, e6, e7, e8, e9⟩ := scC_e hs
    refine k_iln hK (q := 3)  dX3_forgetFar_2 rfl (z := pl) rfl (k_aln hK (q := 4)  dX3_forgetFar_3 rfl (z := 15) rfl (k_gR hK (q := 7) (r := 1) dX3_forgetFar_4 rfl rf_X3_21 rfl rfl (k_gI hK (q := 10) (z := M 1 5) 0 dX3_forgetFar_7 rfl rf_X3_58 rfl rfl rfl rfl ?_)))
    refine k_cge hK (q := 13) (t := 47) dX3_forgetFar_10 rfl rfl (fun h10 => ?_) (fun h10 => ?_)
    · exact absurd h10 (by omega)
    · refine k_iln hK (q := 14)  dX3_forgetFar_13 rfl (z := pl) rfl (k_iln hK (q := 15)  dX3_forgetFar_14 rfl (z := ce) rfl (k_sub hK (q := 16)  dX3_forgetFar_15 rfl (z := pl - ce) rfl (by omega) ?_))
      refine k_st1I hK (q := 19) dX3_forgetFar_16 rfl rm_X3_101 (Nat.le_of_ble_eq_true rfl) (t_abs _ M (pl - ce) (by omega)) ?_
      refine k_aln hK (q := 20)  dX3_forgetFar_19 rfl (z := 15) rfl (k_gR hK (q := 23) (r := 1) dX3_forgetFar_20 rfl rf_X3_21 rfl rfl (k_gI hK (q := 26) (z := M 1 9) 0 dX3_forgetFar_23 rfl rf_X3_105 rfl rfl rfl rfl ?_))
      refine k_cle hK (q := 29) (t := 41) dX3_forgetFar_26 rfl rfl (fun h26 => ?_) (fun h26 => ?_)
      · refine k_inc hK (q := 44)  dX3_forgetFar_41 rfl (y := pl + 1) (L2 := [some (vR 15), some (vI row), some (vI ce), some (vI (pl + 1))]) rfl rfl (by omega) rfl (k_goto hK (t := 2) dX3_forgetFar_44 rfl ?_)
        refine ih (i + 1) M (pl + 1) (by omega) (by omega) hs (fun t ht => ?_) (fun t ht1 ht2 => h2 t (by omega) ht2) ho hf
        by_cases h : t = i
        · subst h
          rw [h2 t (by omega) (by omega)]
          unfold fgt
          rw [if_neg (by intro q; have q2 := q.2.2; unfold ab at q2; rw [show ((t : Nat) : Int) - 1 - ce = pl - ce by omega] at q2; omega)]
          rfl
        · exact h1 t (by omega)
      · refine k_aln hK (q := 30)  dX3_forgetFar_29 rfl (z := 15) rfl (k_gR hK (q := 33) (r := 16) dX3_forgetFar_30 rfl rf_X3_9 rfl rfl (k_iln hK (q := 34)  dX3_forgetFar_33 rfl (z := row) rfl (k_iln hK (q := 35)  dX3_forgetFar_34 rfl (z := pl) rfl (k_add hK (q := 36)  dX3_forgetFar_35 rfl (z := row + pl) rfl (by omega) (k_ic hK (q := 37)  dX3_forgetFar_36 rfl (by decide) ?_)))))
        refine k_add hK (q := 38)  dX3_forgetFar_37 rfl (z := (row + pl) + 1) rfl (by omega) (k_ldc hK (q := 40)  dX3_forgetFar_38 rfl rc_X3_33 (k_ast hK (q := 41)  dX3_forgetFar_40 rfl rfl (by omega) (k_inc hK (q := 44)  dX3_forgetFar_41 rfl (y := pl + 1) (L2 := [some (vR 15), some (vI row), some (vI ce), some (vI (pl + 1))]) rfl rfl (by omega) rfl (k_goto hK (t := 2) dX3_forgetFar_44 rfl ?_))))
        refine ih (i + 1) _ (pl + 1) (by omega) (by omega) (by rw [scC_fr (M := M) (frX_S (l := [16]) (frX_up (frX_refl _ _) _ _ (by decide)) (by decide))]; exact hs) (fun t ht => ?_) (fun t ht1 ht2 => by rw [up_j _ _ (by omega)]; exact h2 t (by omega) ht2) (offR_up ho (by omega)) (frX_up hf _ _ (by decide))
        by_cases h : t = i
        · subst h
          rw [show row + (t : Nat) = row + pl + 1 by omega, up_same]
          unfold fgt
          rw [if_pos ⟨by omega, by omega, by unfold ab; rw [show ((t : Nat) : Int) - 1 - ce = pl - ce by omega]; omega⟩]
        · rw [up_j _ _ (by omega)]
          exact h1 t (by omega)

set_option maxRecDepth 20000 in
set_option maxHeartbeats 2000000 in
theorem xc_forget (d : Nat) (M : ra_M) (row ce : Int) (S : Sc) (hs : scC M = S) (hS : okSc S) (hrow : 0 ≤ row ∧ row ≤ 7320) (hce : -1 ≤ ce ∧ ce ≤ 60) : Ex (d + 1) m_X3_forgetFar [vR 15, vI row, vI ce] M (fun r M2 => r = none ∧ (∀ j, pn S j → M2 16 (row + j) = fgt S (rv M row) ce j) ∧ offR row M M2 ∧ frX [16] M M2) := by
  refine Ex_call (Nat.le_of_ble_eq_true rfl) (fun K hK => ?_)
  show K 0 [some (vR 15), some (vI row), some (vI ce), none] [] M
  have hK : ra_Clo _ m_X3_forgetFar cX3_forgetFar _ K := hK
  refine k_ic hK (q := 1)  dX3_forgetFar_0 rfl (by decide) (k_isn hK (q := 2)  dX3_forgetFar_1 rfl (L2 := [some (vR 15), some (vI row), some (vI ce), some (vI (-1))]) (Nat.le_of_ble_eq_true rfl) rfl ?_)
  exact forget_loop hK hS (M0 := M) hrow hce (fun M2 h1 h2 h3 => ⟨rfl, h1, h2, h3⟩) ((S 0 0).toNat + 1) 0 M (-1) (by omega) (by omega) hs (fun t ht => by omega) (fun t _ _ => rfl) (fun z _ => rfl) (frX_refl _ _)
end
section
set_option maxRecDepth 20000 in
set_option maxHeartbeats 2000000 in
theorem xc_follow (d : Nat) (M : ra_M) (ev : Int) (S : Sc) (v : Int → Int) (B P : Int) (hs : scC M = S) (hS : okSc S) (hn : NxL M (El S)) (hnn : 0 < S 0 0) (hev : 0 ≤ ev ∧ ev < 120) (hv : ∀ j, pn S j → M 16 (ev * 61 + j) = v j) (hdd : dd S B v) (hB : 0 ≤ B ∧ B ≤ 900000000) (hP : M 17 ev = P) (hPt : P = -1 ∨ thr S P) (hfin : v (P + 1) < NV) : Ex (d + 3) m_X3_follow [vR 15, vI ev] M (fun r M2 => r = none ∧ (∀ j, pn S j → M2 16 ((ev + 1) * 61 + j) = fgt S (fwdT S (fwdC S v) (M 8 ev)) (fwdP S (fwdT S (fwdC S v) (M 8 ev)) P) j) ∧ M2 17 (ev + 1) = fwdP S (fwdT S (fwdC S v) (M 8 ev)) P ∧ offR ((ev + 1) * 61) M M2 ∧ (∀ z, z ≠ ev + 1 → M2 17 z = M 17 z) ∧ frX [16, 17, 18] M M2) := by
  refine Ex_call (Nat.le_of_ble_eq_true rfl) (fun K hK => ?_)
  show K 0 [some (vR 15), some (vI ev), none] [] M
  have hK : ra_Clo _ m_X3_follow cX3_follow _ K := hK
  have hs0 := hS.1
  have hPb : -1 ≤ P ∧ P < 60 := by rcases hPt with h | h <;> omega
  obtain ⟨t1, t2, t3, t4, t5⟩ := fwd_ok hS hnn (pit := M 8 ev) hB hdd hPt hfin
  have hcd := dd_fwdC hS hdd
  generalize hT : fwdT S (fwdC S v) (M 8 ev) = T at t1 t2 t3 t4 t5 ⊢
  refine k_iln hK (q := 1)  dX3_follow_0 rfl (z := ev) rfl (k_ic hK (q := 2)  dX3_follow_1 rfl (by decide) (k_add hK (q := 3)  dX3_follow_2 rfl (z := ev + 1) rfl (by omega) (k_bp hK (q := 5)  dX3_follow_3 rfl (by decide) (k_mul hK (q := 6)  dX3_follow_5 rfl (z := (ev + 1) * 61) rfl (by omega) (k_isn hK (q := 7)  dX3_follow_6 rfl (L2 := [some (vR 15), some (vI ev), some (vI ((ev + 1) * 61))]) (Nat.le_of_ble_eq_true rfl) rfl ?_)))))
  refine k_aln hK (q := 8)  dX3_follow_7 rfl (z := 15) rfl (k_iln hK (q := 9)  dX3_follow_8 rfl (z := ev) rfl (k_bp hK (q := 11)  dX3_follow_9 rfl (by decide) (k_mul hK (q := 12)  dX3_follow_11 rfl (z := ev * 61) rfl (by omega) ?_)))
  refine k_iv1 hK (q := 15) dX3_follow_12 rfl rm_X3_40 rfl rfl (Nat.le_of_ble_eq_true rfl) (xc_passOn _ M (ev * 61) S hs hS hn (by omega) (fun j a b => by rw [hv j ⟨a, b⟩]; exact hdd.1 j)) (fun r9 M5 h9 => ?_)
  obtain ⟨rfl, c0, hc0, hc5, hf5⟩ := h9
  have hs5 : scC M5 = S := by rw [scC_fr (frX_S hf5 (by decide))]; exact hs
  have hn5 : NxL M5 (El S) := NxL_fr hn (hf5 10 (by decide)) (hf5 11 (by decide)) (hf5 12 (by decide)) (hf5 13 (by decide))
  have hcc : ∀ j, pn S j → M5 18 j = fwdC S v j := by
    intro j hj
    rw [hc5]
    exact rep_congP (P := pn S) (sk_pn hS) 61 c0 v (fun i hi => by rw [hc0 i hi.1 hi.2, hv i hi]) j hj
  have hp8 : M5 8 ev = M 8 ev := by rw [hf5 8 (by decide)]
  show K 15 [some (vR 15), some (vI ev), some (vI ((ev + 1) * 61))] [] M5
  refine k_aln hK (q := 16)  dX3_follow_15 rfl (z := 15) rfl (k_iln hK (q := 17)  dX3_follow_16 rfl (z := ((ev + 1) * 61)) rfl (k_aln hK (q := 18)  dX3_follow_17 rfl (z := 15) rfl (k_gR hK (q := 21) (r := 7) dX3_follow_18 rfl rf_X3_29 rfl rfl (k_gR hK (q := 24) (r := 8) dX3_follow_21 rfl rf_X3_44 rfl rfl (k_iln hK (q := 25)  dX3_follow_24 rfl (z := ev) rfl ?_)))))
  refine k_ald hK (q := 26)  dX3_follow_25 rfl (y := M5 8 ev) rfl (by omega) rfl ?_
  rw [hp8]
  refine k_iv2 hK (q := 29) dX3_follow_26 rfl rm_X3_47 rfl rfl (Nat.le_of_ble_eq_true rfl) (xc_take _ M5 ((ev + 1) * 61) (M 8 ev) S hs5 hS hn5 (by omega) (fun j hj => by rw [hcc j hj]; exact hcd.1 j)) (fun r9 M6 h9 => ?_)
  obtain ⟨rfl, ht6, ho6, hf6⟩ := h9
  have hs6 : scC M6 = S := by rw [scC_fr (frX_S hf6 (by decide))]; exact hs5
  have hrow : ∀ j, pn S j → M6 16 ((ev + 1) * 61 + j) = T j := by
    intro j hj
    rw [ht6 j hj, ← hT]
    exact fwdT_congP hS _ hcc j hj
  have h17 : M6 17 ev = P := by rw [hf6 17 (by decide), hf5 17 (by decide)]; exact hP
  show K 29 [some (vR 15), some (vI ev), some (vI ((ev + 1) * 61))] [] M6
  refine k_aln hK (q := 30)  dX3_follow_29 rfl (z := 15) rfl (k_gR hK (q := 33) (r := 17) dX3_follow_30 rfl rf_X3_15 rfl rfl (k_iln hK (q := 34)  dX3_follow_33 rfl (z := ev) rfl (k_ic hK (q := 35)  dX3_follow_34 rfl (by decide) (k_add hK (q := 36)  dX3_follow_35 rfl (z := ev + 1) rfl (by omega) (k_aln hK (q := 37)  dX3_follow_36 rfl (z := 15) rfl ?_)))))
  refine k_iln hK (q := 38)  dX3_follow_37 rfl (z := ((ev + 1) * 61)) rfl (k_aln hK (q := 39)  dX3_follow_38 rfl (z := 15) rfl (k_gR hK (q := 42) (r := 17) dX3_follow_39 rfl rf_X3_15 rfl rfl (k_iln hK (q := 43)  dX3_follow_42 rfl (z := ev) rfl (k_ald hK (q := 44)  dX3_follow_43 rfl (y := M6 17 ev) rfl (by omega) rfl ?_))))
  rw [h17]
  refine k_ic hK (q := 45)  dX3_follow_44 rfl (by decide) (k_add hK (q := 46)  dX3_follow_45 rfl (z := P + 1) rfl (by omega) ?_)
  refine k_iv2I hK (q := 49) dX3_follow_46 rfl rm_X3_51 rfl rfl (Nat.le_of_ble_eq_true rfl) (xc_nearest _ M6 ((ev + 1) * 61) (P + 1) S hs6 hS (by omega) (by omega) (fun j hj => by rw [hrow j hj]; exact t1.1 j)) ?_
  have hch : chF (rv M6 ((ev + 1) * 61)) (P + 1) (S 0 0).toNat = fwdP S T P := by
    unfold fwdP
    exact chF_congP _ (fun j a b => hrow j ⟨a, by omega⟩)
  rw [hch]
  refine k_ast hK (q := 50)  dX3_follow_49 rfl rfl (by omega) ?_
  have hs7 : scC (up M6 17 (ev + 1) (fwdP S T P)) = S := by rw [scC_fr (M := M6) (frX_S (l := [17]) (frX_up (frX_refl _ _) _ _ (by decide)) (by decide))]; exact hs6
  refine k_aln hK (q := 51)  dX3_follow_50 rfl (z := 15) rfl (k_iln hK (q := 52)  dX3_follow_51 rfl (z := ((ev + 1) * 61)) rfl (k_aln hK (q := 53)  dX3_follow_52 rfl (z := 15) rfl (k_gR hK (q := 56) (r := 17) dX3_follow_53 rfl rf_X3_15 rfl rfl (k_iln hK (q := 57)  dX3_follow_56 rfl (z := ev) rfl (k_ic hK (q := 58)  dX3_follow_57 rfl (by decide) ?_)))))
  refine k_add hK (q := 59)  dX3_follow_58 rfl (z := ev + 1) rfl (by omega) (k_ald hK (q := 60)  dX3_follow_59 rfl (y := fwdP S T P) rfl (by omega) (by simp [up]) ?_)
  refine k_iv2 hK (q := 63) dX3_follow_60 rfl rm_X3_55 rfl rfl (Nat.le_of_ble_eq_true rfl) (xc_forget _ (up M6 17 (ev + 1) (fwdP S T P)) ((ev + 1) * 61) (fwdP S T P) S hs7 hS (by omega) (by rcases t2 with h | h <;> omega)) (fun r9 M8 h9 => ?_)
  obtain ⟨rfl, hr8, ho8, hf8⟩ := h9
  show K 63 [some (vR 15), some (vI ev), some (vI ((ev + 1) * 61))] [] M8
  refine k_vr hK dX3_follow_63 rfl ?_
  rw [hT]
  refine ⟨rfl, fun j hj => ?_, ?_, fun z hz => ?_, fun z hz => ?_, ?_⟩
  · rw [hr8 j hj]
    unfold fgt
    split
    · rfl
    · exact hrow j hj
  · rw [hf8 17 (by decide), up_same]
  · rw [ho8 z hz, up_k _ _ _ (by decide), ho6 z hz, hf5 16 (by decide)]
  · rw [hf8 17 (by decide), up_j _ _ hz, hf6 17 (by decide), hf5 17 (by decide)]
  · refine frX_trans (frX_trans (frX_sub hf5 (by decide)) (frX_sub hf6 (by decide))) (frX_trans (frX_up (frX_refl _ M6) (ev + 1) (fwdP S T P) (by decide)) (frX_sub hf8 (by decide)))
end
section
/-! what is left to pay, in the class -/
def r23 (M : ra_M) (e : Int) : Int → Int := fun j => M 23 (e * 61 + j)
theorem r23_lw (M : ra_M) (e n s : Int) : r23 (up M 23 (e * 61 + n + 1) (min (M 23 (e * 61 + n + 1)) s)) e = lw (r23 M e) (n + 1) s := by
  funext j
  unfold r23 lw
  by_cases h : j = n + 1
  · subst h
    rw [if_pos rfl]
    show up M 23 _ _ 23 (e * 61 + (n + 1)) = min (M 23 (e * 61 + (n + 1))) s
    rw [show e * 61 + (n + 1) = e * 61 + n + 1 by omega, up_same]
  · rw [if_neg h, up_j _ _ (by omega)]
def off3 (row : Int) (M M2 : ra_M) : Prop := ∀ z, (z < row ∨ row + 61 ≤ z) → M2 23 z = M 23 z
theorem off3_up {row : Int} {M M2 : ra_M} (h : off3 row M M2) {i v : Int} (hi : row ≤ i ∧ i < row + 61) : off3 row M (up M2 23 i v) := fun z hz => by
  rw [up_j _ _ (by omega)]
  exact h z hz
theorem off3_trans {row : Int} {M M1 M2 : ra_M} (h : off3 row M M1) (h2 : off3 row M1 M2) : off3 row M M2 := fun z hz => (h2 z hz).trans (h z hz)

set_option maxRecDepth 20000 in
set_option maxHeartbeats 2000000 in
theorem xc_restAt (d : Nat) (M : ra_M) (e p : Int) (h : 0 ≤ e ∧ e ≤ 120) (hp : -1 ≤ p ∧ p < 60) : Ex d m_X1_restAt [vR 22, vI e, vI p] M (fun r M2 => r = some (vI (M 23 (e * 61 + p + 1))) ∧ M2 = M) := by
  refine Ex_leaf (Nat.le_of_ble_eq_true rfl) (fun C K hK => ?_)
  show K 0 [some (vR 22), some (vI e), some (vI p)] [] M
  have hK : ra_Clo _ m_X1_restAt cX1_restAt _ K := hK
  refine k_aln hK (q := 1)  dX1_restAt_0 rfl (z := 22) rfl (k_gR hK (q := 4) (r := 23) dX1_restAt_1 rfl rf_X1_9 rfl rfl (k_iln hK (q := 5)  dX1_restAt_4 rfl (z := e) rfl (k_bp hK (q := 7)  dX1_restAt_5 rfl (by decide) (k_mul hK (q := 8)  dX1_restAt_7 rfl (z := e * 61) rfl (by omega) (k_iln hK (q := 9)  dX1_restAt_8 rfl (z := p) rfl ?_)))))
  refine k_add hK (q := 10)  dX1_restAt_9 rfl (z := (e * 61) + p) rfl (by omega) (k_ic hK (q := 11)  dX1_restAt_10 rfl (by decide) (k_add hK (q := 12)  dX1_restAt_11 rfl (z := ((e * 61) + p) + 1) rfl (by omega) (k_ald hK (q := 13)  dX1_restAt_12 rfl (y := M 23 (((e * 61) + p) + 1)) rfl (by omega) rfl ?_)))
  refine k_ir hK dX1_restAt_13 rfl ?_
  exact ⟨rfl, rfl⟩

set_option maxRecDepth 20000 in
set_option maxHeartbeats 2000000 in
theorem xc_lowerRest (d : Nat) (M : ra_M) (e p v : Int) (h : 0 ≤ e ∧ e ≤ 120) (hp : -1 ≤ p ∧ p < 60) : Ex (d + 1) m_X1_lowerRest [vR 22, vI e, vI p, vI v] M (fun r M2 => r = none ∧ M2 = up M 23 (e * 61 + p + 1) (min (M 23 (e * 61 + p + 1)) v)) := by
  refine Ex_call (Nat.le_of_ble_eq_true rfl) (fun K hK => ?_)
  show K 0 [some (vR 22), some (vI e), some (vI p), some (vI v), none] [] M
  have hK : ra_Clo _ m_X1_lowerRest cX1_lowerRest _ K := hK
  refine k_iln hK (q := 1)  dX1_lowerRest_0 rfl (z := e) rfl (k_bp hK (q := 3)  dX1_lowerRest_1 rfl (by decide) (k_mul hK (q := 4)  dX1_lowerRest_3 rfl (z := e * 61) rfl (by omega) (k_iln hK (q := 5)  dX1_lowerRest_4 rfl (z := p) rfl (k_add hK (q := 6)  dX1_lowerRest_5 rfl (z := (e * 61) + p) rfl (by omega) (k_ic hK (q := 7)  dX1_lowerRest_6 rfl (by decide) ?_)))))
  refine k_add hK (q := 8)  dX1_lowerRest_7 rfl (z := ((e * 61) + p) + 1) rfl (by omega) (k_is hK (q := 10)  dX1_lowerRest_8 rfl (L2 := [some (vR 22), some (vI e), some (vI p), some (vI v), some (vI (((e * 61) + p) + 1))]) (Nat.le_of_ble_eq_true rfl) rfl (k_aln hK (q := 11)  dX1_lowerRest_10 rfl (z := 22) rfl (k_gR hK (q := 14) (r := 23) dX1_lowerRest_11 rfl rf_X1_9 rfl rfl (k_il hK (q := 16)  dX1_lowerRest_14 rfl (z := (((e * 61) + p) + 1)) rfl (k_aln hK (q := 17)  dX1_lowerRest_16 rfl (z := 22) rfl ?_)))))
  refine k_gR hK (q := 20) (r := 23) dX1_lowerRest_17 rfl rf_X1_9 rfl rfl (k_il hK (q := 22)  dX1_lowerRest_20 rfl (z := (((e * 61) + p) + 1)) rfl (k_ald hK (q := 23)  dX1_lowerRest_22 rfl (y := M 23 (((e * 61) + p) + 1)) rfl (by omega) rfl (k_iln hK (q := 24)  dX1_lowerRest_23 rfl (z := v) rfl ?_)))
  refine k_st2I hK (q := 27) dX1_lowerRest_24 rfl rm_X1_74 (Nat.le_of_ble_eq_true rfl) (t_min _ M (M 23 (((e * 61) + p) + 1)) v) ?_
  refine k_ast hK (q := 28)  dX1_lowerRest_27 rfl rfl (by omega) ?_
  refine k_vr hK dX1_lowerRest_28 rfl ?_
  exact ⟨rfl, rfl⟩

set_option maxRecDepth 20000 in
set_option maxHeartbeats 2000000 in
theorem xc_playPrice (d : Nat) (M : ra_M) (e : Int) (S : Sc) (hs : scC M = S) (hS : okSc S) (i : Nat) (x y w : Int) (hn : NxL M (El S)) (he : (El S)[i]? = some (x, y, w)) (hev : 0 ≤ e ∧ e < 120) : Ex (d + 1) m_X1_playPrice [vR 22, vI (i : Nat), vI e] M (fun r M2 => r = some (vI (w + wr S y (M 8 e))) ∧ M2 = M) := by
  refine Ex_call (Nat.le_of_ble_eq_true rfl) (fun K hK => ?_)
  show K 0 [some (vR 22), some (vI (i : Nat)), some (vI e)] [] M
  have hK : ra_Clo _ m_X1_playPrice cX1_playPrice _ K := hK
  obtain ⟨a2, a3, a4, a5, a6⟩ := scC_a hs
  have hs0 := hS.1
  have k0 := hS.2.2.2.2.2.2.2.1 0 (by omega) (by omega)
  have k2 := hS.2.2.2.2.2.2.2.1 2 (by omega) (by omega)
  have k4 := hS.2.2.2.2.2.2.2.1 4 (by omega) (by omega)
  rw [← a6] at k0 k2 k4
  have hl74 := El_len hS
  have hil := (List.getElem?_eq_some_iff.mp he).1
  obtain ⟨g11, g12, g13⟩ := hn.2 i _ he
  have hm := El_mem hS (List.mem_of_getElem? he)
  simp only at g11 g12 g13 hm
  refine k_aln hK (q := 1)  dX1_playPrice_0 rfl (z := 22) rfl (k_gR hK (q := 4) (r := 10) dX1_playPrice_1 rfl rf_X1_34 rfl rfl (k_gR hK (q := 7) (r := 13) dX1_playPrice_4 rfl rf_X1_79 rfl rfl (k_iln hK (q := 8)  dX1_playPrice_7 rfl (z := (i : Nat)) rfl (k_ald hK (q := 9)  dX1_playPrice_8 rfl (y := M 13 (i : Nat)) rfl (by omega) rfl ?_))))
  rw [g13]
  refine k_aln hK (q := 10)  dX1_playPrice_9 rfl (z := 22) rfl (k_gR hK (q := 13) (r := 1) dX1_playPrice_10 rfl rf_X1_30 rfl rfl (k_aln hK (q := 14)  dX1_playPrice_13 rfl (z := 22) rfl (k_gR hK (q := 17) (r := 10) dX1_playPrice_14 rfl rf_X1_34 rfl rfl (k_gR hK (q := 20) (r := 12) dX1_playPrice_17 rfl rf_X1_84 rfl rfl (k_iln hK (q := 21)  dX1_playPrice_20 rfl (z := (i : Nat)) rfl ?_)))))
  refine k_ald hK (q := 22)  dX1_playPrice_21 rfl (y := M 12 (i : Nat)) rfl (by omega) rfl ?_
  rw [g12]
  refine k_aln hK (q := 23)  dX1_playPrice_22 rfl (z := 22) rfl (k_gR hK (q := 26) (r := 7) dX1_playPrice_23 rfl rf_X1_38 rfl rfl (k_gR hK (q := 29) (r := 8) dX1_playPrice_26 rfl rf_X1_87 rfl rfl (k_iln hK (q := 30)  dX1_playPrice_29 rfl (z := e) rfl (k_ald hK (q := 31)  dX1_playPrice_30 rfl (y := M 8 e) rfl (by omega) rfl ?_))))
  refine k_iv2I hK (q := 34) dX1_playPrice_31 rfl rm_X1_90 rfl rfl (Nat.le_of_ble_eq_true rfl) (t_mistake _ M y (M 8 e) (by omega)) ?_
  have hw : 0 ≤ (if M 2 y = M 8 e then 0 else M 6 0) ∧ (if M 2 y = M 8 e then 0 else M 6 0) ≤ 1000 := by split <;> omega
  refine k_add hK (q := 35)  dX1_playPrice_34 rfl (z := w + (if M 2 y = (M 8 e) then 0 else M 6 0)) rfl (by omega) ?_
  refine k_ir hK dX1_playPrice_35 rfl ?_
  refine ⟨?_, rfl⟩
  unfold wr
  rw [← a2, ← a6]

set_option maxRecDepth 20000 in
set_option maxHeartbeats 2000000 in
theorem xc_leapPrice (d : Nat) (M : ra_M) (n e : Int) (S : Sc) (hs : scC M = S) (hS : okSc S) (hn : 0 ≤ n ∧ n < 60) (hev : 0 ≤ e ∧ e < 120) : Ex (d + 1) m_X1_leapPrice [vR 22, vI n, vI e] M (fun r M2 => r = some (vI (S 5 4 + wr S n (M 8 e))) ∧ M2 = M) := by
  refine Ex_call (Nat.le_of_ble_eq_true rfl) (fun K hK => ?_)
  show K 0 [some (vR 22), some (vI n), some (vI e)] [] M
  have hK : ra_Clo _ m_X1_leapPrice cX1_leapPrice _ K := hK
  obtain ⟨a2, a3, a4, a5, a6⟩ := scC_a hs
  have hs0 := hS.1
  have k0 := hS.2.2.2.2.2.2.2.1 0 (by omega) (by omega)
  have k2 := hS.2.2.2.2.2.2.2.1 2 (by omega) (by omega)
  have k4 := hS.2.2.2.2.2.2.2.1 4 (by omega) (by omega)
  rw [← a6] at k0 k2 k4
  refine k_aln hK (q := 1)  dX1_leapPrice_0 rfl (z := 22) rfl (k_gR hK (q := 4) (r := 1) dX1_leapPrice_1 rfl rf_X1_30 rfl rfl (k_gR hK (q := 7) (r := 6) dX1_leapPrice_4 rfl rf_X1_93 rfl rfl (k_ic hK (q := 8)  dX1_leapPrice_7 rfl (by decide) (k_ald hK (q := 9)  dX1_leapPrice_8 rfl (y := M 6 4) rfl (by omega) rfl (k_aln hK (q := 10)  dX1_leapPrice_9 rfl (z := 22) rfl ?_)))))
  refine k_gR hK (q := 13) (r := 1) dX1_leapPrice_10 rfl rf_X1_30 rfl rfl (k_iln hK (q := 14)  dX1_leapPrice_13 rfl (z := n) rfl (k_aln hK (q := 15)  dX1_leapPrice_14 rfl (z := 22) rfl (k_gR hK (q := 18) (r := 7) dX1_leapPrice_15 rfl rf_X1_38 rfl rfl (k_gR hK (q := 21) (r := 8) dX1_leapPrice_18 rfl rf_X1_87 rfl rfl (k_iln hK (q := 22)  dX1_leapPrice_21 rfl (z := e) rfl ?_)))))
  refine k_ald hK (q := 23)  dX1_leapPrice_22 rfl (y := M 8 e) rfl (by omega) rfl ?_
  refine k_iv2I hK (q := 26) dX1_leapPrice_23 rfl rm_X1_90 rfl rfl (Nat.le_of_ble_eq_true rfl) (t_mistake _ M n (M 8 e) (by omega)) ?_
  have hw : 0 ≤ (if M 2 n = M 8 e then 0 else M 6 0) ∧ (if M 2 n = M 8 e then 0 else M 6 0) ≤ 1000 := by split <;> omega
  refine k_add hK (q := 27)  dX1_leapPrice_26 rfl (z := (M 6 4) + (if M 2 n = (M 8 e) then 0 else M 6 0)) rfl (by omega) ?_
  refine k_ir hK dX1_leapPrice_27 rfl ?_
  refine ⟨?_, rfl⟩
  unfold wr
  rw [← a2, ← a6]

set_option maxRecDepth 20000 in
set_option maxHeartbeats 2000000 in
theorem xc_passPrice (d : Nat) (M : ra_M) (S : Sc) (hs : scC M = S) (hS : okSc S) (i : Nat) (x y w : Int) (hn : NxL M (El S)) (he : (El S)[i]? = some (x, y, w)) : Ex d m_X1_passPrice [vR 22, vI (i : Nat)] M (fun r M2 => r = some (vI (w + S 5 2)) ∧ M2 = M) := by
  refine Ex_leaf (Nat.le_of_ble_eq_true rfl) (fun C K hK => ?_)
  show K 0 [some (vR 22), some (vI (i : Nat))] [] M
  have hK : ra_Clo _ m_X1_passPrice cX1_passPrice _ K := hK
  obtain ⟨a2, a3, a4, a5, a6⟩ := scC_a hs
  have hs0 := hS.1
  have k0 := hS.2.2.2.2.2.2.2.1 0 (by omega) (by omega)
  have k2 := hS.2.2.2.2.2.2.2.1 2 (by omega) (by omega)
  have k4 := hS.2.2.2.2.2.2.2.1 4 (by omega) (by omega)
  rw [← a6] at k0 k2 k4
  have hl74 := El_len hS
  have hil := (List.getElem?_eq_some_iff.mp he).1
  obtain ⟨g11, g12, g13⟩ := hn.2 i _ he
  have hm := El_mem hS (List.mem_of_getElem? he)
  simp only at g11 g12 g13 hm
  refine k_aln hK (q := 1)  dX1_passPrice_0 rfl (z := 22) rfl (k_gR hK (q := 4) (r := 10) dX1_passPrice_1 rfl rf_X1_34 rfl rfl (k_gR hK (q := 7) (r := 13) dX1_passPrice_4 rfl rf_X1_79 rfl rfl (k_iln hK (q := 8)  dX1_passPrice_7 rfl (z := (i : Nat)) rfl (k_ald hK (q := 9)  dX1_passPrice_8 rfl (y := M 13 (i : Nat)) rfl (by omega) rfl ?_))))
  rw [g13]
  refine k_aln hK (q := 10)  dX1_passPrice_9 rfl (z := 22) rfl (k_gR hK (q := 13) (r := 1) dX1_passPrice_10 rfl rf_X1_30 rfl rfl (k_gR hK (q := 16) (r := 6) dX1_passPrice_13 rfl rf_X1_93 rfl rfl (k_ic hK (q := 17)  dX1_passPrice_16 rfl (by decide) (k_ald hK (q := 18)  dX1_passPrice_17 rfl (y := M 6 2) rfl (by omega) rfl (k_add hK (q := 19)  dX1_passPrice_18 rfl (z := w + (M 6 2)) rfl (by omega) ?_)))))
  refine k_ir hK dX1_passPrice_19 rfl ?_
  exact ⟨by rw [← a6], rfl⟩

theorem lp_more {S : Sc} {pit : Int} {r1 : Int → Int} {n m : Nat} (h : n ≤ m) (hn : ∀ i : Nat, n ≤ i → i < m → ¬ thr S (i : Nat)) : lp S pit r1 m = lp S pit r1 n := by
  induction h with
  | refl => rfl
  | step hm ih =>
    rename_i m
    simp only [lp]
    rw [if_neg (hn m hm (by omega)), ih (fun i h1 h2 => hn i h1 (by omega))]

set_option maxRecDepth 20000 in
set_option maxHeartbeats 2000000 in
theorem weighT_a {d : Nat} {Q : Option ra_V → ra_M → Prop} {K : Nat → ra_L → List ra_V → ra_M → Prop} (hK : ra_Clo (Ex (d + 1)) m_X1_weighTaking cX1_weighTaking Q K) {S : Sc} (hS : okSc S) {M : ra_M} (hs : scC M = S) {e : Int} (hev : 0 ≤ e ∧ e < 120) {fi la : Int} (hth : ∀ n : Int, thr S n ↔ fi ≤ n ∧ n ≤ la) (hfl : 0 ≤ fi ∧ fi ≤ la + 1 ∧ la < S 0 0) (hlaS : la = (if S 0 2 ≠ -1 then S 0 3 else S 0 0 - 1)) (hr : ∀ j, pn S j → 0 ≤ M 23 ((e + 1) * 61 + j) ∧ M 23 ((e + 1) * 61 + j) ≤ 200000)
    (hX : ∀ z : Int, K 48 [some (vR 22), some (vI e), some (vI (lp S (M 8 e) (r23 M (e + 1)) (S 0 0).toNat)), some (vI z), none] [] M) :
    ∀ (m n : Nat) (lv : Int), (n : Int) + m = la + 1 → fi ≤ (n : Int) → lv = lp S (M 8 e) (r23 M (e + 1)) n → K 11 [some (vR 22), some (vI e), some (vI lv), some (vI (n : Nat)), none] [] M := by
  have hNV : NV = 1000000000 := rfl
  obtain ⟨e5, e6, e7, e8, e9⟩ := scC_e hs
  have hs0 := hS.1
  have hla : (if M 1 7 ≠ -1 then M 1 8 else M 1 5 - 1) = la := by rw [e5, e7, e8, hlaS]
  have k4 := hS.2.2.2.2.2.2.2.1 4 (by omega) (by omega)
  intro m
  induction m with
  | zero =>
    intro n lv hi hfi hlv
    refine k_iln hK (q := 12)  dX1_weighTaking_11 rfl (z := (n : Nat)) rfl (k_aln hK (q := 13)  dX1_weighTaking_12 rfl (z := 22) rfl (k_gR hK (q := 16) (r := 1) dX1_weighTaking_13 rfl rf_X1_30 rfl rfl ?_))
    refine k_iv0I hK (q := 19) dX1_weighTaking_16 rfl rm_X1_101 rfl rfl (Nat.le_of_ble_eq_true rfl) (t_lastThere _ M (by omega)) ?_
    rw [hla]
    refine k_cgt hK (q := 22) (t := 48) dX1_weighTaking_19 rfl rfl (fun h19 => ?_) (fun h19 => ?_)
    · rw [hlv, ← lp_more (n := n) (m := (S 0 0).toNat) (by omega) (fun i h1 h2 q => by have := (hth (i : Nat)).mp q; omega)]
      exact hX _
    · exact absurd h19 (by omega)
  | succ m ih =>
    intro n lv hi hfi hlv
    have hrn := hr ((n : Nat) + 1) ⟨by omega, by omega⟩
    rw [show (e + 1) * 61 + ((n : Nat) + 1 : Int) = (e + 1) * 61 + (n : Nat) + 1 by omega] at hrn
    refine k_iln hK (q := 12)  dX1_weighTaking_11 rfl (z := (n : Nat)) rfl (k_aln hK (q := 13)  dX1_weighTaking_12 rfl (z := 22) rfl (k_gR hK (q := 16) (r := 1) dX1_weighTaking_13 rfl rf_X1_30 rfl rfl ?_))
    refine k_iv0I hK (q := 19) dX1_weighTaking_16 rfl rm_X1_101 rfl rfl (Nat.le_of_ble_eq_true rfl) (t_lastThere _ M (by omega)) ?_
    rw [hla]
    refine k_cgt hK (q := 22) (t := 48) dX1_weighTaking_19 rfl rfl (fun h19 => ?_) (fun h19 => ?_)
    · exact absurd h19 (by omega)
    · refine k_iln hK (q := 23)  dX1_weighTaking_22 rfl (z := lv) rfl (k_aln hK (q := 24)  dX1_weighTaking_23 rfl (z := 22) rfl (k_iln hK (q := 25)  dX1_weighTaking_24 rfl (z := (n : Nat)) rfl (k_iln hK (q := 26)  dX1_weighTaking_25 rfl (z := e) rfl ?_)))
      refine k_iv2I hK (q := 29) dX1_weighTaking_26 rfl rm_X1_104 rfl rfl (Nat.le_of_ble_eq_true rfl) (xc_leapPrice _ M (n : Nat) e S hs hS (by omega) hev) ?_
      have hw := wr_in hS (n : Nat) (M 8 e)
      refine k_aln hK (q := 30)  dX1_weighTaking_29 rfl (z := 22) rfl (k_iln hK (q := 31)  dX1_weighTaking_30 rfl (z := e) rfl (k_ic hK (q := 32)  dX1_weighTaking_31 rfl (by decide) (k_add hK (q := 33)  dX1_weighTaking_32 rfl (z := e + 1) rfl (by omega) (k_iln hK (q := 34)  dX1_weighTaking_33 rfl (z := (n : Nat)) rfl ?_))))
      refine k_iv2I hK (q := 37) dX1_weighTaking_34 rfl rm_X1_60 rfl rfl (Nat.le_of_ble_eq_true rfl) (xc_restAt _ M (e + 1) (n : Nat) (by omega) (by omega)) ?_
      refine k_add hK (q := 38)  dX1_weighTaking_37 rfl (z := (S 5 4 + wr S (n : Nat) (M 8 e)) + (M 23 ((e + 1) * 61 + (n : Nat) + 1))) rfl (by omega) ?_
      refine k_st2I hK (q := 41) dX1_weighTaking_38 rfl rm_X1_74 (Nat.le_of_ble_eq_true rfl) (t_min _ M lv ((S 5 4 + wr S (n : Nat) (M 8 e)) + (M 23 ((e + 1) * 61 + (n : Nat) + 1)))) ?_
      refine k_isn hK (q := 42)  dX1_weighTaking_41 rfl (L2 := [some (vR 22), some (vI e), some (vI (min lv ((S 5 4 + wr S (n : Nat) (M 8 e)) + (M 23 ((e + 1) * 61 + (n : Nat) + 1))))), some (vI (n : Nat)), none]) (Nat.le_of_ble_eq_true rfl) rfl (k_inc hK (q := 45)  dX1_weighTaking_42 rfl (y := (n : Nat) + 1) (L2 := [some (vR 22), some (vI e), some (vI (min lv ((S 5 4 + wr S (n : Nat) (M 8 e)) + (M 23 ((e + 1) * 61 + (n : Nat) + 1))))), some (vI ((n : Nat) + 1)), none]) rfl rfl (by omega) rfl (k_goto hK (t := 11) dX1_weighTaking_45 rfl ?_))
      refine ih (n + 1) _ (by omega) (by omega) ?_
      simp only [lp]
      rw [if_pos ((hth (n : Nat)).mpr (by omega)), hlv]
      unfold r23
      rw [show (e + 1) * 61 + ((n : Nat) + 1 : Int) = (e + 1) * 61 + (n : Nat) + 1 by omega]

set_option maxRecDepth 20000 in
set_option maxHeartbeats 2000000 in
theorem weighT_b {d : Nat} {Q : Option ra_V → ra_M → Prop} {K : Nat → ra_L → List ra_V → ra_M → Prop} (hK : ra_Clo (Ex d) m_X1_weighTaking cX1_weighTaking Q K) {S : Sc} (hS : okSc S) {M0 : ra_M} {e lv : Int} (hev : 0 ≤ e ∧ e < 120) (hr : ∀ j, pn S j → 0 ≤ M0 23 ((e + 1) * 61 + j) ∧ M0 23 ((e + 1) * 61 + j) ≤ 200000)
    (hX : ∀ M : ra_M, scC M = S → (∀ t : Nat, t ≤ (S 0 0).toNat → M 23 (e * 61 + (t : Nat)) = min lv (S 5 1 + r23 M0 (e + 1) (t : Nat))) → off3 (e * 61) M0 M → frX [23] M0 M → ∀ z, K 106 [some (vR 22), some (vI e), some (vI lv), some (vI z), none] [] M) :
    ∀ (n i : Nat) (M : ra_M) (pl : Int), i + n = (S 0 0).toNat + 1 → pl = (i : Int) - 1 → scC M = S → (∀ t : Nat, t < i → M 23 (e * 61 + (t : Nat)) = min lv (S 5 1 + r23 M0 (e + 1) (t : Nat))) → off3 (e * 61) M0 M → frX [23] M0 M → K 50 [some (vR 22), some (vI e), some (vI lv), some (vI pl), none] [] M := by
  have hs0 := hS.1
  intro n
  induction n with
  | zero =>
    intro i M pl hi hpl hs hc ho hf
    obtain ⟨e5, e6, e7, e8, e9⟩ := scC_e hs
    refine k_iln hK (q := 51)  dX1_weighTaking_50 rfl (z := pl) rfl (k_aln hK (q := 52)  dX1_weighTaking_51 rfl (z := 22) rfl (k_gR hK (q := 55) (r := 1) dX1_weighTaking_52 rfl rf_X1_30 rfl rfl (k_gI hK (q := 58) (z := M 1 5) 0 dX1_weighTaking_55 rfl rf_X1_42 rfl rfl rfl rfl ?_)))
    refine k_cge hK (q := 61) (t := 106) dX1_weighTaking_58 rfl rfl (fun h58 => ?_) (fun h58 => ?_)
    · exact hX M hs (fun t ht => hc t (by omega)) ho hf _
    · exact absurd h58 (by omega)
  | succ n ih =>
    intro i M pl hi hpl hs hc ho hf
    obtain ⟨e5, e6, e7, e8, e9⟩ := scC_e hs
    obtain ⟨a2, a3, a4, a5, a6⟩ := scC_a hs
    have k1 := hS.2.2.2.2.2.2.2.1 1 (by omega) (by omega)
    rw [← a6] at k1
    have hrn := hr (pl + 1) ⟨by omega, by omega⟩
    rw [show (e + 1) * 61 + (pl + 1) = (e + 1) * 61 + pl + 1 by omega, ← ho _ (by omega)] at hrn
    refine k_iln hK (q := 51)  dX1_weighTaking_50 rfl (z := pl) rfl (k_aln hK (q := 52)  dX1_weighTaking_51 rfl (z := 22) rfl (k_gR hK (q := 55) (r := 1) dX1_weighTaking_52 rfl rf_X1_30 rfl rfl (k_gI hK (q := 58) (z := M 1 5) 0 dX1_weighTaking_55 rfl rf_X1_42 rfl rfl rfl rfl ?_)))
    refine k_cge hK (q := 61) (t := 106) dX1_weighTaking_58 rfl rfl (fun h58 => ?_) (fun h58 => ?_)
    · exact absurd h58 (by omega)
    · refine k_aln hK (q := 62)  dX1_weighTaking_61 rfl (z := 22) rfl (k_gR hK (q := 65) (r := 1) dX1_weighTaking_62 rfl rf_X1_30 rfl rfl (k_gR hK (q := 68) (r := 6) dX1_weighTaking_65 rfl rf_X1_93 rfl rfl (k_ic hK (q := 69)  dX1_weighTaking_68 rfl (by decide) (k_ald hK (q := 70)  dX1_weighTaking_69 rfl (y := M 6 1) rfl (by omega) rfl (k_aln hK (q := 71)  dX1_weighTaking_70 rfl (z := 22) rfl ?_)))))
      refine k_iln hK (q := 72)  dX1_weighTaking_71 rfl (z := e) rfl (k_ic hK (q := 73)  dX1_weighTaking_72 rfl (by decide) (k_add hK (q := 74)  dX1_weighTaking_73 rfl (z := e + 1) rfl (by omega) (k_iln hK (q := 75)  dX1_weighTaking_74 rfl (z := pl) rfl ?_)))
      refine k_iv2I hK (q := 78) dX1_weighTaking_75 rfl rm_X1_60 rfl rfl (Nat.le_of_ble_eq_true rfl) (xc_restAt _ M (e + 1) pl (by omega) (by omega)) ?_
      refine k_add hK (q := 79)  dX1_weighTaking_78 rfl (z := (M 6 1) + (M 23 ((e + 1) * 61 + pl + 1))) rfl (by omega) (k_is hK (q := 81)  dX1_weighTaking_79 rfl (L2 := [some (vR 22), some (vI e), some (vI lv), some (vI pl), some (vI ((M 6 1) + (M 23 ((e + 1) * 61 + pl + 1))))]) (Nat.le_of_ble_eq_true rfl) rfl (k_aln hK (q := 82)  dX1_weighTaking_81 rfl (z := 22) rfl (k_gR hK (q := 85) (r := 23) dX1_weighTaking_82 rfl rf_X1_9 rfl rfl (k_iln hK (q := 86)  dX1_weighTaking_85 rfl (z := e) rfl (k_bp hK (q := 88)  dX1_weighTaking_86 rfl (by decide) ?_)))))
      refine k_mul hK (q := 89)  dX1_weighTaking_88 rfl (z := e * 61) rfl (by omega) (k_iln hK (q := 90)  dX1_weighTaking_89 rfl (z := pl) rfl (k_add hK (q := 91)  dX1_weighTaking_90 rfl (z := (e * 61) + pl) rfl (by omega) (k_ic hK (q := 92)  dX1_weighTaking_91 rfl (by decide) (k_add hK (q := 93)  dX1_weighTaking_92 rfl (z := ((e * 61) + pl) + 1) rfl (by omega) (k_iln hK (q := 94)  dX1_weighTaking_93 rfl (z := lv) rfl ?_)))))
      refine k_il hK (q := 96)  dX1_weighTaking_94 rfl (z := ((M 6 1) + (M 23 ((e + 1) * 61 + pl + 1)))) rfl ?_
      refine k_st2I hK (q := 99) dX1_weighTaking_96 rfl rm_X1_74 (Nat.le_of_ble_eq_true rfl) (t_min _ M lv ((M 6 1) + (M 23 ((e + 1) * 61 + pl + 1)))) ?_
      refine k_ast hK (q := 100)  dX1_weighTaking_99 rfl rfl (by omega) (k_inc hK (q := 103)  dX1_weighTaking_100 rfl (y := pl + 1) (L2 := [some (vR 22), some (vI e), some (vI lv), some (vI (pl + 1)), some (vI ((M 6 1) + (M 23 ((e + 1) * 61 + pl + 1))))]) rfl rfl (by omega) rfl (k_goto hK (t := 50) dX1_weighTaking_103 rfl ?_))
      refine k_weak hK (L2 := [some (vR 22), some (vI e), some (vI lv), some (vI (pl + 1)), none]) ⟨Or.inl rfl, Or.inl rfl, Or.inl rfl, Or.inl rfl, Or.inr rfl, trivial⟩ ?_
      refine ih (i + 1) _ (pl + 1) (by omega) (by omega) (by rw [scC_fr (M := M) (frX_S (l := [23]) (frX_up (frX_refl _ _) _ _ (by decide)) (by decide))]; exact hs) (fun t ht => ?_) (off3_up ho (by omega)) (frX_up hf _ _ (by decide))
      by_cases h : t = i
      · subst h
        rw [show e * 61 + (t : Nat) = e * 61 + pl + 1 by omega, up_same, ho _ (by omega), a6]
        unfold r23
        rw [show (e + 1) * 61 + (t : Nat) = (e + 1) * 61 + pl + 1 by omega]
      · rw [up_j _ _ (by omega)]
        exact hc t (by omega)

set_option maxRecDepth 20000 in
set_option maxHeartbeats 2000000 in
theorem weighT_c {d : Nat} {Q : Option ra_V → ra_M → Prop} {K : Nat → ra_L → List ra_V → ra_M → Prop} (hK : ra_Clo (Ex (d + 1)) m_X1_weighTaking cX1_weighTaking Q K) {S : Sc} (hS : okSc S) {M0 : ra_M} {e lv : Int} {t0 : Int → Int} (hev : 0 ≤ e ∧ e < 120) (hr : ∀ j, pn S j → 0 ≤ M0 23 ((e + 1) * 61 + j) ∧ M0 23 ((e + 1) * 61 + j) ≤ 200000)
    (hQ : ∀ (M : ra_M), r23 M e = bw2 S (M0 8 e) (r23 M0 (e + 1)) (El S) t0 → off3 (e * 61) M0 M → frX [23] M0 M → Q none M) :
    ∀ (n i : Nat) (M : ra_M), i + n = (El S).length → scC M = S → NxL M (El S) → r23 M e = bw2 S (M0 8 e) (r23 M0 (e + 1)) ((El S).take i) t0 → off3 (e * 61) M0 M → frX [23] M0 M → K 108 [some (vR 22), some (vI e), some (vI lv), some (vI (i : Nat)), none] [] M := by
  intro n
  induction n with
  | zero =>
    intro i M hi hs hn ht ho hf
    have en := hn.1
    have hl74 := El_len hS
    refine k_iln hK (q := 109)  dX1_weighTaking_108 rfl (z := (i : Nat)) rfl (k_aln hK (q := 110)  dX1_weighTaking_109 rfl (z := 22) rfl (k_gR hK (q := 113) (r := 10) dX1_weighTaking_110 rfl rf_X1_34 rfl rfl (k_gI hK (q := 116) (z := M 10 5) 0 dX1_weighTaking_113 rfl rf_X1_107 rfl rfl rfl rfl ?_)))
    refine k_cge hK (q := 119) (t := 166) dX1_weighTaking_116 rfl rfl (fun h116 => ?_) (fun h116 => ?_)
    · refine k_vr hK dX1_weighTaking_166 rfl ?_
      have hi2 : (El S).take i = El S := List.take_of_length_le (by omega)
      rw [hi2] at ht
      exact hQ M ht ho hf
    · exact absurd h116 (by omega)
  | succ n ih =>
    intro i M hi hs hn ht ho hf
    have en := hn.1
    have hl74 := El_len hS
    have hs0 := hS.1
    have h8 : M 8 e = M0 8 e := by rw [hf 8 (by decide)]
    obtain ⟨⟨x, y, w⟩, he⟩ : ∃ e : Eg, (El S)[i]? = some e := ⟨_, List.getElem?_eq_getElem (by omega)⟩
    obtain ⟨g11, g12, g13⟩ := hn.2 i _ he
    have hm := El_mem hS (List.mem_of_getElem? he)
    simp only at g11 g12 g13 hm
    have hry := hr (y + 1) ⟨by omega, by omega⟩
    rw [show (e + 1) * 61 + (y + 1) = (e + 1) * 61 + y + 1 by omega, ← ho _ (by omega)] at hry
    refine k_iln hK (q := 109)  dX1_weighTaking_108 rfl (z := (i : Nat)) rfl (k_aln hK (q := 110)  dX1_weighTaking_109 rfl (z := 22) rfl (k_gR hK (q := 113) (r := 10) dX1_weighTaking_110 rfl rf_X1_34 rfl rfl (k_gI hK (q := 116) (z := M 10 5) 0 dX1_weighTaking_113 rfl rf_X1_107 rfl rfl rfl rfl ?_)))
    refine k_cge hK (q := 119) (t := 166) dX1_weighTaking_116 rfl rfl (fun h116 => ?_) (fun h116 => ?_)
    · exact absurd h116 (by omega)
    · refine k_aln hK (q := 120)  dX1_weighTaking_119 rfl (z := 22) rfl (k_iln hK (q := 121)  dX1_weighTaking_120 rfl (z := (i : Nat)) rfl (k_iln hK (q := 122)  dX1_weighTaking_121 rfl (z := e) rfl ?_))
      refine k_iv2I hK (q := 125) dX1_weighTaking_122 rfl rm_X1_108 rfl rfl (Nat.le_of_ble_eq_true rfl) (xc_playPrice _ M e S hs hS i x y w hn he hev) ?_
      have hw := wr_in hS y (M 8 e)
      refine k_aln hK (q := 126)  dX1_weighTaking_125 rfl (z := 22) rfl (k_iln hK (q := 127)  dX1_weighTaking_126 rfl (z := e) rfl (k_ic hK (q := 128)  dX1_weighTaking_127 rfl (by decide) (k_add hK (q := 129)  dX1_weighTaking_128 rfl (z := e + 1) rfl (by omega) (k_aln hK (q := 130)  dX1_weighTaking_129 rfl (z := 22) rfl (k_gR hK (q := 133) (r := 10) dX1_weighTaking_130 rfl rf_X1_34 rfl rfl ?_)))))
      refine k_gR hK (q := 136) (r := 12) dX1_weighTaking_133 rfl rf_X1_84 rfl rfl (k_iln hK (q := 137)  dX1_weighTaking_136 rfl (z := (i : Nat)) rfl (k_ald hK (q := 138)  dX1_weighTaking_137 rfl (y := M 12 (i : Nat)) rfl (by omega) rfl ?_))
      rw [g12]
      refine k_iv2I hK (q := 141) dX1_weighTaking_138 rfl rm_X1_60 rfl rfl (Nat.le_of_ble_eq_true rfl) (xc_restAt _ M (e + 1) y (by omega) (by omega)) ?_
      refine k_add hK (q := 142)  dX1_weighTaking_141 rfl (z := (w + wr S y (M 8 e)) + (M 23 ((e + 1) * 61 + y + 1))) rfl (by omega) (k_is hK (q := 144)  dX1_weighTaking_142 rfl (L2 := [some (vR 22), some (vI e), some (vI lv), some (vI (i : Nat)), some (vI ((w + wr S y (M 8 e)) + (M 23 ((e + 1) * 61 + y + 1))))]) (Nat.le_of_ble_eq_true rfl) rfl (k_aln hK (q := 145)  dX1_weighTaking_144 rfl (z := 22) rfl (k_iln hK (q := 146)  dX1_weighTaking_145 rfl (z := e) rfl (k_aln hK (q := 147)  dX1_weighTaking_146 rfl (z := 22) rfl (k_gR hK (q := 150) (r := 10) dX1_weighTaking_147 rfl rf_X1_34 rfl rfl ?_)))))
      refine k_gR hK (q := 153) (r := 11) dX1_weighTaking_150 rfl rf_X1_111 rfl rfl (k_iln hK (q := 154)  dX1_weighTaking_153 rfl (z := (i : Nat)) rfl (k_ald hK (q := 155)  dX1_weighTaking_154 rfl (y := M 11 (i : Nat)) rfl (by omega) rfl ?_))
      rw [g11]
      refine k_il hK (q := 157)  dX1_weighTaking_155 rfl (z := ((w + wr S y (M 8 e)) + (M 23 ((e + 1) * 61 + y + 1)))) rfl ?_
      refine k_iv3V hK (q := 160) dX1_weighTaking_157 rfl rm_X1_114 rfl rfl (Nat.le_of_ble_eq_true rfl) (xc_lowerRest _ M e x ((w + wr S y (M 8 e)) + (M 23 ((e + 1) * 61 + y + 1))) (by omega) (by omega)) ?_
      refine k_inc hK (q := 163)  dX1_weighTaking_160 rfl (y := (i : Nat) + 1) (L2 := [some (vR 22), some (vI e), some (vI lv), some (vI ((i : Nat) + 1)), some (vI ((w + wr S y (M 8 e)) + (M 23 ((e + 1) * 61 + y + 1))))]) rfl rfl (by omega) rfl (k_goto hK (t := 108) dX1_weighTaking_163 rfl ?_)
      refine k_weak hK (L2 := [some (vR 22), some (vI e), some (vI lv), some (vI ((i : Nat) + 1)), none]) ⟨Or.inl rfl, Or.inl rfl, Or.inl rfl, Or.inl rfl, Or.inr rfl, trivial⟩ ?_
      have hfu : frX [23] M (up M 23 (e * 61 + x + 1) (min (M 23 (e * 61 + x + 1)) ((w + wr S y (M 8 e)) + (M 23 ((e + 1) * 61 + y + 1))))) := frX_up (frX_refl _ _) _ _ (by decide)
      refine ih (i + 1) _ (by omega) (by rw [scC_fr (M := M) (frX_S hfu (by decide))]; exact hs) (NxL_fr hn (hfu 10 (by decide)) (hfu 11 (by decide)) (hfu 12 (by decide)) (hfu 13 (by decide))) ?_ (off3_up ho (by omega)) (frX_up hf _ _ (by decide))
      rw [r23_lw, ht, bw2_take he]
      simp only
      congr 1
      rw [h8, ho _ (by omega)]
      unfold r23
      rw [show (e + 1) * 61 + (y + 1) = (e + 1) * 61 + y + 1 by omega]

set_option maxRecDepth 20000 in
set_option maxHeartbeats 2000000 in
theorem xc_weighT (d : Nat) (M : ra_M) (e : Int) (S : Sc) (hs : scC M = S) (hS : okSc S) (hn : NxL M (El S)) (hev : 0 ≤ e ∧ e < 120) (hr : ∀ j, pn S j → 0 ≤ M 23 ((e + 1) * 61 + j) ∧ M 23 ((e + 1) * 61 + j) ≤ 200000) : Ex (d + 2) m_X1_weighTaking [vR 22, vI e] M (fun r M2 => r = none ∧ (∀ j, pn S j → M2 23 (e * 61 + j) = bw S (M 8 e) (r23 M (e + 1)) j) ∧ off3 (e * 61) M M2 ∧ frX [23] M M2) := by
  refine Ex_call (Nat.le_of_ble_eq_true rfl) (fun K hK => ?_)
  show K 0 [some (vR 22), some (vI e), none, none, none] [] M
  have hK : ra_Clo _ m_X1_weighTaking cX1_weighTaking _ K := hK
  have hs0 := hS.1
  have hs2 := hS.2.2.1
  obtain ⟨e5, e6, e7, e8, e9⟩ := scC_e hs
  obtain ⟨LV, hLVe⟩ : ∃ z, z = lp S (M 8 e) (r23 M (e + 1)) (S 0 0).toNat := ⟨_, rfl⟩
  obtain ⟨fi, hfie⟩ : ∃ z, z = (if S 0 2 ≠ -1 then S 0 2 else 0) := ⟨_, rfl⟩
  obtain ⟨la, hla⟩ : ∃ z, z = (if S 0 2 ≠ -1 then S 0 3 else S 0 0 - 1) := ⟨_, rfl⟩
  have hth : ∀ n : Int, thr S n ↔ fi ≤ n ∧ n ≤ la := by
    intro n
    have := thr_C hs hS n
    rw [e5, e7, e8, ← hfie, ← hla] at this
    exact this.symm
  have hfl : 0 ≤ fi ∧ fi ≤ la + 1 ∧ la < S 0 0 := by
    split at hfie <;> split at hla <;> omega
  have J106 : ∀ M1 : ra_M, scC M1 = S → (∀ t : Nat, t ≤ (S 0 0).toNat → M1 23 (e * 61 + (t : Nat)) = min LV (S 5 1 + r23 M (e + 1) (t : Nat))) → off3 (e * 61) M M1 → frX [23] M M1 → ∀ z, K 106 [some (vR 22), some (vI e), some (vI LV), some (vI z), none] [] M1 := by
    intro M1 hs1 hc1 ho1 hf1 z
    refine k_ic hK (q := 107)  dX1_weighTaking_106 rfl (by decide) (k_isn hK (q := 108)  dX1_weighTaking_107 rfl (L2 := [some (vR 22), some (vI e), some (vI LV), some (vI 0), none]) (Nat.le_of_ble_eq_true rfl) rfl ?_)
    refine weighT_c hK hS (M0 := M) (lv := LV) (t0 := r23 M1 e) hev hr (fun M2 h1 h2 h3 => ⟨rfl, fun j hj => ?_, h2, h3⟩) (El S).length 0 M1 (by omega) hs1 (NxL_fr hn (hf1 10 (by decide)) (hf1 11 (by decide)) (hf1 12 (by decide)) (hf1 13 (by decide))) rfl ho1 hf1
    have h9 : r23 M2 e j = _ := congrFun h1 j
    unfold r23 at h9
    rw [h9]
    unfold bw
    rw [← hLVe]
    exact bw2_congP (P := pn S) (El S) (fun f hf => (El_pn hS f hf).2) (fun _ _ => rfl) _ _ (fun j hj => by have := hc1 j.toNat (by omega); rw [show ((j.toNat : Nat) : Int) = j by omega] at this; exact this) j hj
  have J48 : ∀ z : Int, K 48 [some (vR 22), some (vI e), some (vI LV), some (vI z), none] [] M := by
    intro z
    refine k_ic hK (q := 49)  dX1_weighTaking_48 rfl (by decide) (k_isn hK (q := 50)  dX1_weighTaking_49 rfl (L2 := [some (vR 22), some (vI e), some (vI LV), some (vI (-1)), none]) (Nat.le_of_ble_eq_true rfl) rfl ?_)
    exact weighT_b hK hS (M0 := M) (lv := LV) hev hr J106 ((S 0 0).toNat + 1) 0 M (-1) (by omega) (by omega) hs (fun t ht => by omega) (fun z hz => rfl) (frX_refl _ _)
  refine k_ldc hK (q := 2)  dX1_weighTaking_0 rfl rc_X1_96 (k_isn hK (q := 3)  dX1_weighTaking_2 rfl (L2 := [some (vR 22), some (vI e), some (vI 1000000000), none, none]) (Nat.le_of_ble_eq_true rfl) rfl (k_aln hK (q := 4)  dX1_weighTaking_3 rfl (z := 22) rfl (k_gR hK (q := 7) (r := 1) dX1_weighTaking_4 rfl rf_X1_30 rfl rfl ?_)))
  refine k_iv0I hK (q := 10) dX1_weighTaking_7 rfl rm_X1_97 rfl rfl (Nat.le_of_ble_eq_true rfl) (t_firstThere _ M) ?_
  have hfi : (if M 1 7 ≠ -1 then M 1 7 else 0) = ((fi.toNat : Nat) : Int) := by rw [e7]; omega
  rw [hfi]
  refine k_isn hK (q := 11)  dX1_weighTaking_10 rfl (L2 := [some (vR 22), some (vI e), some (vI 1000000000), some (vI (fi.toNat : Nat)), none]) (Nat.le_of_ble_eq_true rfl) rfl ?_
  rw [hLVe] at J48
  exact weighT_a hK hS hs hev hth hfl hla hr J48 (la + 1 - fi).toNat fi.toNat NV (by omega) (by omega) (lp_more (n := 0) (m := fi.toNat) (by omega) (fun i h1 h2 q => by have := (hth (i : Nat)).mp q; omega)).symm
end
section
theorem lo1_lw (c : Int → Int) (e : Eg) : lo1 c e = lw c (e.2.1 + 1) (c (e.1 + 1) + e.2.2) := by
  funext j
  unfold lo1 lw
  split
  next h =>
    simp only
    split
    next hj => subst hj; omega
    next => rfl
  next h =>
    split
    next hj => subst hj; omega
    next => rfl
theorem bk_pn {S : Sc} (hS : okSc S) : ∀ e ∈ ((El S).reverse.map (bk S)), pn S (e.1 + 1) ∧ pn S (e.2.1 + 1) := by
  intro e he
  obtain ⟨f, hf, rfl⟩ := List.mem_map.mp he
  have := El_pn hS f (List.mem_reverse.mp hf)
  exact ⟨this.2, this.1⟩
theorem bk_nn {S : Sc} (hS : okSc S) : ∀ e ∈ ((El S).reverse.map (bk S)), 0 ≤ e.2.2 := by
  intro e he
  have := (bkE_ok hS (fun f hf => Eu_sub S _ f (List.mem_reverse.mp hf)) e he).2.2
  omega

set_option maxRecDepth 20000 in
set_option maxHeartbeats 2000000 in
theorem weighP_in {d : Nat} {Q : Option ra_V → ra_M → Prop} {K : Nat → ra_L → List ra_V → ra_M → Prop} (hK : ra_Clo (Ex (d + 1)) m_X1_weighPassing cX1_weighPassing Q K) {S : Sc} (hS : okSc S) {M0 : ra_M} {e r : Int} {c0 : Int → Int} (hev : 0 ≤ e ∧ e < 120)
    (hX : ∀ (M : ra_M) (ch z : Int), scC M = S → (ch = 0 ∨ ch = 1) → NxL M (El S) → r23 M e = rnd ((El S).reverse.map (bk S)) c0 → off3 (e * 61) M0 M → frX [23] M0 M → (ch = 0 → r23 M e = c0) → (∀ j, pn S j → 0 ≤ M 23 (e * 61 + j) ∧ M 23 (e * 61 + j) ≤ 200000) → K 101 [some (vR 22), some (vI e), some (vI ch), some (vI r), some (vI z), none] [] M) :
    ∀ (m : Nat) (M : ra_M) (ch z : Int), m ≤ (El S).length → z = (m : Int) - 1 → scC M = S → (ch = 0 ∨ ch = 1) → NxL M (El S) → r23 M e = rnd (((El S).reverse.map (bk S)).take ((El S).length - m)) c0 → off3 (e * 61) M0 M → frX [23] M0 M → (ch = 0 → r23 M e = c0) → (∀ j, pn S j → 0 ≤ M 23 (e * 61 + j) ∧ M 23 (e * 61 + j) ≤ 200000) → K 27 [some (vR 22), some (vI e), some (vI ch), some (vI r), some (vI z), none] [] M := by
  have hs0 := hS.1
  have hl74 := El_len hS
  intro m
  induction m with
  | zero =>
    intro M ch z hi hz hs hch hn hc ho hf h0 hr
    have en := hn.1
    refine k_il hK (q := 29)  dX1_weighPassing_27 rfl (z := z) rfl ?_
    refine k_iflt hK (q := 32) (t := 101) dX1_weighPassing_29 rfl rfl (fun h29 => ?_) (fun h29 => ?_)
    · have hi2 : (((El S).reverse.map (bk S))).take ((El S).length - 0) = ((El S).reverse.map (bk S)) := List.take_of_length_le (by simp)
      rw [hi2] at hc
      exact hX M ch _ hs hch hn hc ho hf h0 hr
    · exact absurd h29 (by omega)
  | succ m ih =>
    intro M ch z hi hz hs hch hn hc ho hf h0 hr
    have en := hn.1
    obtain ⟨⟨x, y, w⟩, he⟩ : ∃ f : Eg, (El S)[m]? = some f := ⟨_, List.getElem?_eq_getElem (by omega)⟩
    obtain ⟨g11, g12, g13⟩ := hn.2 m _ he
    have hm := El_mem hS (List.mem_of_getElem? he)
    simp only at g11 g12 g13 hm
    have k2 := hS.2.2.2.2.2.2.2.1 2 (by omega) (by omega)
    have htk : (El S).length - m = (El S).length - (m + 1) + 1 := by omega
    have hE : ((El S).reverse.map (bk S))[(El S).length - (m + 1)]? = some (bk S (x, y, w)) := by
      rw [List.getElem?_map, List.getElem?_reverse (by omega), show (El S).length - 1 - ((El S).length - (m + 1)) = m by omega, he]
      rfl
    have hrx := hr (x + 1) ⟨by omega, by omega⟩
    rw [show e * 61 + (x + 1) = e * 61 + x + 1 by omega] at hrx
    have hry := hr (y + 1) ⟨by omega, by omega⟩
    rw [show e * 61 + (y + 1) = e * 61 + y + 1 by omega] at hry
    have hz2 : z = (m : Nat) := by omega
    subst hz2
    refine k_il hK (q := 29)  dX1_weighPassing_27 rfl (z := (m : Nat)) rfl ?_
    refine k_iflt hK (q := 32) (t := 101) dX1_weighPassing_29 rfl rfl (fun h29 => ?_) (fun h29 => ?_)
    · exact absurd h29 (by omega)
    · refine k_aln hK (q := 33)  dX1_weighPassing_32 rfl (z := 22) rfl (k_il hK (q := 35)  dX1_weighPassing_33 rfl (z := (m : Nat)) rfl ?_)
      refine k_iv1I hK (q := 38) dX1_weighPassing_35 rfl rm_X1_118 rfl rfl (Nat.le_of_ble_eq_true rfl) (xc_passPrice _ M S hs hS m x y w hn he) ?_
      refine k_aln hK (q := 39)  dX1_weighPassing_38 rfl (z := 22) rfl (k_iln hK (q := 40)  dX1_weighPassing_39 rfl (z := e) rfl (k_aln hK (q := 41)  dX1_weighPassing_40 rfl (z := 22) rfl (k_gR hK (q := 44) (r := 10) dX1_weighPassing_41 rfl rf_X1_34 rfl rfl (k_gR hK (q := 47) (r := 12) dX1_weighPassing_44 rfl rf_X1_84 rfl rfl (k_il hK (q := 49)  dX1_weighPassing_47 rfl (z := (m : Nat)) rfl ?_)))))
      refine k_ald hK (q := 50)  dX1_weighPassing_49 rfl (y := M 12 (m : Nat)) rfl (by omega) rfl ?_
      rw [g12]
      refine k_iv2I hK (q := 53) dX1_weighPassing_50 rfl rm_X1_60 rfl rfl (Nat.le_of_ble_eq_true rfl) (xc_restAt _ M e y (by omega) (by omega)) ?_
      refine k_add hK (q := 54)  dX1_weighPassing_53 rfl (z := (w + S 5 2) + (M 23 (e * 61 + y + 1))) rfl (by omega) (k_is hK (q := 56)  dX1_weighPassing_54 rfl (L2 := [some (vR 22), some (vI e), some (vI ch), some (vI r), some (vI (m : Nat)), some (vI ((w + S 5 2) + (M 23 (e * 61 + y + 1))))]) (Nat.le_of_ble_eq_true rfl) rfl (k_il hK (q := 58)  dX1_weighPassing_56 rfl (z := ((w + S 5 2) + (M 23 (e * 61 + y + 1)))) rfl (k_aln hK (q := 59)  dX1_weighPassing_58 rfl (z := 22) rfl (k_iln hK (q := 60)  dX1_weighPassing_59 rfl (z := e) rfl (k_aln hK (q := 61)  dX1_weighPassing_60 rfl (z := 22) rfl ?_)))))
      refine k_gR hK (q := 64) (r := 10) dX1_weighPassing_61 rfl rf_X1_34 rfl rfl (k_gR hK (q := 67) (r := 11) dX1_weighPassing_64 rfl rf_X1_111 rfl rfl (k_il hK (q := 69)  dX1_weighPassing_67 rfl (z := (m : Nat)) rfl (k_ald hK (q := 70)  dX1_weighPassing_69 rfl (y := M 11 (m : Nat)) rfl (by omega) rfl ?_)))
      rw [g11]
      refine k_iv2I hK (q := 73) dX1_weighPassing_70 rfl rm_X1_60 rfl rfl (Nat.le_of_ble_eq_true rfl) (xc_restAt _ M e x (by omega) (by omega)) ?_
      refine k_cge hK (q := 76) (t := 95) dX1_weighPassing_73 rfl rfl (fun h73 => ?_) (fun h73 => ?_)
      · refine k_inc hK (q := 98)  dX1_weighPassing_95 rfl (y := (m : Nat) + (-1)) (L2 := [some (vR 22), some (vI e), some (vI ch), some (vI r), some (vI ((m : Nat) + (-1))), some (vI ((w + S 5 2) + (M 23 (e * 61 + y + 1))))]) rfl rfl (by omega) rfl (k_goto hK (t := 27) dX1_weighPassing_98 rfl ?_)
        refine k_weak hK (L2 := [some (vR 22), some (vI e), some (vI ch), some (vI r), some (vI ((m : Nat) + (-1))), none]) ⟨Or.inl rfl, Or.inl rfl, Or.inl rfl, Or.inl rfl, Or.inl rfl, Or.inr rfl, trivial⟩ ?_
        have hno : lo1 (r23 M e) (bk S (x, y, w)) = r23 M e := by
          refine lo1_no (v := w + S 5 2 + M 23 (e * 61 + y + 1)) ?_ ?_
          · simp only [bk]
            unfold r23
            rw [show e * 61 + (y + 1) = e * 61 + y + 1 by omega]
            omega
          · simp only [bk]
            unfold r23
            rw [show e * 61 + (x + 1) = e * 61 + x + 1 by omega]
            omega
        exact ih M ch _ (by omega) (by omega) hs hch hn (by rw [htk, rnd_take hE, ← hc, hno]) ho hf h0 hr
      · refine k_aln hK (q := 77)  dX1_weighPassing_76 rfl (z := 22) rfl (k_iln hK (q := 78)  dX1_weighPassing_77 rfl (z := e) rfl (k_aln hK (q := 79)  dX1_weighPassing_78 rfl (z := 22) rfl (k_gR hK (q := 82) (r := 10) dX1_weighPassing_79 rfl rf_X1_34 rfl rfl (k_gR hK (q := 85) (r := 11) dX1_weighPassing_82 rfl rf_X1_111 rfl rfl (k_il hK (q := 87)  dX1_weighPassing_85 rfl (z := (m : Nat)) rfl ?_)))))
        refine k_ald hK (q := 88)  dX1_weighPassing_87 rfl (y := M 11 (m : Nat)) rfl (by omega) rfl ?_
        rw [g11]
        refine k_il hK (q := 90)  dX1_weighPassing_88 rfl (z := ((w + S 5 2) + (M 23 (e * 61 + y + 1)))) rfl ?_
        refine k_iv3V hK (q := 93) dX1_weighPassing_90 rfl rm_X1_114 rfl rfl (Nat.le_of_ble_eq_true rfl) (xc_lowerRest _ M e x ((w + S 5 2) + (M 23 (e * 61 + y + 1))) (by omega) (by omega)) ?_
        refine k_ic hK (q := 94)  dX1_weighPassing_93 rfl (by decide) (k_isn hK (q := 95)  dX1_weighPassing_94 rfl (L2 := [some (vR 22), some (vI e), some (vI 1), some (vI r), some (vI (m : Nat)), some (vI ((w + S 5 2) + (M 23 (e * 61 + y + 1))))]) (Nat.le_of_ble_eq_true rfl) rfl (k_inc hK (q := 98)  dX1_weighPassing_95 rfl (y := (m : Nat) + (-1)) (L2 := [some (vR 22), some (vI e), some (vI 1), some (vI r), some (vI ((m : Nat) + (-1))), some (vI ((w + S 5 2) + (M 23 (e * 61 + y + 1))))]) rfl rfl (by omega) rfl (k_goto hK (t := 27) dX1_weighPassing_98 rfl ?_)))
        refine k_weak hK (L2 := [some (vR 22), some (vI e), some (vI 1), some (vI r), some (vI ((m : Nat) + (-1))), none]) ⟨Or.inl rfl, Or.inl rfl, Or.inl rfl, Or.inl rfl, Or.inl rfl, Or.inr rfl, trivial⟩ ?_
        have hfu : frX [23] M (up M 23 (e * 61 + x + 1) (min (M 23 (e * 61 + x + 1)) ((w + S 5 2) + (M 23 (e * 61 + y + 1))))) := frX_up (frX_refl _ _) _ _ (by decide)
        have hrow : r23 (up M 23 (e * 61 + x + 1) (min (M 23 (e * 61 + x + 1)) ((w + S 5 2) + (M 23 (e * 61 + y + 1))))) e = lo1 (r23 M e) (bk S (x, y, w)) := by
          rw [r23_lw, lo1_lw]
          simp only [bk]
          congr 1
          unfold r23
          rw [show e * 61 + (y + 1) = e * 61 + y + 1 by omega]
          omega
        refine ih _ 1 _ (by omega) (by omega) (by rw [scC_fr (M := M) (frX_S hfu (by decide))]; exact hs) (Or.inr rfl) (NxL_fr hn (hfu 10 (by decide)) (hfu 11 (by decide)) (hfu 12 (by decide)) (hfu 13 (by decide))) ?_ (off3_up ho (by omega)) (frX_up hf _ _ (by decide)) (fun q => by omega) (fun j hj => ?_)
        · rw [hrow, hc, htk, rnd_take hE]
        · have h5 := hr j hj
          simp only [up]
          split <;> omega

set_option maxRecDepth 20000 in
set_option maxHeartbeats 2000000 in
theorem weighP_out {d : Nat} {Q : Option ra_V → ra_M → Prop} {K : Nat → ra_L → List ra_V → ra_M → Prop} (hK : ra_Clo (Ex (d + 1)) m_X1_weighPassing cX1_weighPassing Q K) {S : Sc} (hS : okSc S) {M0 : ra_M} {e : Int} {c0 : Int → Int} (hev : 0 ≤ e ∧ e < 120)
    (hQ : ∀ (M : ra_M), r23 M e = rep ((El S).reverse.map (bk S)) 61 c0 → off3 (e * 61) M0 M → frX [23] M0 M → Q none M) :
    ∀ (n r : Nat) (M : ra_M) (ch : Int), r + n = 61 → scC M = S → (ch = 0 ∨ ch = 1) → NxL M (El S) → r23 M e = rep ((El S).reverse.map (bk S)) r c0 → off3 (e * 61) M0 M → frX [23] M0 M → (ch = 0 → rnd ((El S).reverse.map (bk S)) (rep ((El S).reverse.map (bk S)) r c0) = rep ((El S).reverse.map (bk S)) r c0) → (∀ j, pn S j → 0 ≤ M 23 (e * 61 + j) ∧ M 23 (e * 61 + j) ≤ 200000) → K 4 [some (vR 22), some (vI e), some (vI ch), some (vI (r : Nat)), none, none] [] M := by
  have hl74 := El_len hS
  intro n
  induction n with
  | zero =>
    intro r M ch hi hs hch hn hc ho hf h0 hr
    refine k_iln hK (q := 5)  dX1_weighPassing_4 rfl (z := (r : Nat)) rfl (k_bp hK (q := 7)  dX1_weighPassing_5 rfl (by decide) ?_)
    refine k_cge hK (q := 10) (t := 107) dX1_weighPassing_7 rfl rfl (fun h7 => ?_) (fun h7 => ?_)
    · refine k_vr hK dX1_weighPassing_107 rfl ?_
      exact hQ M (by rw [hc, show r = 61 by omega]) ho hf
    · exact absurd h7 (by omega)
  | succ n ih =>
    intro r M ch hi hs hch hn hc ho hf h0 hr
    have en := hn.1
    refine k_iln hK (q := 5)  dX1_weighPassing_4 rfl (z := (r : Nat)) rfl (k_bp hK (q := 7)  dX1_weighPassing_5 rfl (by decide) ?_)
    refine k_cge hK (q := 10) (t := 107) dX1_weighPassing_7 rfl rfl (fun h7 => ?_) (fun h7 => ?_)
    · exact absurd h7 (by omega)
    · refine k_iln hK (q := 11)  dX1_weighPassing_10 rfl (z := ch) rfl ?_
      refine k_ifeq hK (q := 14) (t := 107) dX1_weighPassing_11 rfl rfl (fun h11 => ?_) (fun h11 => ?_)
      · refine k_vr hK dX1_weighPassing_107 rfl ?_
        exact hQ M (by rw [hc]; exact (bf_any (bkE_ok hS (fun f hf => Eu_sub S _ f (List.mem_reverse.mp hf))) c0 (h0 h11))) ho hf
      · refine k_ic hK (q := 15)  dX1_weighPassing_14 rfl (by decide) (k_isn hK (q := 16)  dX1_weighPassing_15 rfl (L2 := [some (vR 22), some (vI e), some (vI 0), some (vI (r : Nat)), none, none]) (Nat.le_of_ble_eq_true rfl) rfl (k_aln hK (q := 17)  dX1_weighPassing_16 rfl (z := 22) rfl (k_gR hK (q := 20) (r := 10) dX1_weighPassing_17 rfl rf_X1_34 rfl rfl (k_gI hK (q := 23) (z := M 10 5) 0 dX1_weighPassing_20 rfl rf_X1_107 rfl rfl rfl rfl (k_ic hK (q := 24)  dX1_weighPassing_23 rfl (by decide) ?_)))))
        refine k_sub hK (q := 25)  dX1_weighPassing_24 rfl (z := (M 10 5) - 1) rfl (by omega) (k_is hK (q := 27)  dX1_weighPassing_25 rfl (L2 := [some (vR 22), some (vI e), some (vI 0), some (vI (r : Nat)), some (vI ((M 10 5) - 1)), none]) (Nat.le_of_ble_eq_true rfl) rfl ?_)
        refine weighP_in hK hS (M0 := M) (c0 := r23 M e) hev (fun M5 ch2 z hs5 hch5 hn5 hc5 ho5 hf5 h05 hr5 => ?_) (El S).length M 0 _ (Nat.le_refl _) (by rw [en]) hs (Or.inl rfl) hn (by simp [rnd]) (fun z hz => rfl) (frX_refl _ _) (fun _ => rfl) hr
        refine k_inc hK (q := 104)  dX1_weighPassing_101 rfl (y := (r : Nat) + 1) (L2 := [some (vR 22), some (vI e), some (vI ch2), some (vI ((r : Nat) + 1)), some (vI z), none]) rfl rfl (by omega) rfl (k_goto hK (t := 4) dX1_weighPassing_104 rfl ?_)
        refine k_weak hK (L2 := [some (vR 22), some (vI e), some (vI ch2), some (vI ((r : Nat) + 1)), none, none]) ⟨Or.inl rfl, Or.inl rfl, Or.inl rfl, Or.inl rfl, Or.inr rfl, Or.inr rfl, trivial⟩ ?_
        exact ih (r + 1) M5 ch2 (by omega) hs5 hch5 hn5 (by rw [rep_succ, ← hc]; exact hc5) (off3_trans ho ho5) (frX_trans hf hf5) (fun q => by rw [rep_succ, ← hc, ← hc5, h05 q, ← hc5, h05 q]) hr5

set_option maxRecDepth 20000 in
set_option maxHeartbeats 2000000 in
theorem xc_weighP (d : Nat) (M : ra_M) (e : Int) (S : Sc) (hs : scC M = S) (hS : okSc S) (hn : NxL M (El S)) (hev : 0 ≤ e ∧ e < 120) (hr : ∀ j, pn S j → 0 ≤ M 23 (e * 61 + j) ∧ M 23 (e * 61 + j) ≤ 200000) : Ex (d + 2) m_X1_weighPassing [vR 22, vI e] M (fun r M2 => r = none ∧ r23 M2 e = rep ((El S).reverse.map (bk S)) 61 (r23 M e) ∧ off3 (e * 61) M M2 ∧ frX [23] M M2) := by
  refine Ex_call (Nat.le_of_ble_eq_true rfl) (fun K hK => ?_)
  show K 0 [some (vR 22), some (vI e), none, none, none, none] [] M
  have hK : ra_Clo _ m_X1_weighPassing cX1_weighPassing _ K := hK
  refine k_ic hK (q := 1)  dX1_weighPassing_0 rfl (by decide) (k_isn hK (q := 2)  dX1_weighPassing_1 rfl (L2 := [some (vR 22), some (vI e), some (vI 1), none, none, none]) (Nat.le_of_ble_eq_true rfl) rfl (k_ic hK (q := 3)  dX1_weighPassing_2 rfl (by decide) (k_isn hK (q := 4)  dX1_weighPassing_3 rfl (L2 := [some (vR 22), some (vI e), some (vI 1), some (vI 0), none, none]) (Nat.le_of_ble_eq_true rfl) rfl ?_)))
  exact weighP_out hK hS (M0 := M) (c0 := r23 M e) hev (fun M2 h1 h2 h3 => ⟨rfl, h1, h2, h3⟩) 61 0 M 1 (by omega) hs (Or.inr rfl) hn rfl (fun z hz => rfl) (frX_refl _ _) (fun q => by omega) hr
end
section
/-! the COURSE, in the class -/
def pk (s : St4) : Int := s.2.2.2 * 32768 + s.1 * 8192 + (s.2.2.1 + 1) * 64 + (s.2.1 + 1)
def okSt (s : St4) : Prop := (0 ≤ s.1 ∧ s.1 ≤ 3) ∧ (-1 ≤ s.2.1 ∧ s.2.1 < 60) ∧ (-1 ≤ s.2.2.1 ∧ s.2.2.1 < 120) ∧ (0 ≤ s.2.2.2 ∧ s.2.2.2 ≤ 2000)
def cPl (n : Int) (ls : List St4) : Int := ((ls.countP (fun s => decide ((s.1 = 0 ∨ s.1 = 3) ∧ s.2.1 = n)) : Nat) : Int)
def cRt (S : Sc) (hp : Int → Int) (n : Int) (ls : List St4) : Int := ((ls.countP (fun s => decide (((s.1 = 0 ∨ s.1 = 3) ∧ S 1 n = hp s.2.2.1) ∧ s.2.1 = n)) : Nat) : Int)
def cPs (n : Int) (ls : List St4) : Int := ((ls.countP (fun s => decide (s.1 = 2 ∧ s.2.1 = n)) : Nat) : Int)
def mtF (ls : List St4) (ev : Int) : Int := ls.foldl (fun a s => if s.2.2.1 = ev ∧ s.1 ≠ 1 then s.2.1 else a) (-1)
theorem cPl_app (n : Int) (ls : List St4) (s : St4) : cPl n (ls ++ [s]) = cPl n ls + (if (s.1 = 0 ∨ s.1 = 3) ∧ s.2.1 = n then 1 else 0) := by
  unfold cPl
  rw [List.countP_append]
  by_cases h : (s.1 = 0 ∨ s.1 = 3) ∧ s.2.1 = n
  · rw [if_pos h]; simp [List.countP_cons, h]
  · rw [if_neg h]; simp [List.countP_cons, h]
theorem cRt_app (S : Sc) (hp : Int → Int) (n : Int) (ls : List St4) (s : St4) : cRt S hp n (ls ++ [s]) = cRt S hp n ls + (if ((s.1 = 0 ∨ s.1 = 3) ∧ S 1 n = hp s.2.2.1) ∧ s.2.1 = n then 1 else 0) := by
  unfold cRt
  rw [List.countP_append]
  by_cases h : ((s.1 = 0 ∨ s.1 = 3) ∧ S 1 n = hp s.2.2.1) ∧ s.2.1 = n
  · rw [if_pos h]; simp [List.countP_cons, h]
  · rw [if_neg h]; simp [List.countP_cons, h]
theorem cPs_app (n : Int) (ls : List St4) (s : St4) : cPs n (ls ++ [s]) = cPs n ls + (if s.1 = 2 ∧ s.2.1 = n then 1 else 0) := by
  unfold cPs
  rw [List.countP_append]
  by_cases h : s.1 = 2 ∧ s.2.1 = n
  · rw [if_pos h]; simp [List.countP_cons, h]
  · rw [if_neg h]; simp [List.countP_cons, h]
theorem mtF_app (ls : List St4) (s : St4) (ev : Int) : mtF (ls ++ [s]) ev = if s.2.2.1 = ev ∧ s.1 ≠ 1 then s.2.1 else mtF ls ev := by
  unfold mtF
  rw [List.foldl_append]
  rfl
theorem mtF_none : ∀ (ls : List St4) (ev a : Int), (∀ s ∈ ls, s.2.2.1 ≠ ev) → ls.foldl (fun a s => if s.2.2.1 = ev ∧ s.1 ≠ 1 then s.2.1 else a) a = a := by
  intro ls
  induction ls with
  | nil => intro ev a _; rfl
  | cons s ls ih =>
    intro ev a h
    rw [List.foldl_cons, if_neg (fun q => h s List.mem_cons_self q.1)]
    exact ih ev a (fun t ht => h t (List.mem_cons_of_mem _ ht))
def CO (M : ra_M) (ls : List St4) : Prop := M 22 11 = (ls.length : Nat) ∧ ∀ (i : Nat) (s : St4), ls[i]? = some s → M 24 (i : Nat) = pk s
def CA (S : Sc) (hp : Int → Int) (M : ra_M) (ls : List St4) : Prop := ∀ n, 0 ≤ n → n < 60 → M 26 n = cPl n ls ∧ M 27 n = cRt S hp n ls ∧ M 28 n = cPs n ls
def CM (M : ra_M) (ls : List St4) (e : Int) : Prop := ∀ ev, 0 ≤ ev → ev < e → M 25 ev = mtF ls ev
/-- the COURSE so far, EVENTS ahead of e taken -/
def WS (S : Sc) (hp : Int → Int) (M : ra_M) (ls : List St4) (e : Int) : Prop := CO M ls ∧ CA S hp M ls ∧ CM M ls e ∧ ∀ s ∈ ls, okSt s ∧ s.2.2.1 < e
def frW (M M2 : ra_M) : Prop := frX [22, 24, 25, 26, 27, 28] M M2 ∧ ∀ j, j ≠ 11 → M2 22 j = M 22 j
theorem frW_trans {M M1 M2 : ra_M} (h : frW M M1) (h2 : frW M1 M2) : frW M M2 := ⟨frX_trans h.1 h2.1, fun j hj => (h2.2 j hj).trans (h.2 j hj)⟩
theorem CO_app {M M2 : ra_M} {ls : List St4} {s : St4} (h : CO M ls) (h1 : M2 22 11 = M 22 11 + 1) (h2 : M2 24 = (up M 24 (M 22 11) (pk s)) 24) : CO M2 (ls ++ [s]) := by
  refine ⟨by rw [h1, h.1]; simp, fun i t hi => ?_⟩
  rw [h2]
  by_cases hl : i < ls.length
  · rw [List.getElem?_append_left hl] at hi
    have := h.1
    rw [up_j _ _ (by omega)]
    exact h.2 i t hi
  · have hil := (List.getElem?_eq_some_iff.mp hi).1
    simp at hil
    have hi2 : i = ls.length := by omega
    subst hi2
    simp at hi
    subst hi
    rw [h.1, up_same]
theorem or_int {x y : Int} (i : Nat) (hx : 0 ≤ x) (hy : 0 ≤ y ∧ y < (2 ^ i : Nat)) (hd : ∃ k : Int, x = (2 ^ i : Nat) * k) : x + y = ((x.toNat ||| y.toNat : Nat) : Int) := by
  obtain ⟨k, hk⟩ := hd
  have hp : 0 < 2 ^ i := Nat.two_pow_pos i
  have hk0 : 0 ≤ k := by
    by_cases h : 0 ≤ k
    · exact h
    · exfalso
      have h1 : k ≤ -1 := by omega
      have h2 : ((2 ^ i : Nat) : Int) * k ≤ ((2 ^ i : Nat) : Int) * (-1) := Int.mul_le_mul_of_nonneg_left h1 (by omega)
      omega
  obtain ⟨m, rfl⟩ : ∃ m : Nat, k = m := ⟨k.toNat, by omega⟩
  obtain ⟨n, rfl⟩ : ∃ n : Nat, y = n := ⟨y.toNat, by omega⟩
  have e1 : x = ((2 ^ i * m : Nat) : Int) := by rw [hk]; exact (Int.natCast_mul _ _).symm
  rw [e1]
  simp only [Int.toNat_natCast]
  rw [← Nat.two_pow_add_eq_or_of_lt (by omega) m]
  exact (Int.natCast_add _ _).symm
theorem and_int {x : Int} (i : Nat) (hx : 0 ≤ x) : x % ((2 ^ i : Nat) : Int) = ((x.toNat &&& (2 ^ i - 1) : Nat) : Int) := by
  obtain ⟨m, rfl⟩ : ∃ m : Nat, x = m := ⟨x.toNat, by omega⟩
  rw [Int.toNat_natCast, Nat.and_two_pow_sub_one_eq_mod]
  rfl

set_option maxRecDepth 20000 in
set_option maxHeartbeats 2000000 in
theorem xc_keepStep (d : Nat) (M : ra_M) (k p ev c : Int) (h : okSt (k, p, ev, c)) (hc : 0 ≤ M 22 11 ∧ M 22 11 < 7320) : Ex d m_X1_keepStep [vR 22, vI k, vI p, vI ev, vI c] M (fun r M2 => r = some (vI 1) ∧ M2 = up (up M 24 (M 22 11) (pk (k, p, ev, c))) 22 11 (M 22 11 + 1)) := by
  refine Ex_leaf (Nat.le_of_ble_eq_true rfl) (fun C K hK => ?_)
  show K 0 [some (vR 22), some (vI k), some (vI p), some (vI ev), some (vI c)] [] M
  have hK : ra_Clo _ m_X1_keepStep cX1_keepStep _ K := hK
  obtain ⟨b1, b2, b3, b4⟩ := h
  simp only at b1 b2 b3 b4
  refine k_aln hK (q := 1)  dX1_keepStep_0 rfl (z := 22) rfl (k_gI hK (q := 4) (z := M 22 11) 0 dX1_keepStep_1 rfl rf_X1_141 rfl rfl rfl rfl (k_sp hK (q := 7)  dX1_keepStep_4 rfl (by decide) ?_))
  refine k_clt hK (q := 10) (t := 12) dX1_keepStep_7 rfl rfl (fun h7 => ?_) (fun h7 => ?_)
  · refine k_aln hK (q := 13)  dX1_keepStep_12 rfl (z := 22) rfl (k_gR hK (q := 16) (r := 24) dX1_keepStep_13 rfl rf_X1_15 rfl rfl (k_aln hK (q := 17)  dX1_keepStep_16 rfl (z := 22) rfl (k_gI hK (q := 20) (z := M 22 11) 0 dX1_keepStep_17 rfl rf_X1_141 rfl rfl rfl rfl (k_il hK (q := 22)  dX1_keepStep_20 rfl (z := c) rfl (k_bp hK (q := 24)  dX1_keepStep_22 rfl (by decide) ?_)))))
    refine k_shl hK (q := 25)  dX1_keepStep_24 rfl (z := c * 32768) (m := c.toNat) (n := 15) (by omega) rfl (by decide) (by omega) (by omega) (k_iln hK (q := 26)  dX1_keepStep_25 rfl (z := k) rfl (k_bp hK (q := 28)  dX1_keepStep_26 rfl (by decide) (k_shl hK (q := 29)  dX1_keepStep_28 rfl (z := k * 8192) (m := k.toNat) (n := 13) (by omega) rfl (by decide) (by omega) (by omega) (k_or hK (q := 30)  dX1_keepStep_29 rfl (z := c * 32768 + k * 8192) (m := (c * 32768).toNat) (n := (k * 8192).toNat) (by omega) (by omega) (or_int 15 (by omega) (by omega) ⟨c, by omega⟩) (k_iln hK (q := 31)  dX1_keepStep_30 rfl (z := ev) rfl ?_)))))
    refine k_ic hK (q := 32)  dX1_keepStep_31 rfl (by decide) (k_add hK (q := 33)  dX1_keepStep_32 rfl (z := ev + 1) rfl (by omega) (k_bp hK (q := 35)  dX1_keepStep_33 rfl (by decide) (k_shl hK (q := 36)  dX1_keepStep_35 rfl (z := (ev + 1) * 64) (m := (ev + 1).toNat) (n := 6) (by omega) rfl (by decide) (by omega) (by omega) (k_or hK (q := 37)  dX1_keepStep_36 rfl (z := c * 32768 + k * 8192 + (ev + 1) * 64) (m := (c * 32768 + k * 8192).toNat) (n := ((ev + 1) * 64).toNat) (by omega) (by omega) (or_int 13 (by omega) (by omega) ⟨c * 4 + k, by omega⟩) (k_iln hK (q := 38)  dX1_keepStep_37 rfl (z := p) rfl ?_)))))
    refine k_ic hK (q := 39)  dX1_keepStep_38 rfl (by decide) (k_add hK (q := 40)  dX1_keepStep_39 rfl (z := p + 1) rfl (by omega) (k_or hK (q := 41)  dX1_keepStep_40 rfl (z := c * 32768 + k * 8192 + (ev + 1) * 64 + (p + 1)) (m := (c * 32768 + k * 8192 + (ev + 1) * 64).toNat) (n := (p + 1).toNat) (by omega) (by omega) (or_int 6 (by omega) (by omega) ⟨c * 512 + k * 128 + (ev + 1), by omega⟩) (k_ast hK (q := 42)  dX1_keepStep_41 rfl rfl (by omega) (k_aln hK (q := 43)  dX1_keepStep_42 rfl (z := 22) rfl (k_dup hK (q := 44)  dX1_keepStep_43 rfl rfl ?_)))))
    refine k_gI hK (q := 47) (z := M 22 11) 0 dX1_keepStep_44 rfl rf_X1_141 rfl rfl rfl rfl (k_ic hK (q := 48)  dX1_keepStep_47 rfl (by decide) (k_add hK (q := 49)  dX1_keepStep_48 rfl (z := (M 22 11) + 1) rfl (by omega) (k_pI hK (q := 52) (M2 := up (up M 24 (M 22 11) (c * 32768 + k * 8192 + (ev + 1) * 64 + (p + 1))) 22 11 ((M 22 11) + 1)) dX1_keepStep_49 rfl rp_X1_141 rfl rfl rfl (k_ic hK (q := 53)  dX1_keepStep_52 rfl (by decide) ?_))))
    refine k_irz hK dX1_keepStep_53 rfl (by decide) ?_
    exact ⟨rfl, rfl⟩
  · exact absurd h7 (by omega)

set_option maxRecDepth 20000 in
set_option maxHeartbeats 2000000 in
theorem xc_tell (d : Nat) (M : ra_M) (i wh k0 p ev c : Int) (h : okSt (k0, p, ev, c)) (hi : 0 ≤ i ∧ i < 7320) (hm : M 24 i = pk (k0, p, ev, c)) : Ex d m_X1_tell [vR 22, vI i, vI wh] M (fun r M2 => r = some (vI (if wh = 0 then k0 else if wh = 1 then p else if wh = 2 then ev else c)) ∧ M2 = M) := by
  refine Ex_leaf (Nat.le_of_ble_eq_true rfl) (fun C K hK => ?_)
  show K 0 [some (vR 22), some (vI i), some (vI wh), none] [] M
  have hK : ra_Clo _ m_X1_tell cX1_tell _ K := hK
  obtain ⟨b1, b2, b3, b4⟩ := h
  simp only at b1 b2 b3 b4
  refine k_aln hK (q := 1)  dX1_tell_0 rfl (z := 22) rfl (k_gR hK (q := 4) (r := 24) dX1_tell_1 rfl rf_X1_15 rfl rfl (k_iln hK (q := 5)  dX1_tell_4 rfl (z := i) rfl (k_ald hK (q := 6)  dX1_tell_5 rfl (y := M 24 i) rfl (by omega) rfl ?_)))
  rw [hm]
  refine k_isn hK (q := 7)  dX1_tell_6 rfl (L2 := [some (vR 22), some (vI i), some (vI wh), some (vI (pk (k0, p, ev, c)))]) (Nat.le_of_ble_eq_true rfl) rfl (k_iln hK (q := 8)  dX1_tell_7 rfl (z := wh) rfl ?_)
  refine k_ts hK dX1_tell_8 (fun h8 => ⟨60, rfl, ?_⟩) (fun h8 => ?_)
  · refine k_iln hK (q := 61)  dX1_tell_60 rfl (z := (pk (k0, p, ev, c))) rfl (k_bp hK (q := 63)  dX1_tell_61 rfl (by decide) (k_shr hK (q := 64)  dX1_tell_63 rfl (z := c) (m := (pk (k0, p, ev, c)).toNat) (n := 15) (by unfold pk; simp only; omega) rfl (by decide) (by unfold pk; simp only; omega) ?_))
    refine k_ir hK dX1_tell_64 rfl ?_
    refine ⟨?_, rfl⟩
    congr 2
    repeat' split
    all_goals omega
  · have h82 : wh = 0 ∨ wh = 1 ∨ wh = 2 := by omega
    rcases h82 with h82 | h82 | h82
    · refine ⟨28, 36, by rw [h82]; rfl, rfl, ?_⟩
      refine k_iln hK (q := 37)  dX1_tell_36 rfl (z := (pk (k0, p, ev, c))) rfl (k_bp hK (q := 39)  dX1_tell_37 rfl (by decide) (k_shr hK (q := 40)  dX1_tell_39 rfl (z := c * 4 + k0) (m := (pk (k0, p, ev, c)).toNat) (n := 13) (by unfold pk; simp only; omega) rfl (by decide) (by unfold pk; simp only; omega) (k_ic hK (q := 41)  dX1_tell_40 rfl (by decide) (k_and hK (q := 42)  dX1_tell_41 rfl (z := k0) (m := (c * 4 + k0).toNat) (n := 3) (by omega) rfl (by rw [← and_int 2 (by omega)]; omega) ?_))))
      refine k_ir hK dX1_tell_42 rfl ?_
      refine ⟨?_, rfl⟩
      congr 2
      repeat' split
      all_goals omega
    · refine ⟨35, 43, by rw [h82]; rfl, rfl, ?_⟩
      refine k_iln hK (q := 44)  dX1_tell_43 rfl (z := (pk (k0, p, ev, c))) rfl (k_bp hK (q := 46)  dX1_tell_44 rfl (by decide) (k_and hK (q := 47)  dX1_tell_46 rfl (z := p + 1) (m := (pk (k0, p, ev, c)).toNat) (n := 63) (by unfold pk; simp only; omega) rfl (by rw [← and_int 6 (by unfold pk; simp only; omega)]; unfold pk; simp only; omega) (k_ic hK (q := 48)  dX1_tell_47 rfl (by decide) (k_sub hK (q := 49)  dX1_tell_48 rfl (z := (p + 1) - 1) rfl (by omega) ?_))))
      refine k_ir hK dX1_tell_49 rfl ?_
      refine ⟨?_, rfl⟩
      congr 2
      repeat' split
      all_goals omega
    · refine ⟨42, 50, by rw [h82]; rfl, rfl, ?_⟩
      refine k_iln hK (q := 51)  dX1_tell_50 rfl (z := (pk (k0, p, ev, c))) rfl (k_bp hK (q := 53)  dX1_tell_51 rfl (by decide) (k_shr hK (q := 54)  dX1_tell_53 rfl (z := c * 512 + k0 * 128 + (ev + 1)) (m := (pk (k0, p, ev, c)).toNat) (n := 6) (by unfold pk; simp only; omega) rfl (by decide) (by unfold pk; simp only; omega) (k_bp hK (q := 56)  dX1_tell_54 rfl (by decide) (k_and hK (q := 57)  dX1_tell_56 rfl (z := ev + 1) (m := (c * 512 + k0 * 128 + (ev + 1)).toNat) (n := 127) (by omega) rfl (by rw [← and_int 7 (by omega)]; omega) (k_ic hK (q := 58)  dX1_tell_57 rfl (by decide) ?_)))))
      refine k_sub hK (q := 59)  dX1_tell_58 rfl (z := (ev + 1) - 1) rfl (by omega) ?_
      refine k_ir hK dX1_tell_59 rfl ?_
      refine ⟨?_, rfl⟩
      congr 2
      repeat' split
      all_goals omega

set_option maxRecDepth 20000 in
set_option maxHeartbeats 2000000 in
theorem forgetC_loop {C : Nat → List ra_V → ra_M → (Option ra_V → ra_M → Prop) → Prop} {Q : Option ra_V → ra_M → Prop} {K : Nat → ra_L → List ra_V → ra_M → Prop} (hK : ra_Clo C m_X1_forgetCourse cX1_forgetCourse Q K) {M0 : ra_M}
    (hQ : ∀ M : ra_M, (∀ n, 0 ≤ n → n < 60 → M 26 n = 0 ∧ M 27 n = 0 ∧ M 28 n = 0) → M 22 11 = 0 → frW M0 M → Q none M) :
    ∀ (n i : Nat) (M : ra_M), i + n = 60 → (∀ t : Nat, t < i → M 26 (t : Nat) = 0 ∧ M 27 (t : Nat) = 0 ∧ M 28 (t : Nat) = 0) → M 22 11 = 0 → frW M0 M → K 7 [some (vR 22), some (vI (i : Nat))] [] M := by
  intro n
  induction n with
  | zero =>
    intro i M hi hc h11 hf
    refine k_iln hK (q := 8)  dX1_forgetCourse_7 rfl (z := (i : Nat)) rfl (k_bp hK (q := 10)  dX1_forgetCourse_8 rfl (by decide) ?_)
    refine k_cge hK (q := 13) (t := 40) dX1_forgetCourse_10 rfl rfl (fun h10 => ?_) (fun h10 => ?_)
    · refine k_vr hK dX1_forgetCourse_40 rfl ?_
      exact hQ M (fun n a b => by have := hc n.toNat (by omega); rw [show ((n.toNat : Nat) : Int) = n by omega] at this; exact this) h11 hf
    · exact absurd h10 (by omega)
  | succ n ih =>
    intro i M hi hc h11 hf
    refine k_iln hK (q := 8)  dX1_forgetCourse_7 rfl (z := (i : Nat)) rfl (k_bp hK (q := 10)  dX1_forgetCourse_8 rfl (by decide) ?_)
    refine k_cge hK (q := 13) (t := 40) dX1_forgetCourse_10 rfl rfl (fun h10 => ?_) (fun h10 => ?_)
    · exact absurd h10 (by omega)
    · refine k_aln hK (q := 14)  dX1_forgetCourse_13 rfl (z := 22) rfl (k_gR hK (q := 17) (r := 26) dX1_forgetCourse_14 rfl rf_X1_21 rfl rfl (k_iln hK (q := 18)  dX1_forgetCourse_17 rfl (z := (i : Nat)) rfl (k_ic hK (q := 19)  dX1_forgetCourse_18 rfl (by decide) (k_ast hK (q := 20)  dX1_forgetCourse_19 rfl rfl (by omega) (k_aln hK (q := 21)  dX1_forgetCourse_20 rfl (z := 22) rfl ?_)))))
      refine k_gR hK (q := 24) (r := 27) dX1_forgetCourse_21 rfl rf_X1_24 rfl rfl (k_iln hK (q := 25)  dX1_forgetCourse_24 rfl (z := (i : Nat)) rfl (k_ic hK (q := 26)  dX1_forgetCourse_25 rfl (by decide) (k_ast hK (q := 27)  dX1_forgetCourse_26 rfl rfl (by omega) (k_aln hK (q := 28)  dX1_forgetCourse_27 rfl (z := 22) rfl (k_gR hK (q := 31) (r := 28) dX1_forgetCourse_28 rfl rf_X1_27 rfl rfl ?_)))))
      refine k_iln hK (q := 32)  dX1_forgetCourse_31 rfl (z := (i : Nat)) rfl (k_ic hK (q := 33)  dX1_forgetCourse_32 rfl (by decide) (k_ast hK (q := 34)  dX1_forgetCourse_33 rfl rfl (by omega) (k_inc hK (q := 37)  dX1_forgetCourse_34 rfl (y := (i : Nat) + 1) (L2 := [some (vR 22), some (vI ((i : Nat) + 1))]) rfl rfl (by omega) rfl (k_goto hK (t := 7) dX1_forgetCourse_37 rfl ?_))))
      refine ih (i + 1) _ (by omega) (fun t ht => ?_) (by simp [up]; exact h11) ⟨frX_up (frX_up (frX_up (hf.1) _ _ (by decide)) _ _ (by decide)) _ _ (by decide), fun j hj => by simp [up]; exact hf.2 j hj⟩
      by_cases h : t = i
      · subst h
        simp [up]
      · have := hc t (by omega)
        have hne : ((t : Nat) : Int) ≠ (i : Nat) := by omega
        simp [up, hne, this]

set_option maxRecDepth 20000 in
set_option maxHeartbeats 2000000 in
theorem xc_forgetC (d : Nat) (M : ra_M) : Ex d m_X1_forgetCourse [vR 22] M (fun r M2 => r = none ∧ (∀ n, 0 ≤ n → n < 60 → M2 26 n = 0 ∧ M2 27 n = 0 ∧ M2 28 n = 0) ∧ M2 22 11 = 0 ∧ frW M M2) := by
  refine Ex_leaf (Nat.le_of_ble_eq_true rfl) (fun C K hK => ?_)
  show K 0 [some (vR 22), none] [] M
  have hK : ra_Clo _ m_X1_forgetCourse cX1_forgetCourse _ K := hK
  refine k_aln hK (q := 1)  dX1_forgetCourse_0 rfl (z := 22) rfl (k_ic hK (q := 2)  dX1_forgetCourse_1 rfl (by decide) (k_pI hK (q := 5) (M2 := up M 22 11 0) dX1_forgetCourse_2 rfl rp_X1_141 rfl rfl rfl (k_ic hK (q := 6)  dX1_forgetCourse_5 rfl (by decide) (k_isn hK (q := 7)  dX1_forgetCourse_6 rfl (L2 := [some (vR 22), some (vI 0)]) (Nat.le_of_ble_eq_true rfl) rfl ?_))))
  exact forgetC_loop hK (M0 := M) (fun M2 h1 h2 h3 => ⟨rfl, h1, h2, h3⟩) 60 0 _ (by omega) (fun t ht => by omega) (by simp [up]) ⟨frX_up (frX_refl _ _) _ _ (by decide), fun j hj => by simp [up, hj]⟩

set_option maxRecDepth 20000 in
set_option maxHeartbeats 2000000 in
theorem xc_match (d : Nat) (M : ra_M) (k n e c : Int) (S : Sc) (hs : scC M = S) (hS : okSc S) (ls : List St4) (hw : WS S (M 8) M ls e) (hk : k = 0 ∨ k = 3) (hn : 0 ≤ n ∧ n < 60) (he : 0 ≤ e ∧ e < 120) (hc : 0 ≤ c ∧ c ≤ 2000) (hl : ls.length < 7320) : Ex (d + 1) m_X1_match [vR 22, vI k, vI n, vI e, vI c] M (fun r M2 => r = some (vI 1) ∧ WS S (M 8) M2 (ls ++ [(k, n, e, c)]) (e + 1) ∧ frW M M2) := by
  refine Ex_call (Nat.le_of_ble_eq_true rfl) (fun K hK => ?_)
  show K 0 [some (vR 22), some (vI k), some (vI n), some (vI e), some (vI c)] [] M
  have hK : ra_Clo _ m_X1_match cX1_match _ K := hK
  obtain ⟨a2, a3, a4, a5, a6⟩ := scC_a hs
  have hl2 := hw.1.1
  have hll : ∀ t, 0 ≤ t → t < 60 → 0 ≤ M 26 t ∧ M 26 t ≤ 7320 ∧ 0 ≤ M 27 t ∧ M 27 t ≤ 7320 := by
    intro t a b
    have h9 := hw.2.1 t a b
    have h10 := List.countP_le_length (p := fun s : St4 => decide ((s.1 = 0 ∨ s.1 = 3) ∧ s.2.1 = t)) (l := ls)
    have h11 := List.countP_le_length (p := fun s : St4 => decide (((s.1 = 0 ∨ s.1 = 3) ∧ S 1 t = M 8 s.2.2.1) ∧ s.2.1 = t)) (l := ls)
    unfold cPl cRt at h9
    omega
  have hlln := hll n hn.1 hn.2
  refine k_aln hK (q := 1)  dX1_match_0 rfl (z := 22) rfl (k_gR hK (q := 4) (r := 25) dX1_match_1 rfl rf_X1_18 rfl rfl (k_iln hK (q := 5)  dX1_match_4 rfl (z := e) rfl (k_iln hK (q := 6)  dX1_match_5 rfl (z := n) rfl (k_ast hK (q := 7)  dX1_match_6 rfl rfl (by omega) (k_aln hK (q := 8)  dX1_match_7 rfl (z := 22) rfl ?_)))))
  refine k_gR hK (q := 11) (r := 26) dX1_match_8 rfl rf_X1_21 rfl rfl (k_iln hK (q := 12)  dX1_match_11 rfl (z := n) rfl (k_dup2 hK (q := 13)  dX1_match_12 rfl rfl rfl (k_ald hK (q := 14)  dX1_match_13 rfl (y := M 26 n) rfl (by omega) rfl (k_ic hK (q := 15)  dX1_match_14 rfl (by decide) (k_add hK (q := 16)  dX1_match_15 rfl (z := (M 26 n) + 1) rfl (by omega) ?_)))))
  refine k_ast hK (q := 17)  dX1_match_16 rfl rfl (by omega) (k_aln hK (q := 18)  dX1_match_17 rfl (z := 22) rfl (k_gR hK (q := 21) (r := 1) dX1_match_18 rfl rf_X1_30 rfl rfl (k_gR hK (q := 24) (r := 2) dX1_match_21 rfl rf_X1_155 rfl rfl (k_iln hK (q := 25)  dX1_match_24 rfl (z := n) rfl (k_ald hK (q := 26)  dX1_match_25 rfl (y := M 2 n) rfl (by omega) rfl ?_)))))
  refine k_aln hK (q := 27)  dX1_match_26 rfl (z := 22) rfl (k_gR hK (q := 30) (r := 7) dX1_match_27 rfl rf_X1_38 rfl rfl (k_gR hK (q := 33) (r := 8) dX1_match_30 rfl rf_X1_87 rfl rfl (k_iln hK (q := 34)  dX1_match_33 rfl (z := e) rfl (k_ald hK (q := 35)  dX1_match_34 rfl (y := M 8 e) rfl (by omega) rfl ?_))))
  refine k_cne hK (q := 38) (t := 48) dX1_match_35 rfl rfl (fun h35 => ?_) (fun h35 => ?_)
  · refine k_aln hK (q := 49)  dX1_match_48 rfl (z := 22) rfl (k_iln hK (q := 50)  dX1_match_49 rfl (z := k) rfl (k_iln hK (q := 51)  dX1_match_50 rfl (z := n) rfl (k_iln hK (q := 52)  dX1_match_51 rfl (z := e) rfl (k_il hK (q := 54)  dX1_match_52 rfl (z := c) rfl ?_))))
    refine k_iv4I hK (q := 57) dX1_match_54 rfl rm_X1_152 rfl rfl (Nat.le_of_ble_eq_true rfl) (xc_keepStep _ (up (up M 25 e n) 26 n ((M 26 n) + 1)) k n e c (by simp only [okSt]; omega) (by simp [up]; omega)) ?_
    refine k_irz hK dX1_match_57 rfl (by decide) ?_
    refine ⟨rfl, ⟨CO_app hw.1 (by simp [up]) (by funext j; simp [up]), fun t a b => ?_, fun t a b => ?_, fun s hs2 => ?_⟩, ⟨frX_up (frX_up (frX_up (frX_up (frX_refl _ _) _ _ (by decide)) _ _ (by decide)) _ _ (by decide)) _ _ (by decide), fun j hj => by simp [up, hj]⟩⟩
    · have h9 := hw.2.1 t a b
      rw [cPl_app, cRt_app, cPs_app]
      simp only
      by_cases ht : t = n
      · subst ht
        have c1 : (k = 0 ∨ k = 3) ∧ t = t := ⟨by omega, rfl⟩
        have c3 : ¬ (k = 2 ∧ t = t) := by omega
        rw [if_pos c1, if_neg c3, if_neg (fun q => h35 (by rw [a2]; exact q.1.2))]
        refine ⟨?_, ?_, ?_⟩ <;> simp [up] <;> omega
      · rw [if_neg (fun q => ht q.2.symm), if_neg (fun q => ht q.2.symm), if_neg (fun q => ht q.2.symm)]
        refine ⟨?_, ?_, ?_⟩ <;> simp [up, ht] <;> omega
    · rw [mtF_app]
      simp only
      by_cases ht : t = e
      · subst ht
        rw [if_pos ⟨rfl, by omega⟩]
        simp [up]
      · rw [if_neg (fun q => ht q.1.symm), ← hw.2.2.1 t a (by omega)]
        simp [up, ht]
    · rcases List.mem_append.mp hs2 with q | q
      · have := hw.2.2.2 s q; exact ⟨this.1, by omega⟩
      · have := List.mem_singleton.mp q; subst this; exact ⟨by simp only [okSt]; omega, by simp only; omega⟩
  · refine k_aln hK (q := 39)  dX1_match_38 rfl (z := 22) rfl (k_gR hK (q := 42) (r := 27) dX1_match_39 rfl rf_X1_24 rfl rfl (k_iln hK (q := 43)  dX1_match_42 rfl (z := n) rfl (k_dup2 hK (q := 44)  dX1_match_43 rfl rfl rfl (k_ald hK (q := 45)  dX1_match_44 rfl (y := M 27 n) rfl (by omega) rfl (k_ic hK (q := 46)  dX1_match_45 rfl (by decide) ?_)))))
    refine k_add hK (q := 47)  dX1_match_46 rfl (z := (M 27 n) + 1) rfl (by omega) (k_ast hK (q := 48)  dX1_match_47 rfl rfl (by omega) (k_aln hK (q := 49)  dX1_match_48 rfl (z := 22) rfl (k_iln hK (q := 50)  dX1_match_49 rfl (z := k) rfl (k_iln hK (q := 51)  dX1_match_50 rfl (z := n) rfl (k_iln hK (q := 52)  dX1_match_51 rfl (z := e) rfl ?_)))))
    refine k_il hK (q := 54)  dX1_match_52 rfl (z := c) rfl ?_
    refine k_iv4I hK (q := 57) dX1_match_54 rfl rm_X1_152 rfl rfl (Nat.le_of_ble_eq_true rfl) (xc_keepStep _ (up (up (up M 25 e n) 26 n ((M 26 n) + 1)) 27 n ((M 27 n) + 1)) k n e c (by simp only [okSt]; omega) (by simp [up]; omega)) ?_
    refine k_irz hK dX1_match_57 rfl (by decide) ?_
    refine ⟨rfl, ⟨CO_app hw.1 (by simp [up]) (by funext j; simp [up]), fun t a b => ?_, fun t a b => ?_, fun s hs2 => ?_⟩, ⟨frX_up (frX_up (frX_up (frX_up (frX_up (frX_refl _ _) _ _ (by decide)) _ _ (by decide)) _ _ (by decide)) _ _ (by decide)) _ _ (by decide), fun j hj => by simp [up, hj]⟩⟩
    · have h9 := hw.2.1 t a b
      rw [cPl_app, cRt_app, cPs_app]
      simp only
      by_cases ht : t = n
      · subst ht
        have c1 : (k = 0 ∨ k = 3) ∧ t = t := ⟨by omega, rfl⟩
        have c3 : ¬ (k = 2 ∧ t = t) := by omega
        rw [if_pos c1, if_neg c3, if_pos ⟨⟨by omega, by rw [← a2]; omega⟩, rfl⟩]
        refine ⟨?_, ?_, ?_⟩ <;> simp [up] <;> omega
      · rw [if_neg (fun q => ht q.2.symm), if_neg (fun q => ht q.2.symm), if_neg (fun q => ht q.2.symm)]
        refine ⟨?_, ?_, ?_⟩ <;> simp [up, ht] <;> omega
    · rw [mtF_app]
      simp only
      by_cases ht : t = e
      · subst ht
        rw [if_pos ⟨rfl, by omega⟩]
        simp [up]
      · rw [if_neg (fun q => ht q.1.symm), ← hw.2.2.1 t a (by omega)]
        simp [up, ht]
    · rcases List.mem_append.mp hs2 with q | q
      · have := hw.2.2.2 s q; exact ⟨this.1, by omega⟩
      · have := List.mem_singleton.mp q; subst this; exact ⟨by simp only [okSt]; omega, by simp only; omega⟩
end
